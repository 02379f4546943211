set_option maxRecDepth 20000 in
theorem c_X6_ofPacket {l : Launch} {Z : zZ} {x a b a3 b4 c e : Nat → Nat} {und : Int} {hs ss : List Nat} {us : Int → Int} {N : Int → Int} {ef : Int} {op ln nm qu : Int → Int} {qd : Int} {sk : Int → Int} {p w : Int} (hw : wf N) (hok : rOK N ef op ln) (h01 : ∀ x : Int, 0 ≤ x → x < 40 → sk x = 0 ∨ sk x = 1) (hpr : -2147483648 ≤ p ∧ p < 2147483648) (hwr : -2147483648 ≤ w ∧ w < 2147483648) : zI (T := (Int → Int)) l yX6_ofPacket (Cond.code yX6_ofPacket cX6_ofPacket 4 (some .int) :: wsL_law) ({ frames := 7, cells := 0, slots := 0, locals := 167 } : Room) Z [.ref (x 0), .int (iI p), .int (iI w)] (zf [soW Z a N (ins N) (mvF N) (N 3), gW Z a (N 4) (N 5) (bkL N), pW Z a (N 6) (pkF N 0) (pkF N 1) (pkF N 2) (pkF N 3) (pkF N 4) (pkF N 5) (pkF N 6) (pkF N 7) (pkF N 8) (pkF N 9), xW Z x (a 0) (b 0) (a3 0) (b4 0) (c 0) (e 0) und hs ss us, rW Z b ef op ln nm qu qd, jW Z c sk]) (fun u => zf [soW Z a N (ins N) (mvF N) (N 3), gW Z a (N 4) (N 5) (bkL N), pW Z a (N 6) (pkF N 0) (pkF N 1) (pkF N 2) (pkF N 3) (pkF N 4) (pkF N 5) (pkF N 6) (pkF N 7) (pkF N 8) (pkF N 9), xW Z x (a 0) (b 0) (a3 0) (b4 0) (c 0) (e 0) und hs ss us, rW Z b ef op ln nm qu qd, jW Z c u]) (fun ρ u => ρ = opR N p w ∧ ∀ x : Int, 0 ≤ x → x < 40 → u x = 0 ∨ u x = 1) := by
  refine zI_of (C := RX6) (by decide +kernel) rfl (Nat.le_of_ble_eq_true rfl) (fun _ => True) znI (fun X ok fin => ?_)
  obtain ⟨w0, w1, w2, hc, hr, w6, wl, wp⟩ := id hw
  have hcr := cr_rng hc hr
  refine z_lsub ok (lv' := [(0, .ref (x 0)), (1, .int (iI p)), (2, .int (iI w))]) [0, 1, 2] rfl ?_
  refine z_aload_n ok dX6_ofPacket_0 rfl ?_
  refine z_get (v := .ref (a 0)) ok zc6 16 rfl 0 (by decide) qf_RX6_12 rfl rfl dX6_ofPacket_1 ?_
  refine z_get (v := .ref (a 3)) ok zc5 0 rfl 2 (by decide) qf_RX6_79 rfl rfl dX6_ofPacket_4 ?_
  refine z_astore_n (lv' := [(3, .ref (a 3)), (0, .ref (x 0)), (1, .int (iI p)), (2, .int (iI w))]) ok dX6_ofPacket_7 (by decide) rfl ?_
  refine z_aload_n ok dX6_ofPacket_8 rfl ?_
  refine z_iload_n ok dX6_ofPacket_9 rfl ?_
  refine z_callVif ok (fun l => c_X2_has  (by omega) (by omega)) zm_X2_has zv_X2_has qm_RX6_126 dX6_ofPacket_10 (by decide) (by decide) rfl rfl (Nat.le_of_ble_eq_true rfl) (q0 := 0) rfl rfl rfl (L := [soW Z a N (ins N) (mvF N) (N 3), gW Z a (N 4) (N 5) (bkL N), pW Z a (N 6) (pkF N 0) (pkF N 1) (pkF N 2) (pkF N 3) (pkF N 4) (pkF N 5) (pkF N 6) (pkF N 7) (pkF N 8) (pkF N 9), xW Z x (a 0) (b 0) (a3 0) (b4 0) (c 0) (e 0) und hs ss us, rW Z b ef op ln nm qu qd, jW Z c sk]) (Lr := [soW Z a N (ins N) (mvF N) (N 3), gW Z a (N 4) (N 5) (bkL N), xW Z x (a 0) (b 0) (a3 0) (b4 0) (c 0) (e 0) und hs ss us, rW Z b ef op ln nm qu qd, jW Z c sk]) [2, 0, 1, 3, 4, 5] [1, 2, 0, 3, 4, 5] rfl rfl (fun _ => rfl) (fun ρ _ hρ => ?_)
  subst hρ
  refine z_eq (ws' := zf [soW Z a N (ins N) (mvF N) (N 3), gW Z a (N 4) (N 5) (bkL N), pW Z a (N 6) (pkF N 0) (pkF N 1) (pkF N 2) (pkF N 3) (pkF N 4) (pkF N 5) (pkF N 6) (pkF N 7) (pkF N 8) (pkF N 9), xW Z x (a 0) (b 0) (a3 0) (b4 0) (c 0) (e 0) und hs ss us, rW Z b ef op ln nm qu qd, jW Z c sk]) rfl ?_
  refine z_ifb_ne (tgt := 18) ok dX6_ofPacket_13 (by decide) (fun c13 => ?_) (fun c13 => ?_)
  · -- t
    have wpp := wp p (by omega) (by omega)
    refine z_iload_n ok dX6_ofPacket_18 rfl ?_
    rcases (show w < 0 ∨ 12 < w ∨ w = 0 ∨ w = 1 ∨ w = 2 ∨ w = 3 ∨ w = 4 ∨ w = 5 ∨ w = 6 ∨ w = 7 ∨ w = 8 ∨ w = 9 ∨ w = 10 ∨ w = 11 ∨ w = 12 by omega) with c19 | c19 | c19 | c19 | c19 | c19 | c19 | c19 | c19 | c19 | c19 | c19 | c19 | c19 | c19
    · -- switch
      refine z_tableOut (tgt := 206) ok dX6_ofPacket_19 (by omega) (by omega) (by decide) ?_
      refine z_bipush ok dX6_ofPacket_206 (by decide) ?_
      exact fin (-2) sk 208 _ _ _ dX6_ofPacket_208 (trivial) (⟨by unfold opR; rw [zif_t c13, if_neg (show ¬ w = 10 by omega), if_neg (show ¬ w = 11 by omega), if_neg (show ¬ w = 12 by omega), if_neg (show ¬ (0 ≤ w ∧ w ≤ 9) by omega)], h01⟩) (by decide) (by decide)
    · -- switch
      refine z_tableOut (tgt := 206) ok dX6_ofPacket_19 (by omega) (by omega) (by decide) ?_
      refine z_bipush ok dX6_ofPacket_206 (by decide) ?_
      exact fin (-2) sk 208 _ _ _ dX6_ofPacket_208 (trivial) (⟨by unfold opR; rw [zif_t c13, if_neg (show ¬ w = 10 by omega), if_neg (show ¬ w = 11 by omega), if_neg (show ¬ w = 12 by omega), if_neg (show ¬ (0 ≤ w ∧ w ≤ 9) by omega)], h01⟩) (by decide) (by decide)
    · -- switch
      refine z_tableIn (off := 65) (tgt := 84) ok dX6_ofPacket_19 (by omega) (by omega) (by omega) (by rw [c19]; rfl) (by decide) ?_
      refine z_aload_n ok dX6_ofPacket_84 rfl ?_
      refine z_get (v := .ref (a 4)) ok zc2 5 rfl 1 (by decide) qf_RX6_129 rfl rfl dX6_ofPacket_85 ?_
      refine z_iload_n ok dX6_ofPacket_88 rfl ?_
      refine z_iale (f := pkF N 0) (v := pk N p 0) ok 6 rfl rfl dX6_ofPacket_89 (by omega) (by decide) ?_
      exact fin (pk N p 0) sk 90 _ _ _ dX6_ofPacket_90 (trivial) (⟨by unfold opR; rw [zif_t c13, if_neg (show ¬ w = 10 by omega), if_neg (show ¬ w = 11 by omega), if_neg (show ¬ w = 12 by omega), if_pos (show 0 ≤ w ∧ w ≤ 9 by omega), show w = 0 by omega], h01⟩) (by decide) (by decide)
    · -- switch
      refine z_tableIn (off := 72) (tgt := 91) ok dX6_ofPacket_19 (by omega) (by omega) (by omega) (by rw [c19]; rfl) (by decide) ?_
      refine z_aload_n ok dX6_ofPacket_91 rfl ?_
      refine z_get (v := .ref (a 5)) ok zc2 5 rfl 2 (by decide) qf_RX6_132 rfl rfl dX6_ofPacket_92 ?_
      refine z_iload_n ok dX6_ofPacket_95 rfl ?_
      refine z_iale (f := pkF N 1) (v := pk N p 1) ok 7 rfl rfl dX6_ofPacket_96 (by omega) (by decide) ?_
      exact fin (pk N p 1) sk 97 _ _ _ dX6_ofPacket_97 (trivial) (⟨by unfold opR; rw [zif_t c13, if_neg (show ¬ w = 10 by omega), if_neg (show ¬ w = 11 by omega), if_neg (show ¬ w = 12 by omega), if_pos (show 0 ≤ w ∧ w ≤ 9 by omega), show w = 1 by omega], h01⟩) (by decide) (by decide)
    · -- switch
      refine z_tableIn (off := 79) (tgt := 98) ok dX6_ofPacket_19 (by omega) (by omega) (by omega) (by rw [c19]; rfl) (by decide) ?_
      refine z_aload_n ok dX6_ofPacket_98 rfl ?_
      refine z_get (v := .ref (a 6)) ok zc2 5 rfl 3 (by decide) qf_RX6_135 rfl rfl dX6_ofPacket_99 ?_
      refine z_iload_n ok dX6_ofPacket_102 rfl ?_
      refine z_iale (f := pkF N 2) (v := pk N p 2) ok 8 rfl rfl dX6_ofPacket_103 (by omega) (by decide) ?_
      exact fin (pk N p 2) sk 104 _ _ _ dX6_ofPacket_104 (trivial) (⟨by unfold opR; rw [zif_t c13, if_neg (show ¬ w = 10 by omega), if_neg (show ¬ w = 11 by omega), if_neg (show ¬ w = 12 by omega), if_pos (show 0 ≤ w ∧ w ≤ 9 by omega), show w = 2 by omega], h01⟩) (by decide) (by decide)
    · -- switch
      refine z_tableIn (off := 86) (tgt := 105) ok dX6_ofPacket_19 (by omega) (by omega) (by omega) (by rw [c19]; rfl) (by decide) ?_
      refine z_aload_n ok dX6_ofPacket_105 rfl ?_
      refine z_get (v := .ref (a 7)) ok zc2 5 rfl 4 (by decide) qf_RX6_138 rfl rfl dX6_ofPacket_106 ?_
      refine z_iload_n ok dX6_ofPacket_109 rfl ?_
      refine z_iale (f := pkF N 3) (v := pk N p 3) ok 9 rfl rfl dX6_ofPacket_110 (by omega) (by decide) ?_
      exact fin (pk N p 3) sk 111 _ _ _ dX6_ofPacket_111 (trivial) (⟨by unfold opR; rw [zif_t c13, if_neg (show ¬ w = 10 by omega), if_neg (show ¬ w = 11 by omega), if_neg (show ¬ w = 12 by omega), if_pos (show 0 ≤ w ∧ w ≤ 9 by omega), show w = 3 by omega], h01⟩) (by decide) (by decide)
    · -- switch
      refine z_tableIn (off := 93) (tgt := 112) ok dX6_ofPacket_19 (by omega) (by omega) (by omega) (by rw [c19]; rfl) (by decide) ?_
      refine z_aload_n ok dX6_ofPacket_112 rfl ?_
      refine z_get (v := .ref (a 8)) ok zc2 5 rfl 5 (by decide) qf_RX6_141 rfl rfl dX6_ofPacket_113 ?_
      refine z_iload_n ok dX6_ofPacket_116 rfl ?_
      refine z_iale (f := pkF N 4) (v := pk N p 4) ok 10 rfl rfl dX6_ofPacket_117 (by omega) (by decide) ?_
      exact fin (pk N p 4) sk 118 _ _ _ dX6_ofPacket_118 (trivial) (⟨by unfold opR; rw [zif_t c13, if_neg (show ¬ w = 10 by omega), if_neg (show ¬ w = 11 by omega), if_neg (show ¬ w = 12 by omega), if_pos (show 0 ≤ w ∧ w ≤ 9 by omega), show w = 4 by omega], h01⟩) (by decide) (by decide)
    · -- switch
      refine z_tableIn (off := 100) (tgt := 119) ok dX6_ofPacket_19 (by omega) (by omega) (by omega) (by rw [c19]; rfl) (by decide) ?_
      refine z_aload_n ok dX6_ofPacket_119 rfl ?_
      refine z_get (v := .ref (a 9)) ok zc2 5 rfl 6 (by decide) qf_RX6_144 rfl rfl dX6_ofPacket_120 ?_
      refine z_iload_n ok dX6_ofPacket_123 rfl ?_
      refine z_iale (f := pkF N 5) (v := pk N p 5) ok 11 rfl rfl dX6_ofPacket_124 (by omega) (by decide) ?_
      exact fin (pk N p 5) sk 125 _ _ _ dX6_ofPacket_125 (trivial) (⟨by unfold opR; rw [zif_t c13, if_neg (show ¬ w = 10 by omega), if_neg (show ¬ w = 11 by omega), if_neg (show ¬ w = 12 by omega), if_pos (show 0 ≤ w ∧ w ≤ 9 by omega), show w = 5 by omega], h01⟩) (by decide) (by decide)
    · -- switch
      refine z_tableIn (off := 107) (tgt := 126) ok dX6_ofPacket_19 (by omega) (by omega) (by omega) (by rw [c19]; rfl) (by decide) ?_
      refine z_aload_n ok dX6_ofPacket_126 rfl ?_
      refine z_get (v := .ref (a 10)) ok zc2 5 rfl 7 (by decide) qf_RX6_147 rfl rfl dX6_ofPacket_127 ?_
      refine z_iload_n ok dX6_ofPacket_130 rfl ?_
      refine z_iale (f := pkF N 6) (v := pk N p 6) ok 12 rfl rfl dX6_ofPacket_131 (by omega) (by decide) ?_
      exact fin (pk N p 6) sk 132 _ _ _ dX6_ofPacket_132 (trivial) (⟨by unfold opR; rw [zif_t c13, if_neg (show ¬ w = 10 by omega), if_neg (show ¬ w = 11 by omega), if_neg (show ¬ w = 12 by omega), if_pos (show 0 ≤ w ∧ w ≤ 9 by omega), show w = 6 by omega], h01⟩) (by decide) (by decide)
    · -- switch
      refine z_tableIn (off := 114) (tgt := 133) ok dX6_ofPacket_19 (by omega) (by omega) (by omega) (by rw [c19]; rfl) (by decide) ?_
      refine z_aload_n ok dX6_ofPacket_133 rfl ?_
      refine z_get (v := .ref (a 11)) ok zc2 5 rfl 8 (by decide) qf_RX6_150 rfl rfl dX6_ofPacket_134 ?_
      refine z_iload_n ok dX6_ofPacket_137 rfl ?_
      refine z_iale (f := pkF N 7) (v := pk N p 7) ok 13 rfl rfl dX6_ofPacket_138 (by omega) (by decide) ?_
      exact fin (pk N p 7) sk 139 _ _ _ dX6_ofPacket_139 (trivial) (⟨by unfold opR; rw [zif_t c13, if_neg (show ¬ w = 10 by omega), if_neg (show ¬ w = 11 by omega), if_neg (show ¬ w = 12 by omega), if_pos (show 0 ≤ w ∧ w ≤ 9 by omega), show w = 7 by omega], h01⟩) (by decide) (by decide)
    · -- switch
      refine z_tableIn (off := 121) (tgt := 140) ok dX6_ofPacket_19 (by omega) (by omega) (by omega) (by rw [c19]; rfl) (by decide) ?_
      refine z_aload_n ok dX6_ofPacket_140 rfl ?_
      refine z_get (v := .ref (a 12)) ok zc2 5 rfl 9 (by decide) qf_RX6_153 rfl rfl dX6_ofPacket_141 ?_
      refine z_iload_n ok dX6_ofPacket_144 rfl ?_
      refine z_iale (f := pkF N 8) (v := pk N p 8) ok 14 rfl rfl dX6_ofPacket_145 (by omega) (by decide) ?_
      exact fin (pk N p 8) sk 146 _ _ _ dX6_ofPacket_146 (trivial) (⟨by unfold opR; rw [zif_t c13, if_neg (show ¬ w = 10 by omega), if_neg (show ¬ w = 11 by omega), if_neg (show ¬ w = 12 by omega), if_pos (show 0 ≤ w ∧ w ≤ 9 by omega), show w = 8 by omega], h01⟩) (by decide) (by decide)
    · -- switch
      refine z_tableIn (off := 128) (tgt := 147) ok dX6_ofPacket_19 (by omega) (by omega) (by omega) (by rw [c19]; rfl) (by decide) ?_
      refine z_aload_n ok dX6_ofPacket_147 rfl ?_
      refine z_get (v := .ref (a 13)) ok zc2 5 rfl 10 (by decide) qf_RX6_156 rfl rfl dX6_ofPacket_148 ?_
      refine z_iload_n ok dX6_ofPacket_151 rfl ?_
      refine z_iale (f := pkF N 9) (v := pk N p 9) ok 15 rfl rfl dX6_ofPacket_152 (by omega) (by decide) ?_
      exact fin (pk N p 9) sk 153 _ _ _ dX6_ofPacket_153 (trivial) (⟨by unfold opR; rw [zif_t c13, if_neg (show ¬ w = 10 by omega), if_neg (show ¬ w = 11 by omega), if_neg (show ¬ w = 12 by omega), if_pos (show 0 ≤ w ∧ w ≤ 9 by omega), show w = 9 by omega], h01⟩) (by decide) (by decide)
    · -- switch
      refine z_tableIn (off := 135) (tgt := 154) ok dX6_ofPacket_19 (by omega) (by omega) (by omega) (by rw [c19]; rfl) (by decide) ?_
      refine z_aload_n ok dX6_ofPacket_154 rfl ?_
      refine z_get (v := .ref (a 0)) ok zc6 16 rfl 0 (by decide) qf_RX6_12 rfl rfl dX6_ofPacket_155 ?_
      refine z_aload_n ok dX6_ofPacket_158 rfl ?_
      refine z_get (v := .ref (b 0)) ok zc6 16 rfl 1 (by decide) qf_RX6_19 rfl rfl dX6_ofPacket_159 ?_
      refine z_iload_n ok dX6_ofPacket_162 rfl ?_
      refine z_callVif ok (fun l => c_X5_wayLengthOf  (hw) (hok) (c13)) zm_X5_wayLengthOf zv_X5_wayLengthOf qm_RX6_159 dX6_ofPacket_163 (by decide) (by decide) rfl rfl (Nat.le_of_ble_eq_true rfl) (q0 := 0) rfl rfl rfl (L := [soW Z a N (ins N) (mvF N) (N 3), gW Z a (N 4) (N 5) (bkL N), pW Z a (N 6) (pkF N 0) (pkF N 1) (pkF N 2) (pkF N 3) (pkF N 4) (pkF N 5) (pkF N 6) (pkF N 7) (pkF N 8) (pkF N 9), xW Z x (a 0) (b 0) (a3 0) (b4 0) (c 0) (e 0) und hs ss us, rW Z b ef op ln nm qu qd, jW Z c sk]) (Lr := [xW Z x (a 0) (b 0) (a3 0) (b4 0) (c 0) (e 0) und hs ss us, jW Z c sk]) [0, 1, 2, 4, 3, 5] [0, 1, 2, 4, 3, 5] rfl rfl (fun _ => rfl) (fun ρ _ hρ => ?_)
      subst hρ
      refine z_eq (ws' := zf [soW Z a N (ins N) (mvF N) (N 3), gW Z a (N 4) (N 5) (bkL N), pW Z a (N 6) (pkF N 0) (pkF N 1) (pkF N 2) (pkF N 3) (pkF N 4) (pkF N 5) (pkF N 6) (pkF N 7) (pkF N 8) (pkF N 9), xW Z x (a 0) (b 0) (a3 0) (b4 0) (c 0) (e 0) und hs ss us, rW Z b ef op ln nm qu qd, jW Z c sk]) rfl ?_
      exact fin (fr N (pk N p 1) (stg N p)) sk 166 _ _ _ dX6_ofPacket_166 (trivial) (⟨by unfold opR; rw [zif_t c13, if_pos (show w = 10 by omega)], h01⟩) (by decide) (by decide)
    · -- switch
      refine z_tableIn (off := 148) (tgt := 167) ok dX6_ofPacket_19 (by omega) (by omega) (by omega) (by rw [c19]; rfl) (by decide) ?_
      refine z_aload_n ok dX6_ofPacket_167 rfl ?_
      refine z_get (v := .ref (a 0)) ok zc6 16 rfl 0 (by decide) qf_RX6_12 rfl rfl dX6_ofPacket_168 ?_
      refine z_aload_n ok dX6_ofPacket_171 rfl ?_
      refine z_get (v := .ref (b 0)) ok zc6 16 rfl 1 (by decide) qf_RX6_19 rfl rfl dX6_ofPacket_172 ?_
      refine z_iload_n ok dX6_ofPacket_175 rfl ?_
      refine z_iconst ok dX6_ofPacket_176 ?_
      refine z_callVif ok (fun l => c_X5_firstSide  (hw) (hok) (c13) (by decide)) zm_X5_firstSide zv_X5_firstSide qm_RX6_163 dX6_ofPacket_177 (by decide) (by decide) rfl rfl (Nat.le_of_ble_eq_true rfl) (q0 := 0) rfl rfl rfl (L := [soW Z a N (ins N) (mvF N) (N 3), gW Z a (N 4) (N 5) (bkL N), pW Z a (N 6) (pkF N 0) (pkF N 1) (pkF N 2) (pkF N 3) (pkF N 4) (pkF N 5) (pkF N 6) (pkF N 7) (pkF N 8) (pkF N 9), xW Z x (a 0) (b 0) (a3 0) (b4 0) (c 0) (e 0) und hs ss us, rW Z b ef op ln nm qu qd, jW Z c sk]) (Lr := [xW Z x (a 0) (b 0) (a3 0) (b4 0) (c 0) (e 0) und hs ss us, jW Z c sk]) [0, 1, 2, 4, 3, 5] [0, 1, 2, 4, 3, 5] rfl rfl (fun _ => rfl) (fun ρ _ hρ => ?_)
      subst hρ
      refine z_eq (ws' := zf [soW Z a N (ins N) (mvF N) (N 3), gW Z a (N 4) (N 5) (bkL N), pW Z a (N 6) (pkF N 0) (pkF N 1) (pkF N 2) (pkF N 3) (pkF N 4) (pkF N 5) (pkF N 6) (pkF N 7) (pkF N 8) (pkF N 9), xW Z x (a 0) (b 0) (a3 0) (b4 0) (c 0) (e 0) und hs ss us, rW Z b ef op ln nm qu qd, jW Z c sk]) rfl ?_
      exact fin (fsG N p 0) sk 180 _ _ _ dX6_ofPacket_180 (trivial) (⟨by unfold opR; rw [zif_t c13, if_neg (show ¬ w = 10 by omega), if_pos (show w = 11 by omega)]; by_cases h2 : pk N p 2 = 2; (rw [if_pos h2]; unfold fsG; exact zif_t h2); (rw [if_neg h2]; exact fsG_0 h2), h01⟩) (by decide) (by decide)
    · -- switch
      refine z_tableIn (off := 162) (tgt := 181) ok dX6_ofPacket_19 (by omega) (by omega) (by omega) (by rw [c19]; rfl) (by decide) ?_
      refine z_aload_n ok dX6_ofPacket_181 rfl ?_
      refine z_get (v := .ref (c 0)) ok zc6 16 rfl 4 (by decide) qf_RX6_32 rfl rfl dX6_ofPacket_182 ?_
      refine z_aload_n ok dX6_ofPacket_185 rfl ?_
      refine z_get (v := .ref (a 0)) ok zc6 16 rfl 0 (by decide) qf_RX6_12 rfl rfl dX6_ofPacket_186 ?_
      refine z_aload_n ok dX6_ofPacket_189 rfl ?_
      refine z_get (v := .ref (b 0)) ok zc6 16 rfl 1 (by decide) qf_RX6_19 rfl rfl dX6_ofPacket_190 ?_
      refine z_iload_n ok dX6_ofPacket_193 rfl ?_
      refine z_callVif ok (fun l => c_X1_holds  (hw) (hok) (h01) (by omega)) zm_X1_holds zv_X1_holds qm_RX6_167 dX6_ofPacket_194 (by decide) (by decide) rfl rfl (Nat.le_of_ble_eq_true rfl) (q0 := 0) rfl rfl rfl (L := [soW Z a N (ins N) (mvF N) (N 3), gW Z a (N 4) (N 5) (bkL N), pW Z a (N 6) (pkF N 0) (pkF N 1) (pkF N 2) (pkF N 3) (pkF N 4) (pkF N 5) (pkF N 6) (pkF N 7) (pkF N 8) (pkF N 9), xW Z x (a 0) (b 0) (a3 0) (b4 0) (c 0) (e 0) und hs ss us, rW Z b ef op ln nm qu qd, jW Z c sk]) (Lr := [xW Z x (a 0) (b 0) (a3 0) (b4 0) (c 0) (e 0) und hs ss us]) [5, 0, 1, 2, 4, 3] [1, 2, 3, 5, 4, 0] rfl rfl (fun _ => rfl) (fun r194 u194 hp194 => ?_)
      obtain ⟨sk_194, rfl⟩ : ∃ z, z = u194 := ⟨_, rfl⟩
      try dsimp only at hp194
      obtain ⟨rfl, h01194⟩ := hp194
      refine z_eq (ws' := zf [soW Z a N (ins N) (mvF N) (N 3), gW Z a (N 4) (N 5) (bkL N), pW Z a (N 6) (pkF N 0) (pkF N 1) (pkF N 2) (pkF N 3) (pkF N 4) (pkF N 5) (pkF N 6) (pkF N 7) (pkF N 8) (pkF N 9), xW Z x (a 0) (b 0) (a3 0) (b4 0) (c 0) (e 0) und hs ss us, rW Z b ef op ln nm qu qd, jW Z c sk_194]) rfl ?_
      refine z_ifb_eq (tgt := 204) ok dX6_ofPacket_197 (by decide) (fun c197 => ?_) (fun c197 => ?_)
      · -- t
        refine z_iconst ok dX6_ofPacket_204 ?_
        exact fin 0 sk_194 205 _ _ _ dX6_ofPacket_205 (trivial) (⟨by unfold opR; rw [zif_t c13, if_neg (show ¬ w = 10 by omega), if_neg (show ¬ w = 11 by omega), if_pos (show w = 12 by omega)]; first | exact (zb_t c197.2).symm | exact (zb_f (fun z => c197 ⟨c13, z⟩)).symm, h01194⟩) (by decide) (by decide)
      · -- f
        refine z_iconst ok dX6_ofPacket_200 ?_
        refine z_goto (tgt := 205) ok dX6_ofPacket_201 (by decide) ?_
        exact fin 1 sk_194 205 _ _ _ dX6_ofPacket_205 (trivial) (⟨by unfold opR; rw [zif_t c13, if_neg (show ¬ w = 10 by omega), if_neg (show ¬ w = 11 by omega), if_pos (show w = 12 by omega)]; first | exact (zb_t c197.2).symm | exact (zb_f (fun z => c197 ⟨c13, z⟩)).symm, h01194⟩) (by decide) (by decide)
  · -- f
    refine z_iconst ok dX6_ofPacket_16 ?_
    exact fin (-1) sk 17 _ _ _ dX6_ofPacket_17 (trivial) (⟨by unfold opR; exact (zif_f c13).symm, h01⟩) (by decide) (by decide)
set_option maxRecDepth 20000 in
theorem c_X6_arrivesIn {l : Launch} {Z : zZ} {x a b a3 b4 c e : Nat → Nat} {und : Int} {hs ss : List Nat} {us : Int → Int} {N : Int → Int} {ef : Int} {op ln nm qu : Int → Int} {qd : Int} {K : Int → Int} {p : Int} (hw : wf N) (hok : rOK N ef op ln) (hpr : -2147483648 ≤ p ∧ p < 2147483648) : zI (T := (Int → Int)) l yX6_arrivesIn (Cond.code yX6_arrivesIn cX6_arrivesIn 3 (some .int) :: wsL_law) ({ frames := 6, cells := 0, slots := 0, locals := 150 } : Room) Z [.ref (x 0), .int (iI p)] (zf [soW Z a N (ins N) (mvF N) (N 3), gW Z a (N 4) (N 5) (bkL N), pW Z a (N 6) (pkF N 0) (pkF N 1) (pkF N 2) (pkF N 3) (pkF N 4) (pkF N 5) (pkF N 6) (pkF N 7) (pkF N 8) (pkF N 9), soW Z a3 K (ins K) (mvF K) (K 3), gW Z a3 (K 4) (K 5) (bkL K), pW Z a3 (K 6) (pkF K 0) (pkF K 1) (pkF K 2) (pkF K 3) (pkF K 4) (pkF K 5) (pkF K 6) (pkF K 7) (pkF K 8) (pkF K 9), xW Z x (a 0) (b 0) (a3 0) (b4 0) (c 0) (e 0) und hs ss us, rW Z b ef op ln nm qu qd]) (fun u => zf [soW Z a N (ins N) (mvF N) (N 3), gW Z a (N 4) (N 5) (bkL N), pW Z a (N 6) (pkF N 0) (pkF N 1) (pkF N 2) (pkF N 3) (pkF N 4) (pkF N 5) (pkF N 6) (pkF N 7) (pkF N 8) (pkF N 9), soW Z a3 u (ins u) (mvF u) (u 3), gW Z a3 (u 4) (u 5) (bkL u), pW Z a3 (u 6) (pkF u 0) (pkF u 1) (pkF u 2) (pkF u 3) (pkF u 4) (pkF u 5) (pkF u 6) (pkF u 7) (pkF u 8) (pkF u 9), xW Z x (a 0) (b 0) (a3 0) (b4 0) (c 0) (e 0) und hs ss us, rW Z b ef op ln nm qu qd]) (fun ρ u => ρ = arR N p) := by
  refine zI_of (C := RX6) (by decide +kernel) rfl (Nat.le_of_ble_eq_true rfl) (fun _ => True) znI (fun X ok fin => ?_)
  obtain ⟨w0, w1, w2, hc, hr, w6, wl, wp⟩ := id hw
  have hcr := cr_rng hc hr
  refine z_lsub ok (lv' := [(0, .ref (x 0)), (1, .int (iI p))]) [0, 1] rfl ?_
  refine z_aload_n ok dX6_arrivesIn_0 rfl ?_
  refine z_get (v := .ref (a 0)) ok zc6 32 rfl 0 (by decide) qf_RX6_12 rfl rfl dX6_arrivesIn_1 ?_
  refine z_get (v := .ref (a 3)) ok zc5 0 rfl 2 (by decide) qf_RX6_79 rfl rfl dX6_arrivesIn_4 ?_
  refine z_iload_n ok dX6_arrivesIn_7 rfl ?_
  refine z_callVig ok (fun l => c_X2_has  (by omega) (by omega)) zm_X2_has zv_X2_has qm_RX6_126 dX6_arrivesIn_8 (by decide) (by decide) rfl rfl (Nat.le_of_ble_eq_true rfl) (q0 := 0) rfl rfl rfl (L := [soW Z a N (ins N) (mvF N) (N 3), gW Z a (N 4) (N 5) (bkL N), pW Z a (N 6) (pkF N 0) (pkF N 1) (pkF N 2) (pkF N 3) (pkF N 4) (pkF N 5) (pkF N 6) (pkF N 7) (pkF N 8) (pkF N 9), soW Z a3 K (ins K) (mvF K) (K 3), gW Z a3 (K 4) (K 5) (bkL K), pW Z a3 (K 6) (pkF K 0) (pkF K 1) (pkF K 2) (pkF K 3) (pkF K 4) (pkF K 5) (pkF K 6) (pkF K 7) (pkF K 8) (pkF K 9), xW Z x (a 0) (b 0) (a3 0) (b4 0) (c 0) (e 0) und hs ss us, rW Z b ef op ln nm qu qd]) (Lr := [soW Z a N (ins N) (mvF N) (N 3), gW Z a (N 4) (N 5) (bkL N), soW Z a3 K (ins K) (mvF K) (K 3), gW Z a3 (K 4) (K 5) (bkL K), pW Z a3 (K 6) (pkF K 0) (pkF K 1) (pkF K 2) (pkF K 3) (pkF K 4) (pkF K 5) (pkF K 6) (pkF K 7) (pkF K 8) (pkF K 9), xW Z x (a 0) (b 0) (a3 0) (b4 0) (c 0) (e 0) und hs ss us, rW Z b ef op ln nm qu qd]) 8 [2, 0, 1, 3, 4, 5, 6, 7] [1, 2, 0, 3, 4, 5, 6, 7] rfl (by decide +kernel) rfl (fun _ => rfl) (by decide +kernel) (fun ρ _ hρ => ?_)
  subst hρ
  refine z_eq (ws' := zf [soW Z a N (ins N) (mvF N) (N 3), gW Z a (N 4) (N 5) (bkL N), pW Z a (N 6) (pkF N 0) (pkF N 1) (pkF N 2) (pkF N 3) (pkF N 4) (pkF N 5) (pkF N 6) (pkF N 7) (pkF N 8) (pkF N 9), soW Z a3 K (ins K) (mvF K) (K 3), gW Z a3 (K 4) (K 5) (bkL K), pW Z a3 (K 6) (pkF K 0) (pkF K 1) (pkF K 2) (pkF K 3) (pkF K 4) (pkF K 5) (pkF K 6) (pkF K 7) (pkF K 8) (pkF K 9), xW Z x (a 0) (b 0) (a3 0) (b4 0) (c 0) (e 0) und hs ss us, rW Z b ef op ln nm qu qd]) rfl ?_
  refine z_ifb_ne (tgt := 16) ok dX6_arrivesIn_11 (by decide) (fun c11 => ?_) (fun c11 => ?_)
  · -- t
    refine z_aload_n ok dX6_arrivesIn_16 rfl ?_
    refine z_get (v := .ref (a 0)) ok zc6 32 rfl 0 (by decide) qf_RX6_12 rfl rfl dX6_arrivesIn_17 ?_
    refine z_aload_n ok dX6_arrivesIn_20 rfl ?_
    refine z_get (v := .ref (a3 0)) ok zc6 32 rfl 2 (by decide) qf_RX6_23 rfl rfl dX6_arrivesIn_21 ?_
    refine z_callSvg ok (fun l => c_X5_copyState  ) zm_X5_copyState qt_X5_copyState qm_RX6_224 dX6_arrivesIn_24 (by decide) (by decide) rfl rfl (Nat.le_of_ble_eq_true rfl) (L := [soW Z a N (ins N) (mvF N) (N 3), gW Z a (N 4) (N 5) (bkL N), pW Z a (N 6) (pkF N 0) (pkF N 1) (pkF N 2) (pkF N 3) (pkF N 4) (pkF N 5) (pkF N 6) (pkF N 7) (pkF N 8) (pkF N 9), soW Z a3 K (ins K) (mvF K) (K 3), gW Z a3 (K 4) (K 5) (bkL K), pW Z a3 (K 6) (pkF K 0) (pkF K 1) (pkF K 2) (pkF K 3) (pkF K 4) (pkF K 5) (pkF K 6) (pkF K 7) (pkF K 8) (pkF K 9), xW Z x (a 0) (b 0) (a3 0) (b4 0) (c 0) (e 0) und hs ss us, rW Z b ef op ln nm qu qd]) (Lr := [xW Z x (a 0) (b 0) (a3 0) (b4 0) (c 0) (e 0) und hs ss us, rW Z b ef op ln nm qu qd]) 8 [0, 1, 2, 3, 4, 5, 6, 7] [0, 1, 2, 3, 4, 5, 6, 7] rfl (by decide +kernel) rfl (fun _ => rfl) (by decide +kernel) (fun _ hp24 => ?_)
    refine z_eq (ws' := zf [soW Z a N (ins N) (mvF N) (N 3), gW Z a (N 4) (N 5) (bkL N), pW Z a (N 6) (pkF N 0) (pkF N 1) (pkF N 2) (pkF N 3) (pkF N 4) (pkF N 5) (pkF N 6) (pkF N 7) (pkF N 8) (pkF N 9), soW Z a3 N (ins N) (mvF N) (N 3), gW Z a3 (N 4) (N 5) (bkL N), pW Z a3 (N 6) (pkF N 0) (pkF N 1) (pkF N 2) (pkF N 3) (pkF N 4) (pkF N 5) (pkF N 6) (pkF N 7) (pkF N 8) (pkF N 9), xW Z x (a 0) (b 0) (a3 0) (b4 0) (c 0) (e 0) und hs ss us, rW Z b ef op ln nm qu qd]) rfl ?_
    refine z_iconst ok dX6_arrivesIn_27 ?_
    refine z_istore_n (lv' := [(2, .int (iI 0)), (0, .ref (x 0)), (1, .int (iI p))]) ok dX6_arrivesIn_28 (by decide) rfl ?_
    have L29 : ∀ (fuel : Nat) (k : Int) (M : Int → Int), (0 ≤ k) → (k ≤ 301) → (M = tkN N k.toNat) → (∀ j : Int, 0 ≤ j → j < k → ¬ arQ N p j) → (301 - k).toNat < fuel → zV X 0 0 (zf [soW Z a N (ins N) (mvF N) (N 3), gW Z a (N 4) (N 5) (bkL N), pW Z a (N 6) (pkF N 0) (pkF N 1) (pkF N 2) (pkF N 3) (pkF N 4) (pkF N 5) (pkF N 6) (pkF N 7) (pkF N 8) (pkF N 9), soW Z a3 M (ins M) (mvF M) (M 3), gW Z a3 (M 4) (M 5) (bkL M), pW Z a3 (M 6) (pkF M 0) (pkF M 1) (pkF M 2) (pkF M 3) (pkF M 4) (pkF M 5) (pkF M 6) (pkF M 7) (pkF M 8) (pkF M 9), xW Z x (a 0) (b 0) (a3 0) (b4 0) (c 0) (e 0) und hs ss us, rW Z b ef op ln nm qu qd]) 29 [(0, .ref (x 0)), (1, .int (iI p)), (2, .int (iI k))] [] := by
      intro fuel
      induction fuel with
      | zero => intro k M h29_0 h29_1 h29_2 h29_3 hf; exact absurd hf (Nat.not_lt_zero _)
      | succ fuel ih29 =>
        intro k M h29_0 h29_1 h29_2 h29_3 hf
        obtain ⟨hwM, hlM, h3M⟩ := wf_tks hw k.toNat
        have hsM := tks_same hw k.toNat
        rw [← h29_2] at hwM hlM h3M hsM
        have hokM := rOK_same hw hsM hok
        have h6M : M 6 = N 6 := hlM 6 (by decide) (by decide)
        have wpm := hwM.2.2.2.2.2.2.2 p (by omega) (by omega)
        have haq : arQ N p k ↔ pk M p 2 = 2 := by unfold arQ; rw [← h29_2]
        refine z_iload_n ok dX6_arrivesIn_29 rfl ?_
        refine z_sipush ok dX6_arrivesIn_30 (by decide) ?_
        refine z_icmp_gt (tgt := 72) ok dX6_arrivesIn_33 (by decide) (by omega) (by omega) (fun c33 => ?_) (fun c33 => ?_)
        · -- t
          refine z_bipush ok dX6_arrivesIn_72 (by decide) ?_
          exact fin (-6) M 74 _ _ _ dX6_arrivesIn_74 (trivial) (by unfold arR; rw [zif_t c11]; exact (fsk_no (fun j h0 h1 => h29_3 j h0 (by omega))).symm) (by decide) (by decide)
        · -- f
          refine z_aload_n ok dX6_arrivesIn_36 rfl ?_
          refine z_get (v := .ref (a3 0)) ok zc6 32 rfl 2 (by decide) qf_RX6_23 rfl rfl dX6_arrivesIn_37 ?_
          refine z_get (v := .ref (a3 3)) ok zc5 16 rfl 2 (by decide) qf_RX6_79 rfl rfl dX6_arrivesIn_40 ?_
          refine z_get (v := .ref (a3 6)) ok zc2 21 rfl 3 (by decide) qf_RX6_135 rfl rfl dX6_arrivesIn_43 ?_
          refine z_iload_n ok dX6_arrivesIn_46 rfl ?_
          refine z_iale (f := pkF M 2) (v := pk M p 2) ok 24 rfl rfl dX6_arrivesIn_47 (by omega) (by decide) ?_
          refine z_iconst ok dX6_arrivesIn_48 ?_
          refine z_icmp_ne (tgt := 54) ok dX6_arrivesIn_49 (by decide) (by omega) (by omega) (fun c49 => ?_) (fun c49 => ?_)
          · -- t
            refine z_aload_n ok dX6_arrivesIn_54 rfl ?_
            refine z_get (v := .ref (a3 0)) ok zc6 32 rfl 2 (by decide) qf_RX6_23 rfl rfl dX6_arrivesIn_55 ?_
            refine z_aload_n ok dX6_arrivesIn_58 rfl ?_
            refine z_get (v := .ref (b 0)) ok zc6 32 rfl 1 (by decide) qf_RX6_19 rfl rfl dX6_arrivesIn_59 ?_
            refine z_iconst ok dX6_arrivesIn_62 ?_
            refine z_callVvg ok (fun l => c_X5_passTicks  (hwM) (hokM) (by decide)) zm_X5_passTicks zv_X5_passTicks qm_RX6_122 dX6_arrivesIn_63 (by decide) (by decide) rfl rfl (Nat.le_of_ble_eq_true rfl) (q0 := 0) rfl rfl rfl (L := [soW Z a N (ins N) (mvF N) (N 3), gW Z a (N 4) (N 5) (bkL N), pW Z a (N 6) (pkF N 0) (pkF N 1) (pkF N 2) (pkF N 3) (pkF N 4) (pkF N 5) (pkF N 6) (pkF N 7) (pkF N 8) (pkF N 9), soW Z a3 M (ins M) (mvF M) (M 3), gW Z a3 (M 4) (M 5) (bkL M), pW Z a3 (M 6) (pkF M 0) (pkF M 1) (pkF M 2) (pkF M 3) (pkF M 4) (pkF M 5) (pkF M 6) (pkF M 7) (pkF M 8) (pkF M 9), xW Z x (a 0) (b 0) (a3 0) (b4 0) (c 0) (e 0) und hs ss us, rW Z b ef op ln nm qu qd]) (Lr := [soW Z a N (ins N) (mvF N) (N 3), gW Z a (N 4) (N 5) (bkL N), pW Z a (N 6) (pkF N 0) (pkF N 1) (pkF N 2) (pkF N 3) (pkF N 4) (pkF N 5) (pkF N 6) (pkF N 7) (pkF N 8) (pkF N 9), xW Z x (a 0) (b 0) (a3 0) (b4 0) (c 0) (e 0) und hs ss us]) 8 [3, 4, 5, 7, 0, 1, 2, 6] [4, 5, 6, 0, 1, 2, 7, 3] rfl (by decide +kernel) rfl (fun _ => rfl) (by decide +kernel) (fun _ hp63 => ?_)
            refine z_eq (ws' := zf [soW Z a N (ins N) (mvF N) (N 3), gW Z a (N 4) (N 5) (bkL N), pW Z a (N 6) (pkF N 0) (pkF N 1) (pkF N 2) (pkF N 3) (pkF N 4) (pkF N 5) (pkF N 6) (pkF N 7) (pkF N 8) (pkF N 9), soW Z a3 (tkN M (1 : Int).toNat) (ins (tkN M (1 : Int).toNat)) (mvF (tkN M (1 : Int).toNat)) ((tkN M (1 : Int).toNat) 3), gW Z a3 ((tkN M (1 : Int).toNat) 4) ((tkN M (1 : Int).toNat) 5) (bkL (tkN M (1 : Int).toNat)), pW Z a3 ((tkN M (1 : Int).toNat) 6) (pkF (tkN M (1 : Int).toNat) 0) (pkF (tkN M (1 : Int).toNat) 1) (pkF (tkN M (1 : Int).toNat) 2) (pkF (tkN M (1 : Int).toNat) 3) (pkF (tkN M (1 : Int).toNat) 4) (pkF (tkN M (1 : Int).toNat) 5) (pkF (tkN M (1 : Int).toNat) 6) (pkF (tkN M (1 : Int).toNat) 7) (pkF (tkN M (1 : Int).toNat) 8) (pkF (tkN M (1 : Int).toNat) 9), xW Z x (a 0) (b 0) (a3 0) (b4 0) (c 0) (e 0) und hs ss us, rW Z b ef op ln nm qu qd]) rfl ?_
            refine z_iinc (lv' := [(2, .int (iI (k + 1))), (0, .ref (x 0)), (1, .int (iI p))]) ok dX6_arrivesIn_66 2 rfl (by decide) rfl ?_
            refine z_goto (tgt := 29) ok dX6_arrivesIn_69 (by decide) ?_
            refine z_lsub ok (lv' := [(0, .ref (x 0)), (1, .int (iI p)), (2, .int (iI (k + 1)))]) [1, 2, 0] rfl ?_
            exact ih29 _ (tkN M (1 : Int).toNat) (by omega) (by omega) (by rw [tkN_s (by omega) h29_2]; rfl) (zall h29_3 (fun z => by rw [haq] at z; omega)) (by omega)
          · -- f
            refine z_iload_n ok dX6_arrivesIn_52 rfl ?_
            exact fin k M 53 _ _ _ dX6_arrivesIn_53 (trivial) (by unfold arR; rw [zif_t c11]; exact (fsk_yes h29_0 (by omega) (haq.mpr (by omega)) h29_3).symm) (by decide) (by decide)
    refine z_lsub ok (lv' := [(0, .ref (x 0)), (1, .int (iI p)), (2, .int (iI 0))]) [1, 2, 0] rfl ?_
    exact L29 _ _ N (by omega) (by omega) (rfl) (fun j h0 h1 => absurd h1 (by omega)) (Nat.lt_succ_self _)
  · -- f
    refine z_iconst ok dX6_arrivesIn_14 ?_
    exact fin (-1) K 15 _ _ _ dX6_arrivesIn_15 (trivial) (by unfold arR; exact (zif_f c11).symm) (by decide) (by decide)
