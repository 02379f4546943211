/-! the law, call by call -/
set_option maxRecDepth 40000 in
theorem law_set {X : zX} {Z : zZ} {bs L : Nat} {xs : Nat → Int32} {x a b a3 b4 c e : Nat → Nat} {E : Nat → Nat → Nat} {q : Nat → Nat} {ii B : Int} (ok : zOK X Z room_1 cL_law RL 4) (hsc : zSC X bs L xs) (hi : 0 ≤ ii ∧ ii + 4 ≤ (L : Int)) (hL : (L : Int) ≤ 2048) (hB : 0 ≤ B ∧ B ≤ 10000000) (hn : LV X Z x a b a3 b4 c e E q bs ii 712 (B + 10000)) : LV X Z x a b a3 b4 c e E q bs ii 136 B := by
  intro A N K ef op ln nm qu qd ef4 op4 ln4 nm4 qu4 qd4 sk P lp od k1 f1 s1 pl und H S us kept hist sav isv far many laid sides stuck ord rd pl2 wr hLI hok h01 hca
  have hw := hLI.1.1
  have hu := hLI.2.1
  have h3 := hLI.1.2.1
  have hpd := hLI.2.2.2.2.2.2
  have hlp := hpd.1
  have hx1 := xI_rng xs (ii + 1)
  have hx2 := xI_rng xs (ii + 2)
  have hx3 := xI_rng xs (ii + 3)
  refine z_aload_n ok dL_law_136 rfl ?_
  refine z_aload_n ok dL_law_137 rfl ?_
  refine z_iload_n ok dL_law_138 rfl ?_
  refine z_iconst ok dL_law_139 ?_
  refine z_iadd ok dL_law_140 ?_
  refine z_sld ok hsc dL_law_141 (by omega) ?_
  refine z_aload_n ok dL_law_142 rfl ?_
  refine z_iload_n ok dL_law_143 rfl ?_
  refine z_iconst ok dL_law_144 ?_
  refine z_iadd ok dL_law_145 ?_
  refine z_sld ok hsc dL_law_146 (by omega) ?_
  refine z_callVig ok (fun l => c_X6_set  (hw) (hok) (hu) (by omega) (by omega)) zm_X6_set zv_X6_set qm_RL_13 dL_law_147 (by decide) (by decide) rfl rfl (Nat.le_of_ble_eq_true rfl) (q0 := 16) rfl rfl rfl (L := [soW Z a N (ins N) (mvF N) (N 3), gW Z a (N 4) (N 5) (bkL N), pW Z a (N 6) (pkF N 0) (pkF N 1) (pkF N 2) (pkF N 3) (pkF N 4) (pkF N 5) (pkF N 6) (pkF N 7) (pkF N 8) (pkF N 9), xW Z x (a 0) (b 0) (a3 0) (b4 0) (c 0) (e 0) und ([A 0 0, A 1 0, A 2 0, A 3 0, A 4 0, A 5 0]) ([E 0 0, E 1 0]) us, rW Z b ef op ln nm qu qd, soW Z a3 K (ins K) (mvF K) (K 3), gW Z a3 (K 4) (K 5) (bkL K), pW Z a3 (K 6) (pkF K 0) (pkF K 1) (pkF K 2) (pkF K 3) (pkF K 4) (pkF K 5) (pkF K 6) (pkF K 7) (pkF K 8) (pkF K 9), rW Z b4 ef4 op4 ln4 nm4 qu4 qd4, jW Z c sk, dW Z e P lp od k1 f1 s1 pl, hW Z A H, eW Z E S, mW Z q N kept hist und sav isv P lp 0 far many laid sides stuck ord rd pl2 wr]) (Lr := [soW Z a3 K (ins K) (mvF K) (K 3), gW Z a3 (K 4) (K 5) (bkL K), pW Z a3 (K 6) (pkF K 0) (pkF K 1) (pkF K 2) (pkF K 3) (pkF K 4) (pkF K 5) (pkF K 6) (pkF K 7) (pkF K 8) (pkF K 9), rW Z b4 ef4 op4 ln4 nm4 qu4 qd4, jW Z c sk, dW Z e P lp od k1 f1 s1 pl, eW Z E S, mW Z q N kept hist und sav isv P lp 0 far many laid sides stuck ord rd pl2 wr]) 14 [0, 1, 2, 3, 11, 4, 5, 6, 7, 8, 9, 10, 12, 13] [0, 1, 2, 3, 5, 6, 7, 8, 9, 10, 11, 4, 12, 13] rfl (by decide +kernel) rfl (fun _ => rfl) (by decide +kernel) (fun r147 u147 hp147 => ?_)
  obtain ⟨n_147, ar_147, ro_147, ln_147, nm_147, qu_147, qd_147⟩ := u147
  try dsimp only at hp147
  refine z_eq (ws' := zf [soW Z a n_147 (ins n_147) (mvF n_147) (n_147 3), gW Z a (n_147 4) (n_147 5) (bkL n_147), pW Z a (n_147 6) (pkF n_147 0) (pkF n_147 1) (pkF n_147 2) (pkF n_147 3) (pkF n_147 4) (pkF n_147 5) (pkF n_147 6) (pkF n_147 7) (pkF n_147 8) (pkF n_147 9), xW Z x (a 0) (b 0) (a3 0) (b4 0) (c 0) (e 0) ar_147.2.2 ([ar_147.1 0 0, ar_147.1 1 0, ar_147.1 2 0, ar_147.1 3 0, ar_147.1 4 0, ar_147.1 5 0]) ([E 0 0, E 1 0]) us, rW Z b ro_147.1 ro_147.2 ln_147 nm_147 qu_147 qd_147, soW Z a3 K (ins K) (mvF K) (K 3), gW Z a3 (K 4) (K 5) (bkL K), pW Z a3 (K 6) (pkF K 0) (pkF K 1) (pkF K 2) (pkF K 3) (pkF K 4) (pkF K 5) (pkF K 6) (pkF K 7) (pkF K 8) (pkF K 9), rW Z b4 ef4 op4 ln4 nm4 qu4 qd4, jW Z c sk, dW Z e P lp od k1 f1 s1 pl, hW Z ar_147.1 ar_147.2.1, eW Z E S, mW Z q N kept hist und sav isv P lp 0 far many laid sides stuck ord rd pl2 wr]) rfl ?_
  refine z_aload_n ok dL_law_150 rfl ?_
  refine z_aload_n ok dL_law_151 rfl ?_
  refine z_iload_n ok dL_law_152 rfl ?_
  refine z_iconst ok dL_law_153 ?_
  refine z_iadd ok dL_law_154 ?_
  refine z_sld ok hsc dL_law_155 (by omega) ?_
  refine z_aload_n ok dL_law_156 rfl ?_
  refine z_iload_n ok dL_law_157 rfl ?_
  refine z_iconst ok dL_law_158 ?_
  refine z_iadd ok dL_law_159 ?_
  refine z_sld ok hsc dL_law_160 (by omega) ?_
  refine z_eq (ws' := zf [soW Z a n_147 (ins n_147) (mvF n_147) (n_147 3), gW Z a (n_147 4) (n_147 5) (bkL n_147), pW Z a (n_147 6) (pkF n_147 0) (pkF n_147 1) (pkF n_147 2) (pkF n_147 3) (pkF n_147 4) (pkF n_147 5) (pkF n_147 6) (pkF n_147 7) (pkF n_147 8) (pkF n_147 9), xW Z x (a 0) (b 0) (a3 0) (b4 0) (c 0) (e 0) ar_147.2.2 ([ar_147.1 0 0, ar_147.1 1 0, ar_147.1 2 0, ar_147.1 3 0, ar_147.1 4 0, ar_147.1 5 0]) ([E 0 0, E 1 0]) us, rW Z b ro_147.1 ro_147.2 ln_147 nm_147 qu_147 qd_147, soW Z a3 K (ins K) (mvF K) (K 3), gW Z a3 (K 4) (K 5) (bkL K), pW Z a3 (K 6) (pkF K 0) (pkF K 1) (pkF K 2) (pkF K 3) (pkF K 4) (pkF K 5) (pkF K 6) (pkF K 7) (pkF K 8) (pkF K 9), rW Z b4 ef4 op4 ln4 nm4 qu4 qd4, jW Z c sk, dW Z e P lp od k1 f1 s1 pl, hW Z ar_147.1 ar_147.2.1, eW Z E S] ++ mW Z q N kept hist und sav isv P lp 0 far many laid sides stuck ord rd pl2 wr) (zf_ap1 [soW Z a n_147 (ins n_147) (mvF n_147) (n_147 3), gW Z a (n_147 4) (n_147 5) (bkL n_147), pW Z a (n_147 6) (pkF n_147 0) (pkF n_147 1) (pkF n_147 2) (pkF n_147 3) (pkF n_147 4) (pkF n_147 5) (pkF n_147 6) (pkF n_147 7) (pkF n_147 8) (pkF n_147 9), xW Z x (a 0) (b 0) (a3 0) (b4 0) (c 0) (e 0) ar_147.2.2 ([ar_147.1 0 0, ar_147.1 1 0, ar_147.1 2 0, ar_147.1 3 0, ar_147.1 4 0, ar_147.1 5 0]) ([E 0 0, E 1 0]) us, rW Z b ro_147.1 ro_147.2 ln_147 nm_147 qu_147 qd_147, soW Z a3 K (ins K) (mvF K) (K 3), gW Z a3 (K 4) (K 5) (bkL K), pW Z a3 (K 6) (pkF K 0) (pkF K 1) (pkF K 2) (pkF K 3) (pkF K 4) (pkF K 5) (pkF K 6) (pkF K 7) (pkF K 8) (pkF K 9), rW Z b4 ef4 op4 ln4 nm4 qu4 qd4, jW Z c sk, dW Z e P lp od k1 f1 s1 pl, hW Z ar_147.1 ar_147.2.1, eW Z E S] (mW Z q N kept hist und sav isv P lp 0 far many laid sides stuck ord rd pl2 wr)).symm ?_
  refine z_callVi ok (fun l => c_X7_set  (hw) (hu) (by decide) (by omega) (by omega)) zm_X7_set zv_X7_set qm_RL_17 dL_law_161 (by decide) (by decide) rfl rfl (Nat.le_of_ble_eq_true rfl) (q0 := 0) rfl rfl rfl List.perm_append_comm (fun r161 u161 hp161 => ?_)
  obtain ⟨now_161, hist_161, und_161, laid_161⟩ := u161
  try dsimp only at hp161
  refine z_perm List.perm_append_comm ?_
  refine z_eq (ws' := zf [soW Z a n_147 (ins n_147) (mvF n_147) (n_147 3), gW Z a (n_147 4) (n_147 5) (bkL n_147), pW Z a (n_147 6) (pkF n_147 0) (pkF n_147 1) (pkF n_147 2) (pkF n_147 3) (pkF n_147 4) (pkF n_147 5) (pkF n_147 6) (pkF n_147 7) (pkF n_147 8) (pkF n_147 9), xW Z x (a 0) (b 0) (a3 0) (b4 0) (c 0) (e 0) ar_147.2.2 ([ar_147.1 0 0, ar_147.1 1 0, ar_147.1 2 0, ar_147.1 3 0, ar_147.1 4 0, ar_147.1 5 0]) ([E 0 0, E 1 0]) us, rW Z b ro_147.1 ro_147.2 ln_147 nm_147 qu_147 qd_147, soW Z a3 K (ins K) (mvF K) (K 3), gW Z a3 (K 4) (K 5) (bkL K), pW Z a3 (K 6) (pkF K 0) (pkF K 1) (pkF K 2) (pkF K 3) (pkF K 4) (pkF K 5) (pkF K 6) (pkF K 7) (pkF K 8) (pkF K 9), rW Z b4 ef4 op4 ln4 nm4 qu4 qd4, jW Z c sk, dW Z e P lp od k1 f1 s1 pl, hW Z ar_147.1 ar_147.2.1, eW Z E S, mW Z q now_161 kept hist_161 und_161 sav isv P lp 0 far many laid_161 sides stuck ord rd pl2 wr]) (zf_ap1 [soW Z a n_147 (ins n_147) (mvF n_147) (n_147 3), gW Z a (n_147 4) (n_147 5) (bkL n_147), pW Z a (n_147 6) (pkF n_147 0) (pkF n_147 1) (pkF n_147 2) (pkF n_147 3) (pkF n_147 4) (pkF n_147 5) (pkF n_147 6) (pkF n_147 7) (pkF n_147 8) (pkF n_147 9), xW Z x (a 0) (b 0) (a3 0) (b4 0) (c 0) (e 0) ar_147.2.2 ([ar_147.1 0 0, ar_147.1 1 0, ar_147.1 2 0, ar_147.1 3 0, ar_147.1 4 0, ar_147.1 5 0]) ([E 0 0, E 1 0]) us, rW Z b ro_147.1 ro_147.2 ln_147 nm_147 qu_147 qd_147, soW Z a3 K (ins K) (mvF K) (K 3), gW Z a3 (K 4) (K 5) (bkL K), pW Z a3 (K 6) (pkF K 0) (pkF K 1) (pkF K 2) (pkF K 3) (pkF K 4) (pkF K 5) (pkF K 6) (pkF K 7) (pkF K 8) (pkF K 9), rW Z b4 ef4 op4 ln4 nm4 qu4 qd4, jW Z c sk, dW Z e P lp od k1 f1 s1 pl, hW Z ar_147.1 ar_147.2.1, eW Z E S] (mW Z q now_161 kept hist_161 und_161 sav isv P lp 0 far many laid_161 sides stuck ord rd pl2 wr)) ?_
  obtain ⟨hok2, hpc⟩ := hp147
  have hall : r161 = r147 ∧ now_161 = n_147 ∧ und_161 = ar_147.2.2 ∧ LI (B + 10000) ar_147.2.2 n_147 ar_147.2.1 S us hist_161 sav isv P lp ∧ cacheOK n_147 laid_161 far many := by
    rcases hpc with ⟨c1, e1, e2, e3⟩ | ⟨c1, e1, e2, e3⟩
    · rcases hp161 with ⟨d1, d2, d3⟩ | ⟨d1, d2, d3⟩
      · cases d3; rw [e2, e3]; exact ⟨by rw [d2, e1], rfl, rfl, LI_le hLI (by omega), hca⟩
      · exact absurd d1 c1
    · rcases hp161 with ⟨d1, d2, d3⟩ | ⟨d1, d2, d3⟩
      · exact absurd c1 d1
      · cases d3; rw [e2]; exact ⟨by rw [d2, e1], rfl, (rec_U hu e3).1, LI_rec hLI e3 (rowB_le (rowB_set hLI.1 c1) (by omega)) (by omega), cache_forget⟩
  obtain ⟨hr, hnn, huu, hLI2, hca2⟩ := hall
  rw [hr]
  refine z_eq (ws' := zf [soW Z a n_147 (ins n_147) (mvF n_147) (n_147 3), gW Z a (n_147 4) (n_147 5) (bkL n_147), pW Z a (n_147 6) (pkF n_147 0) (pkF n_147 1) (pkF n_147 2) (pkF n_147 3) (pkF n_147 4) (pkF n_147 5) (pkF n_147 6) (pkF n_147 7) (pkF n_147 8) (pkF n_147 9), xW Z x (a 0) (b 0) (a3 0) (b4 0) (c 0) (e 0) ar_147.2.2 ([ar_147.1 0 0, ar_147.1 1 0, ar_147.1 2 0, ar_147.1 3 0, ar_147.1 4 0, ar_147.1 5 0]) ([E 0 0, E 1 0]) us, rW Z b ro_147.1 ro_147.2 ln_147 nm_147 qu_147 qd_147, soW Z a3 K (ins K) (mvF K) (K 3), gW Z a3 (K 4) (K 5) (bkL K), pW Z a3 (K 6) (pkF K 0) (pkF K 1) (pkF K 2) (pkF K 3) (pkF K 4) (pkF K 5) (pkF K 6) (pkF K 7) (pkF K 8) (pkF K 9), rW Z b4 ef4 op4 ln4 nm4 qu4 qd4, jW Z c sk, dW Z e P lp od k1 f1 s1 pl, hW Z ar_147.1 ar_147.2.1, eW Z E S, mW Z q n_147 kept hist_161 ar_147.2.2 sav isv P lp 0 far many laid_161 sides stuck ord rd pl2 wr]) (by rw [hnn, huu]) ?_
  refine z_icmp_same (tgt := 712) ok dL_law_164 (by decide) ?_
  exact hn ar_147.1 n_147 K ro_147.1 ro_147.2 ln_147 nm_147 qu_147 qd_147 ef4 op4 ln4 nm4 qu4 qd4 sk P lp od k1 f1 s1 pl ar_147.2.2 ar_147.2.1 S us kept hist_161 sav isv far many laid_161 sides stuck ord rd pl2 wr (hLI2) (hok2) (h01) (hca2)
set_option maxRecDepth 40000 in
theorem law_mesh {X : zX} {Z : zZ} {bs L : Nat} {xs : Nat → Int32} {x a b a3 b4 c e : Nat → Nat} {E : Nat → Nat → Nat} {q : Nat → Nat} {ii B : Int} (ok : zOK X Z room_1 cL_law RL 4) (hsc : zSC X bs L xs) (hi : 0 ≤ ii ∧ ii + 4 ≤ (L : Int)) (hL : (L : Int) ≤ 2048) (hB : 0 ≤ B ∧ B ≤ 10000000) (hn : LV X Z x a b a3 b4 c e E q bs ii 712 (B + 10000)) : LV X Z x a b a3 b4 c e E q bs ii 169 B := by
  intro A N K ef op ln nm qu qd ef4 op4 ln4 nm4 qu4 qd4 sk P lp od k1 f1 s1 pl und H S us kept hist sav isv far many laid sides stuck ord rd pl2 wr hLI hok h01 hca
  have hw := hLI.1.1
  have hu := hLI.2.1
  have h3 := hLI.1.2.1
  have hpd := hLI.2.2.2.2.2.2
  have hlp := hpd.1
  have hx1 := xI_rng xs (ii + 1)
  have hx2 := xI_rng xs (ii + 2)
  have hx3 := xI_rng xs (ii + 3)
  refine z_aload_n ok dL_law_169 rfl ?_
  refine z_aload_n ok dL_law_170 rfl ?_
  refine z_iload_n ok dL_law_171 rfl ?_
  refine z_iconst ok dL_law_172 ?_
  refine z_iadd ok dL_law_173 ?_
  refine z_sld ok hsc dL_law_174 (by omega) ?_
  refine z_aload_n ok dL_law_175 rfl ?_
  refine z_iload_n ok dL_law_176 rfl ?_
  refine z_iconst ok dL_law_177 ?_
  refine z_iadd ok dL_law_178 ?_
  refine z_sld ok hsc dL_law_179 (by omega) ?_
  refine z_callVig ok (fun l => c_X6_mesh  (hw) (hok) (hu) (by omega) (by omega)) zm_X6_mesh zv_X6_mesh qm_RL_18 dL_law_180 (by decide) (by decide) rfl rfl (Nat.le_of_ble_eq_true rfl) (q0 := 16) rfl rfl rfl (L := [soW Z a N (ins N) (mvF N) (N 3), gW Z a (N 4) (N 5) (bkL N), pW Z a (N 6) (pkF N 0) (pkF N 1) (pkF N 2) (pkF N 3) (pkF N 4) (pkF N 5) (pkF N 6) (pkF N 7) (pkF N 8) (pkF N 9), xW Z x (a 0) (b 0) (a3 0) (b4 0) (c 0) (e 0) und ([A 0 0, A 1 0, A 2 0, A 3 0, A 4 0, A 5 0]) ([E 0 0, E 1 0]) us, rW Z b ef op ln nm qu qd, soW Z a3 K (ins K) (mvF K) (K 3), gW Z a3 (K 4) (K 5) (bkL K), pW Z a3 (K 6) (pkF K 0) (pkF K 1) (pkF K 2) (pkF K 3) (pkF K 4) (pkF K 5) (pkF K 6) (pkF K 7) (pkF K 8) (pkF K 9), rW Z b4 ef4 op4 ln4 nm4 qu4 qd4, jW Z c sk, dW Z e P lp od k1 f1 s1 pl, hW Z A H, eW Z E S, mW Z q N kept hist und sav isv P lp 0 far many laid sides stuck ord rd pl2 wr]) (Lr := [soW Z a3 K (ins K) (mvF K) (K 3), gW Z a3 (K 4) (K 5) (bkL K), pW Z a3 (K 6) (pkF K 0) (pkF K 1) (pkF K 2) (pkF K 3) (pkF K 4) (pkF K 5) (pkF K 6) (pkF K 7) (pkF K 8) (pkF K 9), rW Z b4 ef4 op4 ln4 nm4 qu4 qd4, jW Z c sk, dW Z e P lp od k1 f1 s1 pl, eW Z E S, mW Z q N kept hist und sav isv P lp 0 far many laid sides stuck ord rd pl2 wr]) 14 [0, 1, 2, 3, 11, 4, 5, 6, 7, 8, 9, 10, 12, 13] [0, 1, 2, 3, 5, 6, 7, 8, 9, 10, 11, 4, 12, 13] rfl (by decide +kernel) rfl (fun _ => rfl) (by decide +kernel) (fun r180 u180 hp180 => ?_)
  obtain ⟨n_180, ar_180, ro_180, ln_180, nm_180, qu_180, qd_180⟩ := u180
  try dsimp only at hp180
  refine z_eq (ws' := zf [soW Z a n_180 (ins n_180) (mvF n_180) (n_180 3), gW Z a (n_180 4) (n_180 5) (bkL n_180), pW Z a (n_180 6) (pkF n_180 0) (pkF n_180 1) (pkF n_180 2) (pkF n_180 3) (pkF n_180 4) (pkF n_180 5) (pkF n_180 6) (pkF n_180 7) (pkF n_180 8) (pkF n_180 9), xW Z x (a 0) (b 0) (a3 0) (b4 0) (c 0) (e 0) ar_180.2.2 ([ar_180.1 0 0, ar_180.1 1 0, ar_180.1 2 0, ar_180.1 3 0, ar_180.1 4 0, ar_180.1 5 0]) ([E 0 0, E 1 0]) us, rW Z b ro_180.1 ro_180.2 ln_180 nm_180 qu_180 qd_180, soW Z a3 K (ins K) (mvF K) (K 3), gW Z a3 (K 4) (K 5) (bkL K), pW Z a3 (K 6) (pkF K 0) (pkF K 1) (pkF K 2) (pkF K 3) (pkF K 4) (pkF K 5) (pkF K 6) (pkF K 7) (pkF K 8) (pkF K 9), rW Z b4 ef4 op4 ln4 nm4 qu4 qd4, jW Z c sk, dW Z e P lp od k1 f1 s1 pl, hW Z ar_180.1 ar_180.2.1, eW Z E S, mW Z q N kept hist und sav isv P lp 0 far many laid sides stuck ord rd pl2 wr]) rfl ?_
  refine z_aload_n ok dL_law_183 rfl ?_
  refine z_aload_n ok dL_law_184 rfl ?_
  refine z_iload_n ok dL_law_185 rfl ?_
  refine z_iconst ok dL_law_186 ?_
  refine z_iadd ok dL_law_187 ?_
  refine z_sld ok hsc dL_law_188 (by omega) ?_
  refine z_aload_n ok dL_law_189 rfl ?_
  refine z_iload_n ok dL_law_190 rfl ?_
  refine z_iconst ok dL_law_191 ?_
  refine z_iadd ok dL_law_192 ?_
  refine z_sld ok hsc dL_law_193 (by omega) ?_
  refine z_eq (ws' := zf [soW Z a n_180 (ins n_180) (mvF n_180) (n_180 3), gW Z a (n_180 4) (n_180 5) (bkL n_180), pW Z a (n_180 6) (pkF n_180 0) (pkF n_180 1) (pkF n_180 2) (pkF n_180 3) (pkF n_180 4) (pkF n_180 5) (pkF n_180 6) (pkF n_180 7) (pkF n_180 8) (pkF n_180 9), xW Z x (a 0) (b 0) (a3 0) (b4 0) (c 0) (e 0) ar_180.2.2 ([ar_180.1 0 0, ar_180.1 1 0, ar_180.1 2 0, ar_180.1 3 0, ar_180.1 4 0, ar_180.1 5 0]) ([E 0 0, E 1 0]) us, rW Z b ro_180.1 ro_180.2 ln_180 nm_180 qu_180 qd_180, soW Z a3 K (ins K) (mvF K) (K 3), gW Z a3 (K 4) (K 5) (bkL K), pW Z a3 (K 6) (pkF K 0) (pkF K 1) (pkF K 2) (pkF K 3) (pkF K 4) (pkF K 5) (pkF K 6) (pkF K 7) (pkF K 8) (pkF K 9), rW Z b4 ef4 op4 ln4 nm4 qu4 qd4, jW Z c sk, dW Z e P lp od k1 f1 s1 pl, hW Z ar_180.1 ar_180.2.1, eW Z E S] ++ mW Z q N kept hist und sav isv P lp 0 far many laid sides stuck ord rd pl2 wr) (zf_ap1 [soW Z a n_180 (ins n_180) (mvF n_180) (n_180 3), gW Z a (n_180 4) (n_180 5) (bkL n_180), pW Z a (n_180 6) (pkF n_180 0) (pkF n_180 1) (pkF n_180 2) (pkF n_180 3) (pkF n_180 4) (pkF n_180 5) (pkF n_180 6) (pkF n_180 7) (pkF n_180 8) (pkF n_180 9), xW Z x (a 0) (b 0) (a3 0) (b4 0) (c 0) (e 0) ar_180.2.2 ([ar_180.1 0 0, ar_180.1 1 0, ar_180.1 2 0, ar_180.1 3 0, ar_180.1 4 0, ar_180.1 5 0]) ([E 0 0, E 1 0]) us, rW Z b ro_180.1 ro_180.2 ln_180 nm_180 qu_180 qd_180, soW Z a3 K (ins K) (mvF K) (K 3), gW Z a3 (K 4) (K 5) (bkL K), pW Z a3 (K 6) (pkF K 0) (pkF K 1) (pkF K 2) (pkF K 3) (pkF K 4) (pkF K 5) (pkF K 6) (pkF K 7) (pkF K 8) (pkF K 9), rW Z b4 ef4 op4 ln4 nm4 qu4 qd4, jW Z c sk, dW Z e P lp od k1 f1 s1 pl, hW Z ar_180.1 ar_180.2.1, eW Z E S] (mW Z q N kept hist und sav isv P lp 0 far many laid sides stuck ord rd pl2 wr)).symm ?_
  refine z_callVi ok (fun l => c_X7_mesh  (hw) (hu) (by decide) (by omega) (by omega)) zm_X7_mesh zv_X7_mesh qm_RL_21 dL_law_194 (by decide) (by decide) rfl rfl (Nat.le_of_ble_eq_true rfl) (q0 := 0) rfl rfl rfl List.perm_append_comm (fun r194 u194 hp194 => ?_)
  obtain ⟨now_194, hist_194, und_194, laid_194⟩ := u194
  try dsimp only at hp194
  refine z_perm List.perm_append_comm ?_
  refine z_eq (ws' := zf [soW Z a n_180 (ins n_180) (mvF n_180) (n_180 3), gW Z a (n_180 4) (n_180 5) (bkL n_180), pW Z a (n_180 6) (pkF n_180 0) (pkF n_180 1) (pkF n_180 2) (pkF n_180 3) (pkF n_180 4) (pkF n_180 5) (pkF n_180 6) (pkF n_180 7) (pkF n_180 8) (pkF n_180 9), xW Z x (a 0) (b 0) (a3 0) (b4 0) (c 0) (e 0) ar_180.2.2 ([ar_180.1 0 0, ar_180.1 1 0, ar_180.1 2 0, ar_180.1 3 0, ar_180.1 4 0, ar_180.1 5 0]) ([E 0 0, E 1 0]) us, rW Z b ro_180.1 ro_180.2 ln_180 nm_180 qu_180 qd_180, soW Z a3 K (ins K) (mvF K) (K 3), gW Z a3 (K 4) (K 5) (bkL K), pW Z a3 (K 6) (pkF K 0) (pkF K 1) (pkF K 2) (pkF K 3) (pkF K 4) (pkF K 5) (pkF K 6) (pkF K 7) (pkF K 8) (pkF K 9), rW Z b4 ef4 op4 ln4 nm4 qu4 qd4, jW Z c sk, dW Z e P lp od k1 f1 s1 pl, hW Z ar_180.1 ar_180.2.1, eW Z E S, mW Z q now_194 kept hist_194 und_194 sav isv P lp 0 far many laid_194 sides stuck ord rd pl2 wr]) (zf_ap1 [soW Z a n_180 (ins n_180) (mvF n_180) (n_180 3), gW Z a (n_180 4) (n_180 5) (bkL n_180), pW Z a (n_180 6) (pkF n_180 0) (pkF n_180 1) (pkF n_180 2) (pkF n_180 3) (pkF n_180 4) (pkF n_180 5) (pkF n_180 6) (pkF n_180 7) (pkF n_180 8) (pkF n_180 9), xW Z x (a 0) (b 0) (a3 0) (b4 0) (c 0) (e 0) ar_180.2.2 ([ar_180.1 0 0, ar_180.1 1 0, ar_180.1 2 0, ar_180.1 3 0, ar_180.1 4 0, ar_180.1 5 0]) ([E 0 0, E 1 0]) us, rW Z b ro_180.1 ro_180.2 ln_180 nm_180 qu_180 qd_180, soW Z a3 K (ins K) (mvF K) (K 3), gW Z a3 (K 4) (K 5) (bkL K), pW Z a3 (K 6) (pkF K 0) (pkF K 1) (pkF K 2) (pkF K 3) (pkF K 4) (pkF K 5) (pkF K 6) (pkF K 7) (pkF K 8) (pkF K 9), rW Z b4 ef4 op4 ln4 nm4 qu4 qd4, jW Z c sk, dW Z e P lp od k1 f1 s1 pl, hW Z ar_180.1 ar_180.2.1, eW Z E S] (mW Z q now_194 kept hist_194 und_194 sav isv P lp 0 far many laid_194 sides stuck ord rd pl2 wr)) ?_
  obtain ⟨hok2, hpc⟩ := hp180
  have hall : r194 = r180 ∧ now_194 = n_180 ∧ und_194 = ar_180.2.2 ∧ LI (B + 10000) ar_180.2.2 n_180 ar_180.2.1 S us hist_194 sav isv P lp ∧ cacheOK n_180 laid_194 far many := by
    rcases hpc with ⟨c1, e1, e2, e3⟩ | ⟨c1, e1, e2, e3⟩ | ⟨c1, e1, e2, e3⟩
    · rcases hp194 with ⟨d1, d2, d3⟩ | ⟨d1, d0, d2, d3⟩ | ⟨d1, d0, d2, d3⟩
      · cases d3; rw [e2, e3]; exact ⟨by rw [d2, e1], rfl, rfl, LI_le hLI (by omega), hca⟩
      · exact absurd d1 c1
      · exact absurd d1 c1
    · rcases hp194 with ⟨d1, d2, d3⟩ | ⟨d1, d0, d2, d3⟩ | ⟨d1, d0, d2, d3⟩
      · exact absurd c1.1 d1
      · cases d3; rw [e2, e3]; exact ⟨by rw [d2, e1], rfl, rfl, LI_le hLI (by omega), hca⟩
      · exact absurd d0 (by have := c1.2; omega)
    · rcases hp194 with ⟨d1, d2, d3⟩ | ⟨d1, d0, d2, d3⟩ | ⟨d1, d0, d2, d3⟩
      · exact absurd c1.1 d1
      · exact absurd d0 (by have := c1.2; omega)
      · cases d3; rw [e2]; exact ⟨by rw [d2, e1], rfl, (rec_U hu e3).1, LI_rec hLI e3 (rowB_le (rowB_msh hLI.1 c1.1 c1.2) (by omega)) (by omega), cache_forget⟩
  obtain ⟨hr, hnn, huu, hLI2, hca2⟩ := hall
  rw [hr]
  refine z_eq (ws' := zf [soW Z a n_180 (ins n_180) (mvF n_180) (n_180 3), gW Z a (n_180 4) (n_180 5) (bkL n_180), pW Z a (n_180 6) (pkF n_180 0) (pkF n_180 1) (pkF n_180 2) (pkF n_180 3) (pkF n_180 4) (pkF n_180 5) (pkF n_180 6) (pkF n_180 7) (pkF n_180 8) (pkF n_180 9), xW Z x (a 0) (b 0) (a3 0) (b4 0) (c 0) (e 0) ar_180.2.2 ([ar_180.1 0 0, ar_180.1 1 0, ar_180.1 2 0, ar_180.1 3 0, ar_180.1 4 0, ar_180.1 5 0]) ([E 0 0, E 1 0]) us, rW Z b ro_180.1 ro_180.2 ln_180 nm_180 qu_180 qd_180, soW Z a3 K (ins K) (mvF K) (K 3), gW Z a3 (K 4) (K 5) (bkL K), pW Z a3 (K 6) (pkF K 0) (pkF K 1) (pkF K 2) (pkF K 3) (pkF K 4) (pkF K 5) (pkF K 6) (pkF K 7) (pkF K 8) (pkF K 9), rW Z b4 ef4 op4 ln4 nm4 qu4 qd4, jW Z c sk, dW Z e P lp od k1 f1 s1 pl, hW Z ar_180.1 ar_180.2.1, eW Z E S, mW Z q n_180 kept hist_194 ar_180.2.2 sav isv P lp 0 far many laid_194 sides stuck ord rd pl2 wr]) (by rw [hnn, huu]) ?_
  refine z_icmp_same (tgt := 712) ok dL_law_197 (by decide) ?_
  exact hn ar_180.1 n_180 K ro_180.1 ro_180.2 ln_180 nm_180 qu_180 qd_180 ef4 op4 ln4 nm4 qu4 qd4 sk P lp od k1 f1 s1 pl ar_180.2.2 ar_180.2.1 S us kept hist_194 sav isv far many laid_194 sides stuck ord rd pl2 wr (hLI2) (hok2) (h01) (hca2)
set_option maxRecDepth 40000 in
theorem law_link {X : zX} {Z : zZ} {bs L : Nat} {xs : Nat → Int32} {x a b a3 b4 c e : Nat → Nat} {E : Nat → Nat → Nat} {q : Nat → Nat} {ii B : Int} (ok : zOK X Z room_1 cL_law RL 4) (hsc : zSC X bs L xs) (hi : 0 ≤ ii ∧ ii + 4 ≤ (L : Int)) (hL : (L : Int) ≤ 2048) (hB : 0 ≤ B ∧ B ≤ 10000000) (hn : LV X Z x a b a3 b4 c e E q bs ii 712 (B + 10000)) : LV X Z x a b a3 b4 c e E q bs ii 202 B := by
  intro A N K ef op ln nm qu qd ef4 op4 ln4 nm4 qu4 qd4 sk P lp od k1 f1 s1 pl und H S us kept hist sav isv far many laid sides stuck ord rd pl2 wr hLI hok h01 hca
  have hw := hLI.1.1
  have hu := hLI.2.1
  have h3 := hLI.1.2.1
  have hpd := hLI.2.2.2.2.2.2
  have hlp := hpd.1
  have hx1 := xI_rng xs (ii + 1)
  have hx2 := xI_rng xs (ii + 2)
  have hx3 := xI_rng xs (ii + 3)
  refine z_aload_n ok dL_law_202 rfl ?_
  refine z_aload_n ok dL_law_203 rfl ?_
  refine z_iload_n ok dL_law_204 rfl ?_
  refine z_iconst ok dL_law_205 ?_
  refine z_iadd ok dL_law_206 ?_
  refine z_sld ok hsc dL_law_207 (by omega) ?_
  refine z_aload_n ok dL_law_208 rfl ?_
  refine z_iload_n ok dL_law_209 rfl ?_
  refine z_iconst ok dL_law_210 ?_
  refine z_iadd ok dL_law_211 ?_
  refine z_sld ok hsc dL_law_212 (by omega) ?_
  refine z_aload_n ok dL_law_213 rfl ?_
  refine z_iload_n ok dL_law_214 rfl ?_
  refine z_iconst ok dL_law_215 ?_
  refine z_iadd ok dL_law_216 ?_
  refine z_sld ok hsc dL_law_217 (by omega) ?_
  refine z_callVig ok (fun l => c_X6_link  (hw) (hok) (hu) (by omega) (by omega) (by omega)) zm_X6_link zv_X6_link qm_RL_22 dL_law_218 (by decide) (by decide) rfl rfl (Nat.le_of_ble_eq_true rfl) (q0 := 16) rfl rfl rfl (L := [soW Z a N (ins N) (mvF N) (N 3), gW Z a (N 4) (N 5) (bkL N), pW Z a (N 6) (pkF N 0) (pkF N 1) (pkF N 2) (pkF N 3) (pkF N 4) (pkF N 5) (pkF N 6) (pkF N 7) (pkF N 8) (pkF N 9), xW Z x (a 0) (b 0) (a3 0) (b4 0) (c 0) (e 0) und ([A 0 0, A 1 0, A 2 0, A 3 0, A 4 0, A 5 0]) ([E 0 0, E 1 0]) us, rW Z b ef op ln nm qu qd, soW Z a3 K (ins K) (mvF K) (K 3), gW Z a3 (K 4) (K 5) (bkL K), pW Z a3 (K 6) (pkF K 0) (pkF K 1) (pkF K 2) (pkF K 3) (pkF K 4) (pkF K 5) (pkF K 6) (pkF K 7) (pkF K 8) (pkF K 9), rW Z b4 ef4 op4 ln4 nm4 qu4 qd4, jW Z c sk, dW Z e P lp od k1 f1 s1 pl, hW Z A H, eW Z E S, mW Z q N kept hist und sav isv P lp 0 far many laid sides stuck ord rd pl2 wr]) (Lr := [soW Z a3 K (ins K) (mvF K) (K 3), gW Z a3 (K 4) (K 5) (bkL K), pW Z a3 (K 6) (pkF K 0) (pkF K 1) (pkF K 2) (pkF K 3) (pkF K 4) (pkF K 5) (pkF K 6) (pkF K 7) (pkF K 8) (pkF K 9), rW Z b4 ef4 op4 ln4 nm4 qu4 qd4, jW Z c sk, dW Z e P lp od k1 f1 s1 pl, eW Z E S, mW Z q N kept hist und sav isv P lp 0 far many laid sides stuck ord rd pl2 wr]) 14 [0, 1, 2, 3, 11, 4, 5, 6, 7, 8, 9, 10, 12, 13] [0, 1, 2, 3, 5, 6, 7, 8, 9, 10, 11, 4, 12, 13] rfl (by decide +kernel) rfl (fun _ => rfl) (by decide +kernel) (fun r218 u218 hp218 => ?_)
  obtain ⟨n_218, ar_218, ro_218, ln_218, nm_218, qu_218, qd_218⟩ := u218
  try dsimp only at hp218
  refine z_eq (ws' := zf [soW Z a n_218 (ins n_218) (mvF n_218) (n_218 3), gW Z a (n_218 4) (n_218 5) (bkL n_218), pW Z a (n_218 6) (pkF n_218 0) (pkF n_218 1) (pkF n_218 2) (pkF n_218 3) (pkF n_218 4) (pkF n_218 5) (pkF n_218 6) (pkF n_218 7) (pkF n_218 8) (pkF n_218 9), xW Z x (a 0) (b 0) (a3 0) (b4 0) (c 0) (e 0) ar_218.2.2 ([ar_218.1 0 0, ar_218.1 1 0, ar_218.1 2 0, ar_218.1 3 0, ar_218.1 4 0, ar_218.1 5 0]) ([E 0 0, E 1 0]) us, rW Z b ro_218.1 ro_218.2 ln_218 nm_218 qu_218 qd_218, soW Z a3 K (ins K) (mvF K) (K 3), gW Z a3 (K 4) (K 5) (bkL K), pW Z a3 (K 6) (pkF K 0) (pkF K 1) (pkF K 2) (pkF K 3) (pkF K 4) (pkF K 5) (pkF K 6) (pkF K 7) (pkF K 8) (pkF K 9), rW Z b4 ef4 op4 ln4 nm4 qu4 qd4, jW Z c sk, dW Z e P lp od k1 f1 s1 pl, hW Z ar_218.1 ar_218.2.1, eW Z E S, mW Z q N kept hist und sav isv P lp 0 far many laid sides stuck ord rd pl2 wr]) rfl ?_
  refine z_aload_n ok dL_law_221 rfl ?_
  refine z_aload_n ok dL_law_222 rfl ?_
  refine z_iload_n ok dL_law_223 rfl ?_
  refine z_iconst ok dL_law_224 ?_
  refine z_iadd ok dL_law_225 ?_
  refine z_sld ok hsc dL_law_226 (by omega) ?_
  refine z_aload_n ok dL_law_227 rfl ?_
  refine z_iload_n ok dL_law_228 rfl ?_
  refine z_iconst ok dL_law_229 ?_
  refine z_iadd ok dL_law_230 ?_
  refine z_sld ok hsc dL_law_231 (by omega) ?_
  refine z_aload_n ok dL_law_232 rfl ?_
  refine z_iload_n ok dL_law_233 rfl ?_
  refine z_iconst ok dL_law_234 ?_
  refine z_iadd ok dL_law_235 ?_
  refine z_sld ok hsc dL_law_236 (by omega) ?_
  refine z_eq (ws' := zf [soW Z a n_218 (ins n_218) (mvF n_218) (n_218 3), gW Z a (n_218 4) (n_218 5) (bkL n_218), pW Z a (n_218 6) (pkF n_218 0) (pkF n_218 1) (pkF n_218 2) (pkF n_218 3) (pkF n_218 4) (pkF n_218 5) (pkF n_218 6) (pkF n_218 7) (pkF n_218 8) (pkF n_218 9), xW Z x (a 0) (b 0) (a3 0) (b4 0) (c 0) (e 0) ar_218.2.2 ([ar_218.1 0 0, ar_218.1 1 0, ar_218.1 2 0, ar_218.1 3 0, ar_218.1 4 0, ar_218.1 5 0]) ([E 0 0, E 1 0]) us, rW Z b ro_218.1 ro_218.2 ln_218 nm_218 qu_218 qd_218, soW Z a3 K (ins K) (mvF K) (K 3), gW Z a3 (K 4) (K 5) (bkL K), pW Z a3 (K 6) (pkF K 0) (pkF K 1) (pkF K 2) (pkF K 3) (pkF K 4) (pkF K 5) (pkF K 6) (pkF K 7) (pkF K 8) (pkF K 9), rW Z b4 ef4 op4 ln4 nm4 qu4 qd4, jW Z c sk, dW Z e P lp od k1 f1 s1 pl, hW Z ar_218.1 ar_218.2.1, eW Z E S] ++ mW Z q N kept hist und sav isv P lp 0 far many laid sides stuck ord rd pl2 wr) (zf_ap1 [soW Z a n_218 (ins n_218) (mvF n_218) (n_218 3), gW Z a (n_218 4) (n_218 5) (bkL n_218), pW Z a (n_218 6) (pkF n_218 0) (pkF n_218 1) (pkF n_218 2) (pkF n_218 3) (pkF n_218 4) (pkF n_218 5) (pkF n_218 6) (pkF n_218 7) (pkF n_218 8) (pkF n_218 9), xW Z x (a 0) (b 0) (a3 0) (b4 0) (c 0) (e 0) ar_218.2.2 ([ar_218.1 0 0, ar_218.1 1 0, ar_218.1 2 0, ar_218.1 3 0, ar_218.1 4 0, ar_218.1 5 0]) ([E 0 0, E 1 0]) us, rW Z b ro_218.1 ro_218.2 ln_218 nm_218 qu_218 qd_218, soW Z a3 K (ins K) (mvF K) (K 3), gW Z a3 (K 4) (K 5) (bkL K), pW Z a3 (K 6) (pkF K 0) (pkF K 1) (pkF K 2) (pkF K 3) (pkF K 4) (pkF K 5) (pkF K 6) (pkF K 7) (pkF K 8) (pkF K 9), rW Z b4 ef4 op4 ln4 nm4 qu4 qd4, jW Z c sk, dW Z e P lp od k1 f1 s1 pl, hW Z ar_218.1 ar_218.2.1, eW Z E S] (mW Z q N kept hist und sav isv P lp 0 far many laid sides stuck ord rd pl2 wr)).symm ?_
  refine z_callVi ok (fun l => c_X7_link  (hw) (hu) (by decide) (by omega) (by omega) (by omega)) zm_X7_link zv_X7_link qm_RL_26 dL_law_237 (by decide) (by decide) rfl rfl (Nat.le_of_ble_eq_true rfl) (q0 := 0) rfl rfl rfl List.perm_append_comm (fun r237 u237 hp237 => ?_)
  obtain ⟨now_237, hist_237, und_237, laid_237⟩ := u237
  try dsimp only at hp237
  refine z_perm List.perm_append_comm ?_
  refine z_eq (ws' := zf [soW Z a n_218 (ins n_218) (mvF n_218) (n_218 3), gW Z a (n_218 4) (n_218 5) (bkL n_218), pW Z a (n_218 6) (pkF n_218 0) (pkF n_218 1) (pkF n_218 2) (pkF n_218 3) (pkF n_218 4) (pkF n_218 5) (pkF n_218 6) (pkF n_218 7) (pkF n_218 8) (pkF n_218 9), xW Z x (a 0) (b 0) (a3 0) (b4 0) (c 0) (e 0) ar_218.2.2 ([ar_218.1 0 0, ar_218.1 1 0, ar_218.1 2 0, ar_218.1 3 0, ar_218.1 4 0, ar_218.1 5 0]) ([E 0 0, E 1 0]) us, rW Z b ro_218.1 ro_218.2 ln_218 nm_218 qu_218 qd_218, soW Z a3 K (ins K) (mvF K) (K 3), gW Z a3 (K 4) (K 5) (bkL K), pW Z a3 (K 6) (pkF K 0) (pkF K 1) (pkF K 2) (pkF K 3) (pkF K 4) (pkF K 5) (pkF K 6) (pkF K 7) (pkF K 8) (pkF K 9), rW Z b4 ef4 op4 ln4 nm4 qu4 qd4, jW Z c sk, dW Z e P lp od k1 f1 s1 pl, hW Z ar_218.1 ar_218.2.1, eW Z E S, mW Z q now_237 kept hist_237 und_237 sav isv P lp 0 far many laid_237 sides stuck ord rd pl2 wr]) (zf_ap1 [soW Z a n_218 (ins n_218) (mvF n_218) (n_218 3), gW Z a (n_218 4) (n_218 5) (bkL n_218), pW Z a (n_218 6) (pkF n_218 0) (pkF n_218 1) (pkF n_218 2) (pkF n_218 3) (pkF n_218 4) (pkF n_218 5) (pkF n_218 6) (pkF n_218 7) (pkF n_218 8) (pkF n_218 9), xW Z x (a 0) (b 0) (a3 0) (b4 0) (c 0) (e 0) ar_218.2.2 ([ar_218.1 0 0, ar_218.1 1 0, ar_218.1 2 0, ar_218.1 3 0, ar_218.1 4 0, ar_218.1 5 0]) ([E 0 0, E 1 0]) us, rW Z b ro_218.1 ro_218.2 ln_218 nm_218 qu_218 qd_218, soW Z a3 K (ins K) (mvF K) (K 3), gW Z a3 (K 4) (K 5) (bkL K), pW Z a3 (K 6) (pkF K 0) (pkF K 1) (pkF K 2) (pkF K 3) (pkF K 4) (pkF K 5) (pkF K 6) (pkF K 7) (pkF K 8) (pkF K 9), rW Z b4 ef4 op4 ln4 nm4 qu4 qd4, jW Z c sk, dW Z e P lp od k1 f1 s1 pl, hW Z ar_218.1 ar_218.2.1, eW Z E S] (mW Z q now_237 kept hist_237 und_237 sav isv P lp 0 far many laid_237 sides stuck ord rd pl2 wr)) ?_
  obtain ⟨hok2, hpc⟩ := hp218
  have hall : r237 = r218 ∧ now_237 = n_218 ∧ und_237 = ar_218.2.2 ∧ LI (B + 10000) ar_218.2.2 n_218 ar_218.2.1 S us hist_237 sav isv P lp ∧ cacheOK n_218 laid_237 far many := by
    rcases hpc with ⟨c1, e1, e2, e3⟩ | ⟨c1, e1, e2, e3⟩
    · rcases hp237 with ⟨d1, d2, d3⟩ | ⟨d1, d0, d2, d3⟩ | ⟨d1, d0, d2, d3⟩
      · cases d3; rw [e2, e3]; exact ⟨by rw [d2, e1]; unfold lnkR; rw [zif_f c1, zif_t d1], rfl, rfl, LI_le hLI (by omega), hca⟩
      · cases d3; rw [e2, e3]; exact ⟨by rw [d2, e1]; unfold lnkR; rw [zif_f c1, zif_f d1], rfl, rfl, LI_le hLI (by omega), hca⟩
      · exact absurd ⟨d1, d0⟩ c1
    · rcases hp237 with ⟨d1, d2, d3⟩ | ⟨d1, d0, d2, d3⟩ | ⟨d1, d0, d2, d3⟩
      · exact absurd d1 c1.1
      · exact absurd c1.2 d0
      · cases d3; rw [e2]; exact ⟨by rw [d2, e1]; unfold lnkR; rw [zif_t c1], rfl, (rec_U hu e3).1, LI_rec hLI e3 (rowB_le (rowB_lnk hLI.1 (lnk_idx hw c1) (by have := c1.2.2; omega)) (by omega)) (by omega), cache_forget⟩
  obtain ⟨hr, hnn, huu, hLI2, hca2⟩ := hall
  rw [hr]
  refine z_eq (ws' := zf [soW Z a n_218 (ins n_218) (mvF n_218) (n_218 3), gW Z a (n_218 4) (n_218 5) (bkL n_218), pW Z a (n_218 6) (pkF n_218 0) (pkF n_218 1) (pkF n_218 2) (pkF n_218 3) (pkF n_218 4) (pkF n_218 5) (pkF n_218 6) (pkF n_218 7) (pkF n_218 8) (pkF n_218 9), xW Z x (a 0) (b 0) (a3 0) (b4 0) (c 0) (e 0) ar_218.2.2 ([ar_218.1 0 0, ar_218.1 1 0, ar_218.1 2 0, ar_218.1 3 0, ar_218.1 4 0, ar_218.1 5 0]) ([E 0 0, E 1 0]) us, rW Z b ro_218.1 ro_218.2 ln_218 nm_218 qu_218 qd_218, soW Z a3 K (ins K) (mvF K) (K 3), gW Z a3 (K 4) (K 5) (bkL K), pW Z a3 (K 6) (pkF K 0) (pkF K 1) (pkF K 2) (pkF K 3) (pkF K 4) (pkF K 5) (pkF K 6) (pkF K 7) (pkF K 8) (pkF K 9), rW Z b4 ef4 op4 ln4 nm4 qu4 qd4, jW Z c sk, dW Z e P lp od k1 f1 s1 pl, hW Z ar_218.1 ar_218.2.1, eW Z E S, mW Z q n_218 kept hist_237 ar_218.2.2 sav isv P lp 0 far many laid_237 sides stuck ord rd pl2 wr]) (by rw [hnn, huu]) ?_
  refine z_icmp_same (tgt := 712) ok dL_law_240 (by decide) ?_
  exact hn ar_218.1 n_218 K ro_218.1 ro_218.2 ln_218 nm_218 qu_218 qd_218 ef4 op4 ln4 nm4 qu4 qd4 sk P lp od k1 f1 s1 pl ar_218.2.2 ar_218.2.1 S us kept hist_237 sav isv far many laid_237 sides stuck ord rd pl2 wr (hLI2) (hok2) (h01) (hca2)
set_option maxRecDepth 40000 in
theorem law_send {X : zX} {Z : zZ} {bs L : Nat} {xs : Nat → Int32} {x a b a3 b4 c e : Nat → Nat} {E : Nat → Nat → Nat} {q : Nat → Nat} {ii B : Int} (ok : zOK X Z room_1 cL_law RL 4) (hsc : zSC X bs L xs) (hi : 0 ≤ ii ∧ ii + 4 ≤ (L : Int)) (hL : (L : Int) ≤ 2048) (hB : 0 ≤ B ∧ B ≤ 10000000) (hn : LV X Z x a b a3 b4 c e E q bs ii 712 (B + 10000)) : LV X Z x a b a3 b4 c e E q bs ii 245 B := by
  intro A N K ef op ln nm qu qd ef4 op4 ln4 nm4 qu4 qd4 sk P lp od k1 f1 s1 pl und H S us kept hist sav isv far many laid sides stuck ord rd pl2 wr hLI hok h01 hca
  have hw := hLI.1.1
  have hu := hLI.2.1
  have h3 := hLI.1.2.1
  have hpd := hLI.2.2.2.2.2.2
  have hlp := hpd.1
  have hx1 := xI_rng xs (ii + 1)
  have hx2 := xI_rng xs (ii + 2)
  have hx3 := xI_rng xs (ii + 3)
  refine z_aload_n ok dL_law_245 rfl ?_
  refine z_aload_n ok dL_law_246 rfl ?_
  refine z_iload_n ok dL_law_247 rfl ?_
  refine z_iconst ok dL_law_248 ?_
  refine z_iadd ok dL_law_249 ?_
  refine z_sld ok hsc dL_law_250 (by omega) ?_
  refine z_aload_n ok dL_law_251 rfl ?_
  refine z_iload_n ok dL_law_252 rfl ?_
  refine z_iconst ok dL_law_253 ?_
  refine z_iadd ok dL_law_254 ?_
  refine z_sld ok hsc dL_law_255 (by omega) ?_
  refine z_callVig ok (fun l => c_X6_send  (hw) (hok) (hu) (by omega) (by omega)) zm_X6_send zv_X6_send qm_RL_27 dL_law_256 (by decide) (by decide) rfl rfl (Nat.le_of_ble_eq_true rfl) (q0 := 16) rfl rfl rfl (L := [soW Z a N (ins N) (mvF N) (N 3), gW Z a (N 4) (N 5) (bkL N), pW Z a (N 6) (pkF N 0) (pkF N 1) (pkF N 2) (pkF N 3) (pkF N 4) (pkF N 5) (pkF N 6) (pkF N 7) (pkF N 8) (pkF N 9), xW Z x (a 0) (b 0) (a3 0) (b4 0) (c 0) (e 0) und ([A 0 0, A 1 0, A 2 0, A 3 0, A 4 0, A 5 0]) ([E 0 0, E 1 0]) us, rW Z b ef op ln nm qu qd, soW Z a3 K (ins K) (mvF K) (K 3), gW Z a3 (K 4) (K 5) (bkL K), pW Z a3 (K 6) (pkF K 0) (pkF K 1) (pkF K 2) (pkF K 3) (pkF K 4) (pkF K 5) (pkF K 6) (pkF K 7) (pkF K 8) (pkF K 9), rW Z b4 ef4 op4 ln4 nm4 qu4 qd4, jW Z c sk, dW Z e P lp od k1 f1 s1 pl, hW Z A H, eW Z E S, mW Z q N kept hist und sav isv P lp 0 far many laid sides stuck ord rd pl2 wr]) (Lr := [soW Z a3 K (ins K) (mvF K) (K 3), gW Z a3 (K 4) (K 5) (bkL K), pW Z a3 (K 6) (pkF K 0) (pkF K 1) (pkF K 2) (pkF K 3) (pkF K 4) (pkF K 5) (pkF K 6) (pkF K 7) (pkF K 8) (pkF K 9), rW Z b4 ef4 op4 ln4 nm4 qu4 qd4, jW Z c sk, dW Z e P lp od k1 f1 s1 pl, eW Z E S, mW Z q N kept hist und sav isv P lp 0 far many laid sides stuck ord rd pl2 wr]) 14 [0, 1, 2, 3, 11, 4, 5, 6, 7, 8, 9, 10, 12, 13] [0, 1, 2, 3, 5, 6, 7, 8, 9, 10, 11, 4, 12, 13] rfl (by decide +kernel) rfl (fun _ => rfl) (by decide +kernel) (fun r256 u256 hp256 => ?_)
  obtain ⟨n_256, ar_256, ro_256, ln_256, nm_256, qu_256, qd_256⟩ := u256
  try dsimp only at hp256
  refine z_eq (ws' := zf [soW Z a n_256 (ins n_256) (mvF n_256) (n_256 3), gW Z a (n_256 4) (n_256 5) (bkL n_256), pW Z a (n_256 6) (pkF n_256 0) (pkF n_256 1) (pkF n_256 2) (pkF n_256 3) (pkF n_256 4) (pkF n_256 5) (pkF n_256 6) (pkF n_256 7) (pkF n_256 8) (pkF n_256 9), xW Z x (a 0) (b 0) (a3 0) (b4 0) (c 0) (e 0) ar_256.2.2 ([ar_256.1 0 0, ar_256.1 1 0, ar_256.1 2 0, ar_256.1 3 0, ar_256.1 4 0, ar_256.1 5 0]) ([E 0 0, E 1 0]) us, rW Z b ro_256.1 ro_256.2 ln_256 nm_256 qu_256 qd_256, soW Z a3 K (ins K) (mvF K) (K 3), gW Z a3 (K 4) (K 5) (bkL K), pW Z a3 (K 6) (pkF K 0) (pkF K 1) (pkF K 2) (pkF K 3) (pkF K 4) (pkF K 5) (pkF K 6) (pkF K 7) (pkF K 8) (pkF K 9), rW Z b4 ef4 op4 ln4 nm4 qu4 qd4, jW Z c sk, dW Z e P lp od k1 f1 s1 pl, hW Z ar_256.1 ar_256.2.1, eW Z E S, mW Z q N kept hist und sav isv P lp 0 far many laid sides stuck ord rd pl2 wr]) rfl ?_
  refine z_aload_n ok dL_law_259 rfl ?_
  refine z_aload_n ok dL_law_260 rfl ?_
  refine z_iload_n ok dL_law_261 rfl ?_
  refine z_iconst ok dL_law_262 ?_
  refine z_iadd ok dL_law_263 ?_
  refine z_sld ok hsc dL_law_264 (by omega) ?_
  refine z_aload_n ok dL_law_265 rfl ?_
  refine z_iload_n ok dL_law_266 rfl ?_
  refine z_iconst ok dL_law_267 ?_
  refine z_iadd ok dL_law_268 ?_
  refine z_sld ok hsc dL_law_269 (by omega) ?_
  refine z_eq (ws' := zf [soW Z a n_256 (ins n_256) (mvF n_256) (n_256 3), gW Z a (n_256 4) (n_256 5) (bkL n_256), pW Z a (n_256 6) (pkF n_256 0) (pkF n_256 1) (pkF n_256 2) (pkF n_256 3) (pkF n_256 4) (pkF n_256 5) (pkF n_256 6) (pkF n_256 7) (pkF n_256 8) (pkF n_256 9), xW Z x (a 0) (b 0) (a3 0) (b4 0) (c 0) (e 0) ar_256.2.2 ([ar_256.1 0 0, ar_256.1 1 0, ar_256.1 2 0, ar_256.1 3 0, ar_256.1 4 0, ar_256.1 5 0]) ([E 0 0, E 1 0]) us, rW Z b ro_256.1 ro_256.2 ln_256 nm_256 qu_256 qd_256, soW Z a3 K (ins K) (mvF K) (K 3), gW Z a3 (K 4) (K 5) (bkL K), pW Z a3 (K 6) (pkF K 0) (pkF K 1) (pkF K 2) (pkF K 3) (pkF K 4) (pkF K 5) (pkF K 6) (pkF K 7) (pkF K 8) (pkF K 9), rW Z b4 ef4 op4 ln4 nm4 qu4 qd4, jW Z c sk, dW Z e P lp od k1 f1 s1 pl, hW Z ar_256.1 ar_256.2.1, eW Z E S] ++ mW Z q N kept hist und sav isv P lp 0 far many laid sides stuck ord rd pl2 wr) (zf_ap1 [soW Z a n_256 (ins n_256) (mvF n_256) (n_256 3), gW Z a (n_256 4) (n_256 5) (bkL n_256), pW Z a (n_256 6) (pkF n_256 0) (pkF n_256 1) (pkF n_256 2) (pkF n_256 3) (pkF n_256 4) (pkF n_256 5) (pkF n_256 6) (pkF n_256 7) (pkF n_256 8) (pkF n_256 9), xW Z x (a 0) (b 0) (a3 0) (b4 0) (c 0) (e 0) ar_256.2.2 ([ar_256.1 0 0, ar_256.1 1 0, ar_256.1 2 0, ar_256.1 3 0, ar_256.1 4 0, ar_256.1 5 0]) ([E 0 0, E 1 0]) us, rW Z b ro_256.1 ro_256.2 ln_256 nm_256 qu_256 qd_256, soW Z a3 K (ins K) (mvF K) (K 3), gW Z a3 (K 4) (K 5) (bkL K), pW Z a3 (K 6) (pkF K 0) (pkF K 1) (pkF K 2) (pkF K 3) (pkF K 4) (pkF K 5) (pkF K 6) (pkF K 7) (pkF K 8) (pkF K 9), rW Z b4 ef4 op4 ln4 nm4 qu4 qd4, jW Z c sk, dW Z e P lp od k1 f1 s1 pl, hW Z ar_256.1 ar_256.2.1, eW Z E S] (mW Z q N kept hist und sav isv P lp 0 far many laid sides stuck ord rd pl2 wr)).symm ?_
  refine z_callVi ok (fun l => c_X7_send  (hw) (hu) (by decide) (by omega) (by omega) (hca)) zm_X7_send zv_X7_send qm_RL_30 dL_law_270 (by decide) (by decide) rfl rfl (Nat.le_of_ble_eq_true rfl) (q0 := 0) rfl rfl rfl List.perm_append_comm (fun r270 u270 hp270 => ?_)
  obtain ⟨now_270, hist_270, und_270, far_270, many_270, laid_270⟩ := u270
  try dsimp only at hp270
  refine z_perm List.perm_append_comm ?_
  refine z_eq (ws' := zf [soW Z a n_256 (ins n_256) (mvF n_256) (n_256 3), gW Z a (n_256 4) (n_256 5) (bkL n_256), pW Z a (n_256 6) (pkF n_256 0) (pkF n_256 1) (pkF n_256 2) (pkF n_256 3) (pkF n_256 4) (pkF n_256 5) (pkF n_256 6) (pkF n_256 7) (pkF n_256 8) (pkF n_256 9), xW Z x (a 0) (b 0) (a3 0) (b4 0) (c 0) (e 0) ar_256.2.2 ([ar_256.1 0 0, ar_256.1 1 0, ar_256.1 2 0, ar_256.1 3 0, ar_256.1 4 0, ar_256.1 5 0]) ([E 0 0, E 1 0]) us, rW Z b ro_256.1 ro_256.2 ln_256 nm_256 qu_256 qd_256, soW Z a3 K (ins K) (mvF K) (K 3), gW Z a3 (K 4) (K 5) (bkL K), pW Z a3 (K 6) (pkF K 0) (pkF K 1) (pkF K 2) (pkF K 3) (pkF K 4) (pkF K 5) (pkF K 6) (pkF K 7) (pkF K 8) (pkF K 9), rW Z b4 ef4 op4 ln4 nm4 qu4 qd4, jW Z c sk, dW Z e P lp od k1 f1 s1 pl, hW Z ar_256.1 ar_256.2.1, eW Z E S, mW Z q now_270 kept hist_270 und_270 sav isv P lp 0 far_270 many_270 laid_270 sides stuck ord rd pl2 wr]) (zf_ap1 [soW Z a n_256 (ins n_256) (mvF n_256) (n_256 3), gW Z a (n_256 4) (n_256 5) (bkL n_256), pW Z a (n_256 6) (pkF n_256 0) (pkF n_256 1) (pkF n_256 2) (pkF n_256 3) (pkF n_256 4) (pkF n_256 5) (pkF n_256 6) (pkF n_256 7) (pkF n_256 8) (pkF n_256 9), xW Z x (a 0) (b 0) (a3 0) (b4 0) (c 0) (e 0) ar_256.2.2 ([ar_256.1 0 0, ar_256.1 1 0, ar_256.1 2 0, ar_256.1 3 0, ar_256.1 4 0, ar_256.1 5 0]) ([E 0 0, E 1 0]) us, rW Z b ro_256.1 ro_256.2 ln_256 nm_256 qu_256 qd_256, soW Z a3 K (ins K) (mvF K) (K 3), gW Z a3 (K 4) (K 5) (bkL K), pW Z a3 (K 6) (pkF K 0) (pkF K 1) (pkF K 2) (pkF K 3) (pkF K 4) (pkF K 5) (pkF K 6) (pkF K 7) (pkF K 8) (pkF K 9), rW Z b4 ef4 op4 ln4 nm4 qu4 qd4, jW Z c sk, dW Z e P lp od k1 f1 s1 pl, hW Z ar_256.1 ar_256.2.1, eW Z E S] (mW Z q now_270 kept hist_270 und_270 sav isv P lp 0 far_270 many_270 laid_270 sides stuck ord rd pl2 wr)) ?_
  obtain ⟨hok2, hpc⟩ := hp256
  have hall : r270 = r256 ∧ now_270 = n_256 ∧ und_270 = ar_256.2.2 ∧ LI (B + 10000) ar_256.2.2 n_256 ar_256.2.1 S us hist_270 sav isv P lp ∧ cacheOK n_256 laid_270 far_270 many_270 := by
    obtain ⟨hcc, hpm⟩ := hp270
    rcases hpc with ⟨c1, e1, e2, e3⟩ | ⟨c1, e1, e2, e3⟩
    · rcases hpm with ⟨d1, d2, d3, d4, d5⟩ | ⟨d1, d2, d3, d4, d5⟩
      · rw [e2, e3, d4, d5]; rw [d3] at hcc; exact ⟨by rw [d2, e1], d3, rfl, LI_le hLI (by omega), hcc⟩
      · exact absurd d1 c1
    · rcases hpm with ⟨d1, d2, d3, d4, d5⟩ | ⟨d1, d2, d3, d4, d5⟩
      · exact absurd c1 d1
      · rw [e2, d4, d5]; rw [d3] at hcc; exact ⟨by rw [d2, e1], d3, (rec_U hu e3).1, LI_rec hLI e3 (rowB_le (rowB_snd hLI.1 c1) (by omega)) (by omega), hcc⟩
  obtain ⟨hr, hnn, huu, hLI2, hca2⟩ := hall
  rw [hr]
  refine z_eq (ws' := zf [soW Z a n_256 (ins n_256) (mvF n_256) (n_256 3), gW Z a (n_256 4) (n_256 5) (bkL n_256), pW Z a (n_256 6) (pkF n_256 0) (pkF n_256 1) (pkF n_256 2) (pkF n_256 3) (pkF n_256 4) (pkF n_256 5) (pkF n_256 6) (pkF n_256 7) (pkF n_256 8) (pkF n_256 9), xW Z x (a 0) (b 0) (a3 0) (b4 0) (c 0) (e 0) ar_256.2.2 ([ar_256.1 0 0, ar_256.1 1 0, ar_256.1 2 0, ar_256.1 3 0, ar_256.1 4 0, ar_256.1 5 0]) ([E 0 0, E 1 0]) us, rW Z b ro_256.1 ro_256.2 ln_256 nm_256 qu_256 qd_256, soW Z a3 K (ins K) (mvF K) (K 3), gW Z a3 (K 4) (K 5) (bkL K), pW Z a3 (K 6) (pkF K 0) (pkF K 1) (pkF K 2) (pkF K 3) (pkF K 4) (pkF K 5) (pkF K 6) (pkF K 7) (pkF K 8) (pkF K 9), rW Z b4 ef4 op4 ln4 nm4 qu4 qd4, jW Z c sk, dW Z e P lp od k1 f1 s1 pl, hW Z ar_256.1 ar_256.2.1, eW Z E S, mW Z q n_256 kept hist_270 ar_256.2.2 sav isv P lp 0 far_270 many_270 laid_270 sides stuck ord rd pl2 wr]) (by rw [hnn, huu]) ?_
  refine z_icmp_same (tgt := 712) ok dL_law_273 (by decide) ?_
  exact hn ar_256.1 n_256 K ro_256.1 ro_256.2 ln_256 nm_256 qu_256 qd_256 ef4 op4 ln4 nm4 qu4 qd4 sk P lp od k1 f1 s1 pl ar_256.2.2 ar_256.2.1 S us kept hist_270 sav isv far_270 many_270 laid_270 sides stuck ord rd pl2 wr (hLI2) (hok2) (h01) (hca2)
set_option maxRecDepth 40000 in
theorem law_ticks {X : zX} {Z : zZ} {bs L : Nat} {xs : Nat → Int32} {x a b a3 b4 c e : Nat → Nat} {E : Nat → Nat → Nat} {q : Nat → Nat} {ii B : Int} (ok : zOK X Z room_1 cL_law RL 4) (hsc : zSC X bs L xs) (hi : 0 ≤ ii ∧ ii + 4 ≤ (L : Int)) (hL : (L : Int) ≤ 2048) (hB : 0 ≤ B ∧ B ≤ 10000000) (hn : LV X Z x a b a3 b4 c e E q bs ii 712 (B + 10000)) : LV X Z x a b a3 b4 c e E q bs ii 278 B := by
  intro A N K ef op ln nm qu qd ef4 op4 ln4 nm4 qu4 qd4 sk P lp od k1 f1 s1 pl und H S us kept hist sav isv far many laid sides stuck ord rd pl2 wr hLI hok h01 hca
  have hw := hLI.1.1
  have hu := hLI.2.1
  have h3 := hLI.1.2.1
  have hpd := hLI.2.2.2.2.2.2
  have hlp := hpd.1
  have hx1 := xI_rng xs (ii + 1)
  have hx2 := xI_rng xs (ii + 2)
  have hx3 := xI_rng xs (ii + 3)
  refine z_aload_n ok dL_law_278 rfl ?_
  refine z_aload_n ok dL_law_279 rfl ?_
  refine z_iload_n ok dL_law_280 rfl ?_
  refine z_iconst ok dL_law_281 ?_
  refine z_iadd ok dL_law_282 ?_
  refine z_sld ok hsc dL_law_283 (by omega) ?_
  refine z_callVig ok (fun l => c_X6_ticks  (hw) (hok) (hu) (by omega)) zm_X6_ticks zv_X6_ticks qm_RL_31 dL_law_284 (by decide) (by decide) rfl rfl (Nat.le_of_ble_eq_true rfl) (q0 := 16) rfl rfl rfl (L := [soW Z a N (ins N) (mvF N) (N 3), gW Z a (N 4) (N 5) (bkL N), pW Z a (N 6) (pkF N 0) (pkF N 1) (pkF N 2) (pkF N 3) (pkF N 4) (pkF N 5) (pkF N 6) (pkF N 7) (pkF N 8) (pkF N 9), xW Z x (a 0) (b 0) (a3 0) (b4 0) (c 0) (e 0) und ([A 0 0, A 1 0, A 2 0, A 3 0, A 4 0, A 5 0]) ([E 0 0, E 1 0]) us, rW Z b ef op ln nm qu qd, soW Z a3 K (ins K) (mvF K) (K 3), gW Z a3 (K 4) (K 5) (bkL K), pW Z a3 (K 6) (pkF K 0) (pkF K 1) (pkF K 2) (pkF K 3) (pkF K 4) (pkF K 5) (pkF K 6) (pkF K 7) (pkF K 8) (pkF K 9), rW Z b4 ef4 op4 ln4 nm4 qu4 qd4, jW Z c sk, dW Z e P lp od k1 f1 s1 pl, hW Z A H, eW Z E S, mW Z q N kept hist und sav isv P lp 0 far many laid sides stuck ord rd pl2 wr]) (Lr := [soW Z a3 K (ins K) (mvF K) (K 3), gW Z a3 (K 4) (K 5) (bkL K), pW Z a3 (K 6) (pkF K 0) (pkF K 1) (pkF K 2) (pkF K 3) (pkF K 4) (pkF K 5) (pkF K 6) (pkF K 7) (pkF K 8) (pkF K 9), rW Z b4 ef4 op4 ln4 nm4 qu4 qd4, jW Z c sk, dW Z e P lp od k1 f1 s1 pl, eW Z E S, mW Z q N kept hist und sav isv P lp 0 far many laid sides stuck ord rd pl2 wr]) 14 [0, 1, 2, 3, 11, 4, 5, 6, 7, 8, 9, 10, 12, 13] [0, 1, 2, 3, 5, 6, 7, 8, 9, 10, 11, 4, 12, 13] rfl (by decide +kernel) rfl (fun _ => rfl) (by decide +kernel) (fun r284 u284 hp284 => ?_)
  obtain ⟨n_284, ar_284, ro_284, ln_284, nm_284, qu_284, qd_284⟩ := u284
  try dsimp only at hp284
  refine z_eq (ws' := zf [soW Z a n_284 (ins n_284) (mvF n_284) (n_284 3), gW Z a (n_284 4) (n_284 5) (bkL n_284), pW Z a (n_284 6) (pkF n_284 0) (pkF n_284 1) (pkF n_284 2) (pkF n_284 3) (pkF n_284 4) (pkF n_284 5) (pkF n_284 6) (pkF n_284 7) (pkF n_284 8) (pkF n_284 9), xW Z x (a 0) (b 0) (a3 0) (b4 0) (c 0) (e 0) ar_284.2.2 ([ar_284.1 0 0, ar_284.1 1 0, ar_284.1 2 0, ar_284.1 3 0, ar_284.1 4 0, ar_284.1 5 0]) ([E 0 0, E 1 0]) us, rW Z b ro_284.1 ro_284.2 ln_284 nm_284 qu_284 qd_284, soW Z a3 K (ins K) (mvF K) (K 3), gW Z a3 (K 4) (K 5) (bkL K), pW Z a3 (K 6) (pkF K 0) (pkF K 1) (pkF K 2) (pkF K 3) (pkF K 4) (pkF K 5) (pkF K 6) (pkF K 7) (pkF K 8) (pkF K 9), rW Z b4 ef4 op4 ln4 nm4 qu4 qd4, jW Z c sk, dW Z e P lp od k1 f1 s1 pl, hW Z ar_284.1 ar_284.2.1, eW Z E S, mW Z q N kept hist und sav isv P lp 0 far many laid sides stuck ord rd pl2 wr]) rfl ?_
  refine z_aload_n ok dL_law_287 rfl ?_
  refine z_aload_n ok dL_law_288 rfl ?_
  refine z_iload_n ok dL_law_289 rfl ?_
  refine z_iconst ok dL_law_290 ?_
  refine z_iadd ok dL_law_291 ?_
  refine z_sld ok hsc dL_law_292 (by omega) ?_
  refine z_eq (ws' := zf [soW Z a n_284 (ins n_284) (mvF n_284) (n_284 3), gW Z a (n_284 4) (n_284 5) (bkL n_284), pW Z a (n_284 6) (pkF n_284 0) (pkF n_284 1) (pkF n_284 2) (pkF n_284 3) (pkF n_284 4) (pkF n_284 5) (pkF n_284 6) (pkF n_284 7) (pkF n_284 8) (pkF n_284 9), xW Z x (a 0) (b 0) (a3 0) (b4 0) (c 0) (e 0) ar_284.2.2 ([ar_284.1 0 0, ar_284.1 1 0, ar_284.1 2 0, ar_284.1 3 0, ar_284.1 4 0, ar_284.1 5 0]) ([E 0 0, E 1 0]) us, rW Z b ro_284.1 ro_284.2 ln_284 nm_284 qu_284 qd_284, soW Z a3 K (ins K) (mvF K) (K 3), gW Z a3 (K 4) (K 5) (bkL K), pW Z a3 (K 6) (pkF K 0) (pkF K 1) (pkF K 2) (pkF K 3) (pkF K 4) (pkF K 5) (pkF K 6) (pkF K 7) (pkF K 8) (pkF K 9), rW Z b4 ef4 op4 ln4 nm4 qu4 qd4, jW Z c sk, dW Z e P lp od k1 f1 s1 pl, hW Z ar_284.1 ar_284.2.1, eW Z E S] ++ mW Z q N kept hist und sav isv P lp 0 far many laid sides stuck ord rd pl2 wr) (zf_ap1 [soW Z a n_284 (ins n_284) (mvF n_284) (n_284 3), gW Z a (n_284 4) (n_284 5) (bkL n_284), pW Z a (n_284 6) (pkF n_284 0) (pkF n_284 1) (pkF n_284 2) (pkF n_284 3) (pkF n_284 4) (pkF n_284 5) (pkF n_284 6) (pkF n_284 7) (pkF n_284 8) (pkF n_284 9), xW Z x (a 0) (b 0) (a3 0) (b4 0) (c 0) (e 0) ar_284.2.2 ([ar_284.1 0 0, ar_284.1 1 0, ar_284.1 2 0, ar_284.1 3 0, ar_284.1 4 0, ar_284.1 5 0]) ([E 0 0, E 1 0]) us, rW Z b ro_284.1 ro_284.2 ln_284 nm_284 qu_284 qd_284, soW Z a3 K (ins K) (mvF K) (K 3), gW Z a3 (K 4) (K 5) (bkL K), pW Z a3 (K 6) (pkF K 0) (pkF K 1) (pkF K 2) (pkF K 3) (pkF K 4) (pkF K 5) (pkF K 6) (pkF K 7) (pkF K 8) (pkF K 9), rW Z b4 ef4 op4 ln4 nm4 qu4 qd4, jW Z c sk, dW Z e P lp od k1 f1 s1 pl, hW Z ar_284.1 ar_284.2.1, eW Z E S] (mW Z q N kept hist und sav isv P lp 0 far many laid sides stuck ord rd pl2 wr)).symm ?_
  refine z_callVi ok (fun l => c_X7_ticks  (hw) (hu) (by decide) (by omega) (hca)) zm_X7_ticks zv_X7_ticks qm_RL_35 dL_law_293 (by decide) (by decide) rfl rfl (Nat.le_of_ble_eq_true rfl) (q0 := 0) rfl rfl rfl List.perm_append_comm (fun r293 u293 hp293 => ?_)
  obtain ⟨now_293, hist_293, und_293, far_293, many_293, laid_293, sides_293⟩ := u293
  try dsimp only at hp293
  refine z_perm List.perm_append_comm ?_
  refine z_eq (ws' := zf [soW Z a n_284 (ins n_284) (mvF n_284) (n_284 3), gW Z a (n_284 4) (n_284 5) (bkL n_284), pW Z a (n_284 6) (pkF n_284 0) (pkF n_284 1) (pkF n_284 2) (pkF n_284 3) (pkF n_284 4) (pkF n_284 5) (pkF n_284 6) (pkF n_284 7) (pkF n_284 8) (pkF n_284 9), xW Z x (a 0) (b 0) (a3 0) (b4 0) (c 0) (e 0) ar_284.2.2 ([ar_284.1 0 0, ar_284.1 1 0, ar_284.1 2 0, ar_284.1 3 0, ar_284.1 4 0, ar_284.1 5 0]) ([E 0 0, E 1 0]) us, rW Z b ro_284.1 ro_284.2 ln_284 nm_284 qu_284 qd_284, soW Z a3 K (ins K) (mvF K) (K 3), gW Z a3 (K 4) (K 5) (bkL K), pW Z a3 (K 6) (pkF K 0) (pkF K 1) (pkF K 2) (pkF K 3) (pkF K 4) (pkF K 5) (pkF K 6) (pkF K 7) (pkF K 8) (pkF K 9), rW Z b4 ef4 op4 ln4 nm4 qu4 qd4, jW Z c sk, dW Z e P lp od k1 f1 s1 pl, hW Z ar_284.1 ar_284.2.1, eW Z E S, mW Z q now_293 kept hist_293 und_293 sav isv P lp 0 far_293 many_293 laid_293 sides_293 stuck ord rd pl2 wr]) (zf_ap1 [soW Z a n_284 (ins n_284) (mvF n_284) (n_284 3), gW Z a (n_284 4) (n_284 5) (bkL n_284), pW Z a (n_284 6) (pkF n_284 0) (pkF n_284 1) (pkF n_284 2) (pkF n_284 3) (pkF n_284 4) (pkF n_284 5) (pkF n_284 6) (pkF n_284 7) (pkF n_284 8) (pkF n_284 9), xW Z x (a 0) (b 0) (a3 0) (b4 0) (c 0) (e 0) ar_284.2.2 ([ar_284.1 0 0, ar_284.1 1 0, ar_284.1 2 0, ar_284.1 3 0, ar_284.1 4 0, ar_284.1 5 0]) ([E 0 0, E 1 0]) us, rW Z b ro_284.1 ro_284.2 ln_284 nm_284 qu_284 qd_284, soW Z a3 K (ins K) (mvF K) (K 3), gW Z a3 (K 4) (K 5) (bkL K), pW Z a3 (K 6) (pkF K 0) (pkF K 1) (pkF K 2) (pkF K 3) (pkF K 4) (pkF K 5) (pkF K 6) (pkF K 7) (pkF K 8) (pkF K 9), rW Z b4 ef4 op4 ln4 nm4 qu4 qd4, jW Z c sk, dW Z e P lp od k1 f1 s1 pl, hW Z ar_284.1 ar_284.2.1, eW Z E S] (mW Z q now_293 kept hist_293 und_293 sav isv P lp 0 far_293 many_293 laid_293 sides_293 stuck ord rd pl2 wr)) ?_
  obtain ⟨hok2, hpc⟩ := hp284
  have hall : r293 = r284 ∧ now_293 = n_284 ∧ und_293 = ar_284.2.2 ∧ LI (B + 10000) ar_284.2.2 n_284 ar_284.2.1 S us hist_293 sav isv P lp ∧ cacheOK n_284 laid_293 far_293 many_293 := by
    obtain ⟨hcc, hpm⟩ := hp293
    rcases hpc with ⟨c1, e1, e2, e3⟩ | ⟨c1, e1, e2, e3⟩
    · rcases hpm with ⟨d1, d2, d3, d4, d5⟩ | ⟨d1, d2, d3, d4, d5⟩
      · rw [e2, e3, d4, d5]; rw [d3] at hcc; exact ⟨by rw [d2, e1], d3, rfl, LI_le hLI (by omega), hcc⟩
      · exact absurd d1 c1
    · rcases hpm with ⟨d1, d2, d3, d4, d5⟩ | ⟨d1, d2, d3, d4, d5⟩
      · exact absurd c1 d1
      · rw [e2, d4, d5]; rw [d3] at hcc; exact ⟨by rw [d2, e1], d3, (rec_U hu e3).1, LI_rec hLI e3 (rowB_le (rowB_tk hLI.1 (xI xs (ii + 1)).toNat) (by omega)) (by omega), hcc⟩
  obtain ⟨hr, hnn, huu, hLI2, hca2⟩ := hall
  rw [hr]
  refine z_eq (ws' := zf [soW Z a n_284 (ins n_284) (mvF n_284) (n_284 3), gW Z a (n_284 4) (n_284 5) (bkL n_284), pW Z a (n_284 6) (pkF n_284 0) (pkF n_284 1) (pkF n_284 2) (pkF n_284 3) (pkF n_284 4) (pkF n_284 5) (pkF n_284 6) (pkF n_284 7) (pkF n_284 8) (pkF n_284 9), xW Z x (a 0) (b 0) (a3 0) (b4 0) (c 0) (e 0) ar_284.2.2 ([ar_284.1 0 0, ar_284.1 1 0, ar_284.1 2 0, ar_284.1 3 0, ar_284.1 4 0, ar_284.1 5 0]) ([E 0 0, E 1 0]) us, rW Z b ro_284.1 ro_284.2 ln_284 nm_284 qu_284 qd_284, soW Z a3 K (ins K) (mvF K) (K 3), gW Z a3 (K 4) (K 5) (bkL K), pW Z a3 (K 6) (pkF K 0) (pkF K 1) (pkF K 2) (pkF K 3) (pkF K 4) (pkF K 5) (pkF K 6) (pkF K 7) (pkF K 8) (pkF K 9), rW Z b4 ef4 op4 ln4 nm4 qu4 qd4, jW Z c sk, dW Z e P lp od k1 f1 s1 pl, hW Z ar_284.1 ar_284.2.1, eW Z E S, mW Z q n_284 kept hist_293 ar_284.2.2 sav isv P lp 0 far_293 many_293 laid_293 sides_293 stuck ord rd pl2 wr]) (by rw [hnn, huu]) ?_
  refine z_icmp_same (tgt := 712) ok dL_law_296 (by decide) ?_
  exact hn ar_284.1 n_284 K ro_284.1 ro_284.2 ln_284 nm_284 qu_284 qd_284 ef4 op4 ln4 nm4 qu4 qd4 sk P lp od k1 f1 s1 pl ar_284.2.2 ar_284.2.1 S us kept hist_293 sav isv far_293 many_293 laid_293 sides_293 stuck ord rd pl2 wr (hLI2) (hok2) (h01) (hca2)
