/-! the law, call by call -/
def LV (X : zX) (Z : zZ) (x a b a3 b4 c e : Nat → Nat) (E : Nat → Nat → Nat) (q : Nat → Nat) (bs : Nat) (ii : Int) (pc : Nat) (B : Int) : Prop :=
  ∀ (A : Nat → Nat → Nat) (N K : Int → Int) (ef : Int) (op ln nm qu : Int → Int) (qd : Int) (ef4 : Int) (op4 ln4 nm4 qu4 : Int → Int) (qd4 : Int) (sk : Int → Int) (P : Int → Int) (lp od : Int) (k1 f1 s1 : Int → Int) (pl : Int) (und : Int) (H S : Nat → Int → Int) (us : Int → Int) (kept hist sav isv far many laid sides stuck ord : Int → Int) (rd pl2 wr : Int), LI B und N H S us hist sav isv P lp → rOK N ef op ln → (∀ x : Int, 0 ≤ x → x < 40 → sk x = 0 ∨ sk x = 1) → cacheOK N laid far many →
    zV X 194 27130 (zf [soW Z a N (ins N) (mvF N) (N 3), gW Z a (N 4) (N 5) (bkL N), pW Z a (N 6) (pkF N 0) (pkF N 1) (pkF N 2) (pkF N 3) (pkF N 4) (pkF N 5) (pkF N 6) (pkF N 7) (pkF N 8) (pkF N 9), xW Z x (a 0) (b 0) (a3 0) (b4 0) (c 0) (e 0) und ([A 0 0, A 1 0, A 2 0, A 3 0, A 4 0, A 5 0]) ([E 0 0, E 1 0]) us, rW Z b ef op ln nm qu qd, soW Z a3 K (ins K) (mvF K) (K 3), gW Z a3 (K 4) (K 5) (bkL K), pW Z a3 (K 6) (pkF K 0) (pkF K 1) (pkF K 2) (pkF K 3) (pkF K 4) (pkF K 5) (pkF K 6) (pkF K 7) (pkF K 8) (pkF K 9), rW Z b4 ef4 op4 ln4 nm4 qu4 qd4, jW Z c sk, dW Z e P lp od k1 f1 s1 pl, hW Z A H, eW Z E S, mW Z q N kept hist und sav isv P lp 0 far many laid sides stuck ord rd pl2 wr]) pc [(3, .int (iI ii)), (2, .ref (q 0)), (1, .ref (x 0)), (0, .ref bs)] []
set_option maxRecDepth 40000 in
theorem law_ofBox {X : zX} {Z : zZ} {bs L : Nat} {xs : Nat → Int32} {x a b a3 b4 c e : Nat → Nat} {E : Nat → Nat → Nat} {q : Nat → Nat} {ii B : Int} (ok : zOK X Z room_1 cL_law RL 4) (hsc : zSC X bs L xs) (hi : 0 ≤ ii ∧ ii + 4 ≤ (L : Int)) (hL : (L : Int) ≤ 2048) (hB : 0 ≤ B ∧ B ≤ 10000000) (hn : LV X Z x a b a3 b4 c e E q bs ii 712 (B + 10000)) : LV X Z x a b a3 b4 c e E q bs ii 334 B := by
  intro A N K ef op ln nm qu qd ef4 op4 ln4 nm4 qu4 qd4 sk P lp od k1 f1 s1 pl und H S us kept hist sav isv far many laid sides stuck ord rd pl2 wr hLI hok h01 hca
  have hw := hLI.1.1
  have hu := hLI.2.1
  have h3 := hLI.1.2.1
  have hpd := hLI.2.2.2.2.2.2
  have hlp := hpd.1
  have hx1 := xI_rng xs (ii + 1)
  have hx2 := xI_rng xs (ii + 2)
  have hx3 := xI_rng xs (ii + 3)
  refine z_aload_n ok dL_law_334 rfl ?_
  refine z_aload_n ok dL_law_335 rfl ?_
  refine z_iload_n ok dL_law_336 rfl ?_
  refine z_iconst ok dL_law_337 ?_
  refine z_iadd ok dL_law_338 ?_
  refine z_sld ok hsc dL_law_339 (by omega) ?_
  refine z_aload_n ok dL_law_340 rfl ?_
  refine z_iload_n ok dL_law_341 rfl ?_
  refine z_iconst ok dL_law_342 ?_
  refine z_iadd ok dL_law_343 ?_
  refine z_sld ok hsc dL_law_344 (by omega) ?_
  refine z_callVig ok (fun l => c_X6_ofBox  (hw) (by omega) (by omega)) zm_X6_ofBox zv_X6_ofBox qm_RL_40 dL_law_345 (by decide) (by decide) rfl rfl (Nat.le_of_ble_eq_true rfl) (q0 := 16) rfl rfl rfl (L := [soW Z a N (ins N) (mvF N) (N 3), gW Z a (N 4) (N 5) (bkL N), pW Z a (N 6) (pkF N 0) (pkF N 1) (pkF N 2) (pkF N 3) (pkF N 4) (pkF N 5) (pkF N 6) (pkF N 7) (pkF N 8) (pkF N 9), xW Z x (a 0) (b 0) (a3 0) (b4 0) (c 0) (e 0) und ([A 0 0, A 1 0, A 2 0, A 3 0, A 4 0, A 5 0]) ([E 0 0, E 1 0]) us, rW Z b ef op ln nm qu qd, soW Z a3 K (ins K) (mvF K) (K 3), gW Z a3 (K 4) (K 5) (bkL K), pW Z a3 (K 6) (pkF K 0) (pkF K 1) (pkF K 2) (pkF K 3) (pkF K 4) (pkF K 5) (pkF K 6) (pkF K 7) (pkF K 8) (pkF K 9), rW Z b4 ef4 op4 ln4 nm4 qu4 qd4, jW Z c sk, dW Z e P lp od k1 f1 s1 pl, hW Z A H, eW Z E S, mW Z q N kept hist und sav isv P lp 0 far many laid sides stuck ord rd pl2 wr]) (Lr := [rW Z b ef op ln nm qu qd, soW Z a3 K (ins K) (mvF K) (K 3), gW Z a3 (K 4) (K 5) (bkL K), pW Z a3 (K 6) (pkF K 0) (pkF K 1) (pkF K 2) (pkF K 3) (pkF K 4) (pkF K 5) (pkF K 6) (pkF K 7) (pkF K 8) (pkF K 9), rW Z b4 ef4 op4 ln4 nm4 qu4 qd4, jW Z c sk, dW Z e P lp od k1 f1 s1 pl, hW Z A H, eW Z E S, mW Z q N kept hist und sav isv P lp 0 far many laid sides stuck ord rd pl2 wr]) 14 [0, 1, 2, 3, 4, 5, 6, 7, 8, 9, 10, 11, 12, 13] [0, 1, 2, 3, 4, 5, 6, 7, 8, 9, 10, 11, 12, 13] rfl (by decide +kernel) rfl (fun _ => rfl) (by decide +kernel) (fun ρ _ hρ => ?_)
  subst hρ
  refine z_eq (ws' := zf [soW Z a N (ins N) (mvF N) (N 3), gW Z a (N 4) (N 5) (bkL N), pW Z a (N 6) (pkF N 0) (pkF N 1) (pkF N 2) (pkF N 3) (pkF N 4) (pkF N 5) (pkF N 6) (pkF N 7) (pkF N 8) (pkF N 9), xW Z x (a 0) (b 0) (a3 0) (b4 0) (c 0) (e 0) und ([A 0 0, A 1 0, A 2 0, A 3 0, A 4 0, A 5 0]) ([E 0 0, E 1 0]) us, rW Z b ef op ln nm qu qd, soW Z a3 K (ins K) (mvF K) (K 3), gW Z a3 (K 4) (K 5) (bkL K), pW Z a3 (K 6) (pkF K 0) (pkF K 1) (pkF K 2) (pkF K 3) (pkF K 4) (pkF K 5) (pkF K 6) (pkF K 7) (pkF K 8) (pkF K 9), rW Z b4 ef4 op4 ln4 nm4 qu4 qd4, jW Z c sk, dW Z e P lp od k1 f1 s1 pl, hW Z A H, eW Z E S, mW Z q N kept hist und sav isv P lp 0 far many laid sides stuck ord rd pl2 wr]) rfl ?_
  refine z_aload_n ok dL_law_348 rfl ?_
  refine z_aload_n ok dL_law_349 rfl ?_
  refine z_iload_n ok dL_law_350 rfl ?_
  refine z_iconst ok dL_law_351 ?_
  refine z_iadd ok dL_law_352 ?_
  refine z_sld ok hsc dL_law_353 (by omega) ?_
  refine z_aload_n ok dL_law_354 rfl ?_
  refine z_iload_n ok dL_law_355 rfl ?_
  refine z_iconst ok dL_law_356 ?_
  refine z_iadd ok dL_law_357 ?_
  refine z_sld ok hsc dL_law_358 (by omega) ?_
  refine z_eq (ws' := zf [soW Z a N (ins N) (mvF N) (N 3), gW Z a (N 4) (N 5) (bkL N), pW Z a (N 6) (pkF N 0) (pkF N 1) (pkF N 2) (pkF N 3) (pkF N 4) (pkF N 5) (pkF N 6) (pkF N 7) (pkF N 8) (pkF N 9), xW Z x (a 0) (b 0) (a3 0) (b4 0) (c 0) (e 0) und ([A 0 0, A 1 0, A 2 0, A 3 0, A 4 0, A 5 0]) ([E 0 0, E 1 0]) us, rW Z b ef op ln nm qu qd, soW Z a3 K (ins K) (mvF K) (K 3), gW Z a3 (K 4) (K 5) (bkL K), pW Z a3 (K 6) (pkF K 0) (pkF K 1) (pkF K 2) (pkF K 3) (pkF K 4) (pkF K 5) (pkF K 6) (pkF K 7) (pkF K 8) (pkF K 9), rW Z b4 ef4 op4 ln4 nm4 qu4 qd4, jW Z c sk, dW Z e P lp od k1 f1 s1 pl, hW Z A H, eW Z E S] ++ mW Z q N kept hist und sav isv P lp 0 far many laid sides stuck ord rd pl2 wr) (zf_ap1 [soW Z a N (ins N) (mvF N) (N 3), gW Z a (N 4) (N 5) (bkL N), pW Z a (N 6) (pkF N 0) (pkF N 1) (pkF N 2) (pkF N 3) (pkF N 4) (pkF N 5) (pkF N 6) (pkF N 7) (pkF N 8) (pkF N 9), xW Z x (a 0) (b 0) (a3 0) (b4 0) (c 0) (e 0) und ([A 0 0, A 1 0, A 2 0, A 3 0, A 4 0, A 5 0]) ([E 0 0, E 1 0]) us, rW Z b ef op ln nm qu qd, soW Z a3 K (ins K) (mvF K) (K 3), gW Z a3 (K 4) (K 5) (bkL K), pW Z a3 (K 6) (pkF K 0) (pkF K 1) (pkF K 2) (pkF K 3) (pkF K 4) (pkF K 5) (pkF K 6) (pkF K 7) (pkF K 8) (pkF K 9), rW Z b4 ef4 op4 ln4 nm4 qu4 qd4, jW Z c sk, dW Z e P lp od k1 f1 s1 pl, hW Z A H, eW Z E S] (mW Z q N kept hist und sav isv P lp 0 far many laid sides stuck ord rd pl2 wr)).symm ?_
  refine z_callVi ok (fun l => c_X7_ofBox  (hw) (by omega) (by omega)) zm_X7_ofBox zv_X7_ofBox qm_RL_43 dL_law_359 (by decide) (by decide) rfl rfl (Nat.le_of_ble_eq_true rfl) (q0 := 0) rfl rfl rfl List.perm_append_comm (fun ρ _ hρ => ?_)
  subst hρ
  refine z_perm List.perm_append_comm ?_
  refine z_eq (ws' := zf [soW Z a N (ins N) (mvF N) (N 3), gW Z a (N 4) (N 5) (bkL N), pW Z a (N 6) (pkF N 0) (pkF N 1) (pkF N 2) (pkF N 3) (pkF N 4) (pkF N 5) (pkF N 6) (pkF N 7) (pkF N 8) (pkF N 9), xW Z x (a 0) (b 0) (a3 0) (b4 0) (c 0) (e 0) und ([A 0 0, A 1 0, A 2 0, A 3 0, A 4 0, A 5 0]) ([E 0 0, E 1 0]) us, rW Z b ef op ln nm qu qd, soW Z a3 K (ins K) (mvF K) (K 3), gW Z a3 (K 4) (K 5) (bkL K), pW Z a3 (K 6) (pkF K 0) (pkF K 1) (pkF K 2) (pkF K 3) (pkF K 4) (pkF K 5) (pkF K 6) (pkF K 7) (pkF K 8) (pkF K 9), rW Z b4 ef4 op4 ln4 nm4 qu4 qd4, jW Z c sk, dW Z e P lp od k1 f1 s1 pl, hW Z A H, eW Z E S, mW Z q N kept hist und sav isv P lp 0 far many laid sides stuck ord rd pl2 wr]) (zf_ap1 [soW Z a N (ins N) (mvF N) (N 3), gW Z a (N 4) (N 5) (bkL N), pW Z a (N 6) (pkF N 0) (pkF N 1) (pkF N 2) (pkF N 3) (pkF N 4) (pkF N 5) (pkF N 6) (pkF N 7) (pkF N 8) (pkF N 9), xW Z x (a 0) (b 0) (a3 0) (b4 0) (c 0) (e 0) und ([A 0 0, A 1 0, A 2 0, A 3 0, A 4 0, A 5 0]) ([E 0 0, E 1 0]) us, rW Z b ef op ln nm qu qd, soW Z a3 K (ins K) (mvF K) (K 3), gW Z a3 (K 4) (K 5) (bkL K), pW Z a3 (K 6) (pkF K 0) (pkF K 1) (pkF K 2) (pkF K 3) (pkF K 4) (pkF K 5) (pkF K 6) (pkF K 7) (pkF K 8) (pkF K 9), rW Z b4 ef4 op4 ln4 nm4 qu4 qd4, jW Z c sk, dW Z e P lp od k1 f1 s1 pl, hW Z A H, eW Z E S] (mW Z q N kept hist und sav isv P lp 0 far many laid sides stuck ord rd pl2 wr)) ?_
  refine z_icmp_same (tgt := 712) ok dL_law_362 (by decide) ?_
  exact hn A N K ef op ln nm qu qd ef4 op4 ln4 nm4 qu4 qd4 sk P lp od k1 f1 s1 pl und H S us kept hist sav isv far many laid sides stuck ord rd pl2 wr (LI_le hLI (by omega)) (hok) (h01) (hca)
set_option maxRecDepth 40000 in
theorem law_leastWay {X : zX} {Z : zZ} {bs L : Nat} {xs : Nat → Int32} {x a b a3 b4 c e : Nat → Nat} {E : Nat → Nat → Nat} {q : Nat → Nat} {ii B : Int} (ok : zOK X Z room_1 cL_law RL 4) (hsc : zSC X bs L xs) (hi : 0 ≤ ii ∧ ii + 4 ≤ (L : Int)) (hL : (L : Int) ≤ 2048) (hB : 0 ≤ B ∧ B ≤ 10000000) (hn : LV X Z x a b a3 b4 c e E q bs ii 712 (B + 10000)) : LV X Z x a b a3 b4 c e E q bs ii 390 B := by
  intro A N K ef op ln nm qu qd ef4 op4 ln4 nm4 qu4 qd4 sk P lp od k1 f1 s1 pl und H S us kept hist sav isv far many laid sides stuck ord rd pl2 wr hLI hok h01 hca
  have hw := hLI.1.1
  have hu := hLI.2.1
  have h3 := hLI.1.2.1
  have hpd := hLI.2.2.2.2.2.2
  have hlp := hpd.1
  have hx1 := xI_rng xs (ii + 1)
  have hx2 := xI_rng xs (ii + 2)
  have hx3 := xI_rng xs (ii + 3)
  refine z_aload_n ok dL_law_390 rfl ?_
  refine z_aload_n ok dL_law_391 rfl ?_
  refine z_iload_n ok dL_law_392 rfl ?_
  refine z_iconst ok dL_law_393 ?_
  refine z_iadd ok dL_law_394 ?_
  refine z_sld ok hsc dL_law_395 (by omega) ?_
  refine z_aload_n ok dL_law_396 rfl ?_
  refine z_iload_n ok dL_law_397 rfl ?_
  refine z_iconst ok dL_law_398 ?_
  refine z_iadd ok dL_law_399 ?_
  refine z_sld ok hsc dL_law_400 (by omega) ?_
  refine z_callVig ok (fun l => c_X6_leastWay  (hw) (hok) (by omega) (by omega)) zm_X6_leastWay zv_X6_leastWay qm_RL_48 dL_law_401 (by decide) (by decide) rfl rfl (Nat.le_of_ble_eq_true rfl) (q0 := 16) rfl rfl rfl (L := [soW Z a N (ins N) (mvF N) (N 3), gW Z a (N 4) (N 5) (bkL N), pW Z a (N 6) (pkF N 0) (pkF N 1) (pkF N 2) (pkF N 3) (pkF N 4) (pkF N 5) (pkF N 6) (pkF N 7) (pkF N 8) (pkF N 9), xW Z x (a 0) (b 0) (a3 0) (b4 0) (c 0) (e 0) und ([A 0 0, A 1 0, A 2 0, A 3 0, A 4 0, A 5 0]) ([E 0 0, E 1 0]) us, rW Z b ef op ln nm qu qd, soW Z a3 K (ins K) (mvF K) (K 3), gW Z a3 (K 4) (K 5) (bkL K), pW Z a3 (K 6) (pkF K 0) (pkF K 1) (pkF K 2) (pkF K 3) (pkF K 4) (pkF K 5) (pkF K 6) (pkF K 7) (pkF K 8) (pkF K 9), rW Z b4 ef4 op4 ln4 nm4 qu4 qd4, jW Z c sk, dW Z e P lp od k1 f1 s1 pl, hW Z A H, eW Z E S, mW Z q N kept hist und sav isv P lp 0 far many laid sides stuck ord rd pl2 wr]) (Lr := [soW Z a3 K (ins K) (mvF K) (K 3), gW Z a3 (K 4) (K 5) (bkL K), pW Z a3 (K 6) (pkF K 0) (pkF K 1) (pkF K 2) (pkF K 3) (pkF K 4) (pkF K 5) (pkF K 6) (pkF K 7) (pkF K 8) (pkF K 9), rW Z b4 ef4 op4 ln4 nm4 qu4 qd4, jW Z c sk, dW Z e P lp od k1 f1 s1 pl, hW Z A H, eW Z E S, mW Z q N kept hist und sav isv P lp 0 far many laid sides stuck ord rd pl2 wr]) 14 [0, 1, 2, 3, 4, 5, 6, 7, 8, 9, 10, 11, 12, 13] [0, 1, 2, 3, 4, 5, 6, 7, 8, 9, 10, 11, 12, 13] rfl (by decide +kernel) rfl (fun _ => rfl) (by decide +kernel) (fun ρ _ hρ => ?_)
  subst hρ
  refine z_eq (ws' := zf [soW Z a N (ins N) (mvF N) (N 3), gW Z a (N 4) (N 5) (bkL N), pW Z a (N 6) (pkF N 0) (pkF N 1) (pkF N 2) (pkF N 3) (pkF N 4) (pkF N 5) (pkF N 6) (pkF N 7) (pkF N 8) (pkF N 9), xW Z x (a 0) (b 0) (a3 0) (b4 0) (c 0) (e 0) und ([A 0 0, A 1 0, A 2 0, A 3 0, A 4 0, A 5 0]) ([E 0 0, E 1 0]) us, rW Z b ef op ln nm qu qd, soW Z a3 K (ins K) (mvF K) (K 3), gW Z a3 (K 4) (K 5) (bkL K), pW Z a3 (K 6) (pkF K 0) (pkF K 1) (pkF K 2) (pkF K 3) (pkF K 4) (pkF K 5) (pkF K 6) (pkF K 7) (pkF K 8) (pkF K 9), rW Z b4 ef4 op4 ln4 nm4 qu4 qd4, jW Z c sk, dW Z e P lp od k1 f1 s1 pl, hW Z A H, eW Z E S, mW Z q N kept hist und sav isv P lp 0 far many laid sides stuck ord rd pl2 wr]) rfl ?_
  refine z_aload_n ok dL_law_404 rfl ?_
  refine z_aload_n ok dL_law_405 rfl ?_
  refine z_iload_n ok dL_law_406 rfl ?_
  refine z_iconst ok dL_law_407 ?_
  refine z_iadd ok dL_law_408 ?_
  refine z_sld ok hsc dL_law_409 (by omega) ?_
  refine z_aload_n ok dL_law_410 rfl ?_
  refine z_iload_n ok dL_law_411 rfl ?_
  refine z_iconst ok dL_law_412 ?_
  refine z_iadd ok dL_law_413 ?_
  refine z_sld ok hsc dL_law_414 (by omega) ?_
  refine z_eq (ws' := zf [soW Z a N (ins N) (mvF N) (N 3), gW Z a (N 4) (N 5) (bkL N), pW Z a (N 6) (pkF N 0) (pkF N 1) (pkF N 2) (pkF N 3) (pkF N 4) (pkF N 5) (pkF N 6) (pkF N 7) (pkF N 8) (pkF N 9), xW Z x (a 0) (b 0) (a3 0) (b4 0) (c 0) (e 0) und ([A 0 0, A 1 0, A 2 0, A 3 0, A 4 0, A 5 0]) ([E 0 0, E 1 0]) us, rW Z b ef op ln nm qu qd, soW Z a3 K (ins K) (mvF K) (K 3), gW Z a3 (K 4) (K 5) (bkL K), pW Z a3 (K 6) (pkF K 0) (pkF K 1) (pkF K 2) (pkF K 3) (pkF K 4) (pkF K 5) (pkF K 6) (pkF K 7) (pkF K 8) (pkF K 9), rW Z b4 ef4 op4 ln4 nm4 qu4 qd4, jW Z c sk, dW Z e P lp od k1 f1 s1 pl, hW Z A H, eW Z E S] ++ mW Z q N kept hist und sav isv P lp 0 far many laid sides stuck ord rd pl2 wr) (zf_ap1 [soW Z a N (ins N) (mvF N) (N 3), gW Z a (N 4) (N 5) (bkL N), pW Z a (N 6) (pkF N 0) (pkF N 1) (pkF N 2) (pkF N 3) (pkF N 4) (pkF N 5) (pkF N 6) (pkF N 7) (pkF N 8) (pkF N 9), xW Z x (a 0) (b 0) (a3 0) (b4 0) (c 0) (e 0) und ([A 0 0, A 1 0, A 2 0, A 3 0, A 4 0, A 5 0]) ([E 0 0, E 1 0]) us, rW Z b ef op ln nm qu qd, soW Z a3 K (ins K) (mvF K) (K 3), gW Z a3 (K 4) (K 5) (bkL K), pW Z a3 (K 6) (pkF K 0) (pkF K 1) (pkF K 2) (pkF K 3) (pkF K 4) (pkF K 5) (pkF K 6) (pkF K 7) (pkF K 8) (pkF K 9), rW Z b4 ef4 op4 ln4 nm4 qu4 qd4, jW Z c sk, dW Z e P lp od k1 f1 s1 pl, hW Z A H, eW Z E S] (mW Z q N kept hist und sav isv P lp 0 far many laid sides stuck ord rd pl2 wr)).symm ?_
  refine z_callVi ok (fun l => c_X7_leastWay  (hw) (by omega) (by omega) (hca)) zm_X7_leastWay zv_X7_leastWay qm_RL_51 dL_law_415 (by decide) (by decide) rfl rfl (Nat.le_of_ble_eq_true rfl) (q0 := 0) rfl rfl rfl List.perm_append_comm (fun r415 u415 hp415 => ?_)
  obtain ⟨far_415, many_415, laid_415⟩ := u415
  try dsimp only at hp415
  obtain ⟨rfl, hc415⟩ := hp415
  refine z_perm List.perm_append_comm ?_
  refine z_eq (ws' := zf [soW Z a N (ins N) (mvF N) (N 3), gW Z a (N 4) (N 5) (bkL N), pW Z a (N 6) (pkF N 0) (pkF N 1) (pkF N 2) (pkF N 3) (pkF N 4) (pkF N 5) (pkF N 6) (pkF N 7) (pkF N 8) (pkF N 9), xW Z x (a 0) (b 0) (a3 0) (b4 0) (c 0) (e 0) und ([A 0 0, A 1 0, A 2 0, A 3 0, A 4 0, A 5 0]) ([E 0 0, E 1 0]) us, rW Z b ef op ln nm qu qd, soW Z a3 K (ins K) (mvF K) (K 3), gW Z a3 (K 4) (K 5) (bkL K), pW Z a3 (K 6) (pkF K 0) (pkF K 1) (pkF K 2) (pkF K 3) (pkF K 4) (pkF K 5) (pkF K 6) (pkF K 7) (pkF K 8) (pkF K 9), rW Z b4 ef4 op4 ln4 nm4 qu4 qd4, jW Z c sk, dW Z e P lp od k1 f1 s1 pl, hW Z A H, eW Z E S, mW Z q N kept hist und sav isv P lp 0 far_415 many_415 laid_415 sides stuck ord rd pl2 wr]) (zf_ap1 [soW Z a N (ins N) (mvF N) (N 3), gW Z a (N 4) (N 5) (bkL N), pW Z a (N 6) (pkF N 0) (pkF N 1) (pkF N 2) (pkF N 3) (pkF N 4) (pkF N 5) (pkF N 6) (pkF N 7) (pkF N 8) (pkF N 9), xW Z x (a 0) (b 0) (a3 0) (b4 0) (c 0) (e 0) und ([A 0 0, A 1 0, A 2 0, A 3 0, A 4 0, A 5 0]) ([E 0 0, E 1 0]) us, rW Z b ef op ln nm qu qd, soW Z a3 K (ins K) (mvF K) (K 3), gW Z a3 (K 4) (K 5) (bkL K), pW Z a3 (K 6) (pkF K 0) (pkF K 1) (pkF K 2) (pkF K 3) (pkF K 4) (pkF K 5) (pkF K 6) (pkF K 7) (pkF K 8) (pkF K 9), rW Z b4 ef4 op4 ln4 nm4 qu4 qd4, jW Z c sk, dW Z e P lp od k1 f1 s1 pl, hW Z A H, eW Z E S] (mW Z q N kept hist und sav isv P lp 0 far_415 many_415 laid_415 sides stuck ord rd pl2 wr)) ?_
  refine z_icmp_same (tgt := 712) ok dL_law_418 (by decide) ?_
  exact hn A N K ef op ln nm qu qd ef4 op4 ln4 nm4 qu4 qd4 sk P lp od k1 f1 s1 pl und H S us kept hist sav isv far_415 many_415 laid_415 sides stuck ord rd pl2 wr (LI_le hLI (by omega)) (hok) (h01) (hc415)
set_option maxRecDepth 40000 in
theorem law_pairs {X : zX} {Z : zZ} {bs L : Nat} {xs : Nat → Int32} {x a b a3 b4 c e : Nat → Nat} {E : Nat → Nat → Nat} {q : Nat → Nat} {ii B : Int} (ok : zOK X Z room_1 cL_law RL 4) (hsc : zSC X bs L xs) (hi : 0 ≤ ii ∧ ii + 4 ≤ (L : Int)) (hL : (L : Int) ≤ 2048) (hB : 0 ≤ B ∧ B ≤ 10000000) (hn : LV X Z x a b a3 b4 c e E q bs ii 712 (B + 10000)) : LV X Z x a b a3 b4 c e E q bs ii 456 B := by
  intro A N K ef op ln nm qu qd ef4 op4 ln4 nm4 qu4 qd4 sk P lp od k1 f1 s1 pl und H S us kept hist sav isv far many laid sides stuck ord rd pl2 wr hLI hok h01 hca
  have hw := hLI.1.1
  have hu := hLI.2.1
  have h3 := hLI.1.2.1
  have hpd := hLI.2.2.2.2.2.2
  have hlp := hpd.1
  have hx1 := xI_rng xs (ii + 1)
  have hx2 := xI_rng xs (ii + 2)
  have hx3 := xI_rng xs (ii + 3)
  refine z_aload_n ok dL_law_456 rfl ?_
  refine z_callVig ok (fun l => c_X6_pairs  (hw) (hok)) zm_X6_pairs zv_X6_pairs qm_RL_56 dL_law_457 (by decide) (by decide) rfl rfl (Nat.le_of_ble_eq_true rfl) (q0 := 16) rfl rfl rfl (L := [soW Z a N (ins N) (mvF N) (N 3), gW Z a (N 4) (N 5) (bkL N), pW Z a (N 6) (pkF N 0) (pkF N 1) (pkF N 2) (pkF N 3) (pkF N 4) (pkF N 5) (pkF N 6) (pkF N 7) (pkF N 8) (pkF N 9), xW Z x (a 0) (b 0) (a3 0) (b4 0) (c 0) (e 0) und ([A 0 0, A 1 0, A 2 0, A 3 0, A 4 0, A 5 0]) ([E 0 0, E 1 0]) us, rW Z b ef op ln nm qu qd, soW Z a3 K (ins K) (mvF K) (K 3), gW Z a3 (K 4) (K 5) (bkL K), pW Z a3 (K 6) (pkF K 0) (pkF K 1) (pkF K 2) (pkF K 3) (pkF K 4) (pkF K 5) (pkF K 6) (pkF K 7) (pkF K 8) (pkF K 9), rW Z b4 ef4 op4 ln4 nm4 qu4 qd4, jW Z c sk, dW Z e P lp od k1 f1 s1 pl, hW Z A H, eW Z E S, mW Z q N kept hist und sav isv P lp 0 far many laid sides stuck ord rd pl2 wr]) (Lr := [soW Z a3 K (ins K) (mvF K) (K 3), gW Z a3 (K 4) (K 5) (bkL K), pW Z a3 (K 6) (pkF K 0) (pkF K 1) (pkF K 2) (pkF K 3) (pkF K 4) (pkF K 5) (pkF K 6) (pkF K 7) (pkF K 8) (pkF K 9), rW Z b4 ef4 op4 ln4 nm4 qu4 qd4, jW Z c sk, dW Z e P lp od k1 f1 s1 pl, hW Z A H, eW Z E S, mW Z q N kept hist und sav isv P lp 0 far many laid sides stuck ord rd pl2 wr]) 14 [0, 1, 2, 3, 4, 5, 6, 7, 8, 9, 10, 11, 12, 13] [0, 1, 2, 3, 4, 5, 6, 7, 8, 9, 10, 11, 12, 13] rfl (by decide +kernel) rfl (fun _ => rfl) (by decide +kernel) (fun ρ _ hρ => ?_)
  subst hρ
  refine z_eq (ws' := zf [soW Z a N (ins N) (mvF N) (N 3), gW Z a (N 4) (N 5) (bkL N), pW Z a (N 6) (pkF N 0) (pkF N 1) (pkF N 2) (pkF N 3) (pkF N 4) (pkF N 5) (pkF N 6) (pkF N 7) (pkF N 8) (pkF N 9), xW Z x (a 0) (b 0) (a3 0) (b4 0) (c 0) (e 0) und ([A 0 0, A 1 0, A 2 0, A 3 0, A 4 0, A 5 0]) ([E 0 0, E 1 0]) us, rW Z b ef op ln nm qu qd, soW Z a3 K (ins K) (mvF K) (K 3), gW Z a3 (K 4) (K 5) (bkL K), pW Z a3 (K 6) (pkF K 0) (pkF K 1) (pkF K 2) (pkF K 3) (pkF K 4) (pkF K 5) (pkF K 6) (pkF K 7) (pkF K 8) (pkF K 9), rW Z b4 ef4 op4 ln4 nm4 qu4 qd4, jW Z c sk, dW Z e P lp od k1 f1 s1 pl, hW Z A H, eW Z E S, mW Z q N kept hist und sav isv P lp 0 far many laid sides stuck ord rd pl2 wr]) rfl ?_
  refine z_aload_n ok dL_law_460 rfl ?_
  refine z_eq (ws' := zf [soW Z a N (ins N) (mvF N) (N 3), gW Z a (N 4) (N 5) (bkL N), pW Z a (N 6) (pkF N 0) (pkF N 1) (pkF N 2) (pkF N 3) (pkF N 4) (pkF N 5) (pkF N 6) (pkF N 7) (pkF N 8) (pkF N 9), xW Z x (a 0) (b 0) (a3 0) (b4 0) (c 0) (e 0) und ([A 0 0, A 1 0, A 2 0, A 3 0, A 4 0, A 5 0]) ([E 0 0, E 1 0]) us, rW Z b ef op ln nm qu qd, soW Z a3 K (ins K) (mvF K) (K 3), gW Z a3 (K 4) (K 5) (bkL K), pW Z a3 (K 6) (pkF K 0) (pkF K 1) (pkF K 2) (pkF K 3) (pkF K 4) (pkF K 5) (pkF K 6) (pkF K 7) (pkF K 8) (pkF K 9), rW Z b4 ef4 op4 ln4 nm4 qu4 qd4, jW Z c sk, dW Z e P lp od k1 f1 s1 pl, hW Z A H, eW Z E S] ++ mW Z q N kept hist und sav isv P lp 0 far many laid sides stuck ord rd pl2 wr) (zf_ap1 [soW Z a N (ins N) (mvF N) (N 3), gW Z a (N 4) (N 5) (bkL N), pW Z a (N 6) (pkF N 0) (pkF N 1) (pkF N 2) (pkF N 3) (pkF N 4) (pkF N 5) (pkF N 6) (pkF N 7) (pkF N 8) (pkF N 9), xW Z x (a 0) (b 0) (a3 0) (b4 0) (c 0) (e 0) und ([A 0 0, A 1 0, A 2 0, A 3 0, A 4 0, A 5 0]) ([E 0 0, E 1 0]) us, rW Z b ef op ln nm qu qd, soW Z a3 K (ins K) (mvF K) (K 3), gW Z a3 (K 4) (K 5) (bkL K), pW Z a3 (K 6) (pkF K 0) (pkF K 1) (pkF K 2) (pkF K 3) (pkF K 4) (pkF K 5) (pkF K 6) (pkF K 7) (pkF K 8) (pkF K 9), rW Z b4 ef4 op4 ln4 nm4 qu4 qd4, jW Z c sk, dW Z e P lp od k1 f1 s1 pl, hW Z A H, eW Z E S] (mW Z q N kept hist und sav isv P lp 0 far many laid sides stuck ord rd pl2 wr)).symm ?_
  refine z_callVi ok (fun l => c_X7_pairs  (hw) (hca)) zm_X7_pairs zv_X7_pairs qm_RL_60 dL_law_461 (by decide) (by decide) rfl rfl (Nat.le_of_ble_eq_true rfl) (q0 := 0) rfl rfl rfl List.perm_append_comm (fun r461 u461 hp461 => ?_)
  obtain ⟨far_461, many_461, laid_461⟩ := u461
  try dsimp only at hp461
  obtain ⟨rfl, hc461⟩ := hp461
  refine z_perm List.perm_append_comm ?_
  refine z_eq (ws' := zf [soW Z a N (ins N) (mvF N) (N 3), gW Z a (N 4) (N 5) (bkL N), pW Z a (N 6) (pkF N 0) (pkF N 1) (pkF N 2) (pkF N 3) (pkF N 4) (pkF N 5) (pkF N 6) (pkF N 7) (pkF N 8) (pkF N 9), xW Z x (a 0) (b 0) (a3 0) (b4 0) (c 0) (e 0) und ([A 0 0, A 1 0, A 2 0, A 3 0, A 4 0, A 5 0]) ([E 0 0, E 1 0]) us, rW Z b ef op ln nm qu qd, soW Z a3 K (ins K) (mvF K) (K 3), gW Z a3 (K 4) (K 5) (bkL K), pW Z a3 (K 6) (pkF K 0) (pkF K 1) (pkF K 2) (pkF K 3) (pkF K 4) (pkF K 5) (pkF K 6) (pkF K 7) (pkF K 8) (pkF K 9), rW Z b4 ef4 op4 ln4 nm4 qu4 qd4, jW Z c sk, dW Z e P lp od k1 f1 s1 pl, hW Z A H, eW Z E S, mW Z q N kept hist und sav isv P lp 0 far_461 many_461 laid_461 sides stuck ord rd pl2 wr]) (zf_ap1 [soW Z a N (ins N) (mvF N) (N 3), gW Z a (N 4) (N 5) (bkL N), pW Z a (N 6) (pkF N 0) (pkF N 1) (pkF N 2) (pkF N 3) (pkF N 4) (pkF N 5) (pkF N 6) (pkF N 7) (pkF N 8) (pkF N 9), xW Z x (a 0) (b 0) (a3 0) (b4 0) (c 0) (e 0) und ([A 0 0, A 1 0, A 2 0, A 3 0, A 4 0, A 5 0]) ([E 0 0, E 1 0]) us, rW Z b ef op ln nm qu qd, soW Z a3 K (ins K) (mvF K) (K 3), gW Z a3 (K 4) (K 5) (bkL K), pW Z a3 (K 6) (pkF K 0) (pkF K 1) (pkF K 2) (pkF K 3) (pkF K 4) (pkF K 5) (pkF K 6) (pkF K 7) (pkF K 8) (pkF K 9), rW Z b4 ef4 op4 ln4 nm4 qu4 qd4, jW Z c sk, dW Z e P lp od k1 f1 s1 pl, hW Z A H, eW Z E S] (mW Z q N kept hist und sav isv P lp 0 far_461 many_461 laid_461 sides stuck ord rd pl2 wr)) ?_
  refine z_icmp_same (tgt := 712) ok dL_law_464 (by decide) ?_
  exact hn A N K ef op ln nm qu qd ef4 op4 ln4 nm4 qu4 qd4 sk P lp od k1 f1 s1 pl und H S us kept hist sav isv far_461 many_461 laid_461 sides stuck ord rd pl2 wr (LI_le hLI (by omega)) (hok) (h01) (hc461)
set_option maxRecDepth 40000 in
theorem law_ofPacket {X : zX} {Z : zZ} {bs L : Nat} {xs : Nat → Int32} {x a b a3 b4 c e : Nat → Nat} {E : Nat → Nat → Nat} {q : Nat → Nat} {ii B : Int} (ok : zOK X Z room_1 cL_law RL 4) (hsc : zSC X bs L xs) (hi : 0 ≤ ii ∧ ii + 4 ≤ (L : Int)) (hL : (L : Int) ≤ 2048) (hB : 0 ≤ B ∧ B ≤ 10000000) (hn : LV X Z x a b a3 b4 c e E q bs ii 712 (B + 10000)) : LV X Z x a b a3 b4 c e E q bs ii 301 B := by
  intro A N K ef op ln nm qu qd ef4 op4 ln4 nm4 qu4 qd4 sk P lp od k1 f1 s1 pl und H S us kept hist sav isv far many laid sides stuck ord rd pl2 wr hLI hok h01 hca
  have hw := hLI.1.1
  have hu := hLI.2.1
  have h3 := hLI.1.2.1
  have hpd := hLI.2.2.2.2.2.2
  have hlp := hpd.1
  have hx1 := xI_rng xs (ii + 1)
  have hx2 := xI_rng xs (ii + 2)
  have hx3 := xI_rng xs (ii + 3)
  refine z_aload_n ok dL_law_301 rfl ?_
  refine z_aload_n ok dL_law_302 rfl ?_
  refine z_iload_n ok dL_law_303 rfl ?_
  refine z_iconst ok dL_law_304 ?_
  refine z_iadd ok dL_law_305 ?_
  refine z_sld ok hsc dL_law_306 (by omega) ?_
  refine z_aload_n ok dL_law_307 rfl ?_
  refine z_iload_n ok dL_law_308 rfl ?_
  refine z_iconst ok dL_law_309 ?_
  refine z_iadd ok dL_law_310 ?_
  refine z_sld ok hsc dL_law_311 (by omega) ?_
  refine z_callVig ok (fun l => c_X6_ofPacket  (hw) (hok) (h01) (by omega) (by omega)) zm_X6_ofPacket zv_X6_ofPacket qm_RL_36 dL_law_312 (by decide) (by decide) rfl rfl (Nat.le_of_ble_eq_true rfl) (q0 := 16) rfl rfl rfl (L := [soW Z a N (ins N) (mvF N) (N 3), gW Z a (N 4) (N 5) (bkL N), pW Z a (N 6) (pkF N 0) (pkF N 1) (pkF N 2) (pkF N 3) (pkF N 4) (pkF N 5) (pkF N 6) (pkF N 7) (pkF N 8) (pkF N 9), xW Z x (a 0) (b 0) (a3 0) (b4 0) (c 0) (e 0) und ([A 0 0, A 1 0, A 2 0, A 3 0, A 4 0, A 5 0]) ([E 0 0, E 1 0]) us, rW Z b ef op ln nm qu qd, soW Z a3 K (ins K) (mvF K) (K 3), gW Z a3 (K 4) (K 5) (bkL K), pW Z a3 (K 6) (pkF K 0) (pkF K 1) (pkF K 2) (pkF K 3) (pkF K 4) (pkF K 5) (pkF K 6) (pkF K 7) (pkF K 8) (pkF K 9), rW Z b4 ef4 op4 ln4 nm4 qu4 qd4, jW Z c sk, dW Z e P lp od k1 f1 s1 pl, hW Z A H, eW Z E S, mW Z q N kept hist und sav isv P lp 0 far many laid sides stuck ord rd pl2 wr]) (Lr := [soW Z a3 K (ins K) (mvF K) (K 3), gW Z a3 (K 4) (K 5) (bkL K), pW Z a3 (K 6) (pkF K 0) (pkF K 1) (pkF K 2) (pkF K 3) (pkF K 4) (pkF K 5) (pkF K 6) (pkF K 7) (pkF K 8) (pkF K 9), rW Z b4 ef4 op4 ln4 nm4 qu4 qd4, dW Z e P lp od k1 f1 s1 pl, hW Z A H, eW Z E S, mW Z q N kept hist und sav isv P lp 0 far many laid sides stuck ord rd pl2 wr]) 14 [0, 1, 2, 3, 4, 9, 5, 6, 7, 8, 10, 11, 12, 13] [0, 1, 2, 3, 4, 6, 7, 8, 9, 5, 10, 11, 12, 13] rfl (by decide +kernel) rfl (fun _ => rfl) (by decide +kernel) (fun r312 u312 hp312 => ?_)
  obtain ⟨sk_312, rfl⟩ : ∃ z, z = u312 := ⟨_, rfl⟩
  try dsimp only at hp312
  obtain ⟨rfl, h01312⟩ := hp312
  refine z_eq (ws' := zf [soW Z a N (ins N) (mvF N) (N 3), gW Z a (N 4) (N 5) (bkL N), pW Z a (N 6) (pkF N 0) (pkF N 1) (pkF N 2) (pkF N 3) (pkF N 4) (pkF N 5) (pkF N 6) (pkF N 7) (pkF N 8) (pkF N 9), xW Z x (a 0) (b 0) (a3 0) (b4 0) (c 0) (e 0) und ([A 0 0, A 1 0, A 2 0, A 3 0, A 4 0, A 5 0]) ([E 0 0, E 1 0]) us, rW Z b ef op ln nm qu qd, soW Z a3 K (ins K) (mvF K) (K 3), gW Z a3 (K 4) (K 5) (bkL K), pW Z a3 (K 6) (pkF K 0) (pkF K 1) (pkF K 2) (pkF K 3) (pkF K 4) (pkF K 5) (pkF K 6) (pkF K 7) (pkF K 8) (pkF K 9), rW Z b4 ef4 op4 ln4 nm4 qu4 qd4, jW Z c sk_312, dW Z e P lp od k1 f1 s1 pl, hW Z A H, eW Z E S, mW Z q N kept hist und sav isv P lp 0 far many laid sides stuck ord rd pl2 wr]) rfl ?_
  refine z_aload_n ok dL_law_315 rfl ?_
  refine z_aload_n ok dL_law_316 rfl ?_
  refine z_iload_n ok dL_law_317 rfl ?_
  refine z_iconst ok dL_law_318 ?_
  refine z_iadd ok dL_law_319 ?_
  refine z_sld ok hsc dL_law_320 (by omega) ?_
  refine z_aload_n ok dL_law_321 rfl ?_
  refine z_iload_n ok dL_law_322 rfl ?_
  refine z_iconst ok dL_law_323 ?_
  refine z_iadd ok dL_law_324 ?_
  refine z_sld ok hsc dL_law_325 (by omega) ?_
  refine z_eq (ws' := zf [soW Z a N (ins N) (mvF N) (N 3), gW Z a (N 4) (N 5) (bkL N), pW Z a (N 6) (pkF N 0) (pkF N 1) (pkF N 2) (pkF N 3) (pkF N 4) (pkF N 5) (pkF N 6) (pkF N 7) (pkF N 8) (pkF N 9), xW Z x (a 0) (b 0) (a3 0) (b4 0) (c 0) (e 0) und ([A 0 0, A 1 0, A 2 0, A 3 0, A 4 0, A 5 0]) ([E 0 0, E 1 0]) us, rW Z b ef op ln nm qu qd, soW Z a3 K (ins K) (mvF K) (K 3), gW Z a3 (K 4) (K 5) (bkL K), pW Z a3 (K 6) (pkF K 0) (pkF K 1) (pkF K 2) (pkF K 3) (pkF K 4) (pkF K 5) (pkF K 6) (pkF K 7) (pkF K 8) (pkF K 9), rW Z b4 ef4 op4 ln4 nm4 qu4 qd4, jW Z c sk_312, dW Z e P lp od k1 f1 s1 pl, hW Z A H, eW Z E S] ++ mW Z q N kept hist und sav isv P lp 0 far many laid sides stuck ord rd pl2 wr) (zf_ap1 [soW Z a N (ins N) (mvF N) (N 3), gW Z a (N 4) (N 5) (bkL N), pW Z a (N 6) (pkF N 0) (pkF N 1) (pkF N 2) (pkF N 3) (pkF N 4) (pkF N 5) (pkF N 6) (pkF N 7) (pkF N 8) (pkF N 9), xW Z x (a 0) (b 0) (a3 0) (b4 0) (c 0) (e 0) und ([A 0 0, A 1 0, A 2 0, A 3 0, A 4 0, A 5 0]) ([E 0 0, E 1 0]) us, rW Z b ef op ln nm qu qd, soW Z a3 K (ins K) (mvF K) (K 3), gW Z a3 (K 4) (K 5) (bkL K), pW Z a3 (K 6) (pkF K 0) (pkF K 1) (pkF K 2) (pkF K 3) (pkF K 4) (pkF K 5) (pkF K 6) (pkF K 7) (pkF K 8) (pkF K 9), rW Z b4 ef4 op4 ln4 nm4 qu4 qd4, jW Z c sk_312, dW Z e P lp od k1 f1 s1 pl, hW Z A H, eW Z E S] (mW Z q N kept hist und sav isv P lp 0 far many laid sides stuck ord rd pl2 wr)).symm ?_
  refine z_callVi ok (fun l => c_X7_ofPacket  (hw) (by omega) (by omega) (hca)) zm_X7_ofPacket zv_X7_ofPacket qm_RL_39 dL_law_326 (by decide) (by decide) rfl rfl (Nat.le_of_ble_eq_true rfl) (q0 := 0) rfl rfl rfl List.perm_append_comm (fun r326 u326 hp326 => ?_)
  obtain ⟨stuck_326, sides_326, far_326, many_326, laid_326⟩ := u326
  try dsimp only at hp326
  obtain ⟨rfl, hc326⟩ := hp326
  refine z_perm List.perm_append_comm ?_
  refine z_eq (ws' := zf [soW Z a N (ins N) (mvF N) (N 3), gW Z a (N 4) (N 5) (bkL N), pW Z a (N 6) (pkF N 0) (pkF N 1) (pkF N 2) (pkF N 3) (pkF N 4) (pkF N 5) (pkF N 6) (pkF N 7) (pkF N 8) (pkF N 9), xW Z x (a 0) (b 0) (a3 0) (b4 0) (c 0) (e 0) und ([A 0 0, A 1 0, A 2 0, A 3 0, A 4 0, A 5 0]) ([E 0 0, E 1 0]) us, rW Z b ef op ln nm qu qd, soW Z a3 K (ins K) (mvF K) (K 3), gW Z a3 (K 4) (K 5) (bkL K), pW Z a3 (K 6) (pkF K 0) (pkF K 1) (pkF K 2) (pkF K 3) (pkF K 4) (pkF K 5) (pkF K 6) (pkF K 7) (pkF K 8) (pkF K 9), rW Z b4 ef4 op4 ln4 nm4 qu4 qd4, jW Z c sk_312, dW Z e P lp od k1 f1 s1 pl, hW Z A H, eW Z E S, mW Z q N kept hist und sav isv P lp 0 far_326 many_326 laid_326 sides_326 stuck_326 ord rd pl2 wr]) (zf_ap1 [soW Z a N (ins N) (mvF N) (N 3), gW Z a (N 4) (N 5) (bkL N), pW Z a (N 6) (pkF N 0) (pkF N 1) (pkF N 2) (pkF N 3) (pkF N 4) (pkF N 5) (pkF N 6) (pkF N 7) (pkF N 8) (pkF N 9), xW Z x (a 0) (b 0) (a3 0) (b4 0) (c 0) (e 0) und ([A 0 0, A 1 0, A 2 0, A 3 0, A 4 0, A 5 0]) ([E 0 0, E 1 0]) us, rW Z b ef op ln nm qu qd, soW Z a3 K (ins K) (mvF K) (K 3), gW Z a3 (K 4) (K 5) (bkL K), pW Z a3 (K 6) (pkF K 0) (pkF K 1) (pkF K 2) (pkF K 3) (pkF K 4) (pkF K 5) (pkF K 6) (pkF K 7) (pkF K 8) (pkF K 9), rW Z b4 ef4 op4 ln4 nm4 qu4 qd4, jW Z c sk_312, dW Z e P lp od k1 f1 s1 pl, hW Z A H, eW Z E S] (mW Z q N kept hist und sav isv P lp 0 far_326 many_326 laid_326 sides_326 stuck_326 ord rd pl2 wr)) ?_
  refine z_icmp_same (tgt := 712) ok dL_law_329 (by decide) ?_
  exact hn A N K ef op ln nm qu qd ef4 op4 ln4 nm4 qu4 qd4 sk_312 P lp od k1 f1 s1 pl und H S us kept hist sav isv far_326 many_326 laid_326 sides_326 stuck_326 ord rd pl2 wr (LI_le hLI (by omega)) (hok) (h01312) (hc326)
set_option maxRecDepth 40000 in
theorem law_count {X : zX} {Z : zZ} {bs L : Nat} {xs : Nat → Int32} {x a b a3 b4 c e : Nat → Nat} {E : Nat → Nat → Nat} {q : Nat → Nat} {ii B : Int} (ok : zOK X Z room_1 cL_law RL 4) (hsc : zSC X bs L xs) (hi : 0 ≤ ii ∧ ii + 4 ≤ (L : Int)) (hL : (L : Int) ≤ 2048) (hB : 0 ≤ B ∧ B ≤ 10000000) (hn : LV X Z x a b a3 b4 c e E q bs ii 712 (B + 10000)) : LV X Z x a b a3 b4 c e E q bs ii 367 B := by
  intro A N K ef op ln nm qu qd ef4 op4 ln4 nm4 qu4 qd4 sk P lp od k1 f1 s1 pl und H S us kept hist sav isv far many laid sides stuck ord rd pl2 wr hLI hok h01 hca
  have hw := hLI.1.1
  have hu := hLI.2.1
  have h3 := hLI.1.2.1
  have hpd := hLI.2.2.2.2.2.2
  have hlp := hpd.1
  have hx1 := xI_rng xs (ii + 1)
  have hx2 := xI_rng xs (ii + 2)
  have hx3 := xI_rng xs (ii + 3)
  refine z_aload_n ok dL_law_367 rfl ?_
  refine z_aload_n ok dL_law_368 rfl ?_
  refine z_iload_n ok dL_law_369 rfl ?_
  refine z_iconst ok dL_law_370 ?_
  refine z_iadd ok dL_law_371 ?_
  refine z_sld ok hsc dL_law_372 (by omega) ?_
  refine z_callVig ok (fun l => c_X6_count  (hw) (hok) (h01) (by omega)) zm_X6_count zv_X6_count qm_RL_44 dL_law_373 (by decide) (by decide) rfl rfl (Nat.le_of_ble_eq_true rfl) (q0 := 16) rfl rfl rfl (L := [soW Z a N (ins N) (mvF N) (N 3), gW Z a (N 4) (N 5) (bkL N), pW Z a (N 6) (pkF N 0) (pkF N 1) (pkF N 2) (pkF N 3) (pkF N 4) (pkF N 5) (pkF N 6) (pkF N 7) (pkF N 8) (pkF N 9), xW Z x (a 0) (b 0) (a3 0) (b4 0) (c 0) (e 0) und ([A 0 0, A 1 0, A 2 0, A 3 0, A 4 0, A 5 0]) ([E 0 0, E 1 0]) us, rW Z b ef op ln nm qu qd, soW Z a3 K (ins K) (mvF K) (K 3), gW Z a3 (K 4) (K 5) (bkL K), pW Z a3 (K 6) (pkF K 0) (pkF K 1) (pkF K 2) (pkF K 3) (pkF K 4) (pkF K 5) (pkF K 6) (pkF K 7) (pkF K 8) (pkF K 9), rW Z b4 ef4 op4 ln4 nm4 qu4 qd4, jW Z c sk, dW Z e P lp od k1 f1 s1 pl, hW Z A H, eW Z E S, mW Z q N kept hist und sav isv P lp 0 far many laid sides stuck ord rd pl2 wr]) (Lr := [soW Z a3 K (ins K) (mvF K) (K 3), gW Z a3 (K 4) (K 5) (bkL K), pW Z a3 (K 6) (pkF K 0) (pkF K 1) (pkF K 2) (pkF K 3) (pkF K 4) (pkF K 5) (pkF K 6) (pkF K 7) (pkF K 8) (pkF K 9), rW Z b4 ef4 op4 ln4 nm4 qu4 qd4, hW Z A H, eW Z E S, mW Z q N kept hist und sav isv P lp 0 far many laid sides stuck ord rd pl2 wr]) 14 [0, 1, 2, 3, 4, 9, 10, 5, 6, 7, 8, 11, 12, 13] [0, 1, 2, 3, 4, 7, 8, 9, 10, 5, 6, 11, 12, 13] rfl (by decide +kernel) rfl (fun _ => rfl) (by decide +kernel) (fun r373 u373 hp373 => ?_)
  obtain ⟨sk_373, rfl⟩ : ∃ z, z = u373 := ⟨_, rfl⟩
  try dsimp only at hp373
  obtain ⟨rfl, h01373⟩ := hp373
  refine z_eq (ws' := zf [soW Z a N (ins N) (mvF N) (N 3), gW Z a (N 4) (N 5) (bkL N), pW Z a (N 6) (pkF N 0) (pkF N 1) (pkF N 2) (pkF N 3) (pkF N 4) (pkF N 5) (pkF N 6) (pkF N 7) (pkF N 8) (pkF N 9), xW Z x (a 0) (b 0) (a3 0) (b4 0) (c 0) (e 0) und ([A 0 0, A 1 0, A 2 0, A 3 0, A 4 0, A 5 0]) ([E 0 0, E 1 0]) us, rW Z b ef op ln nm qu qd, soW Z a3 K (ins K) (mvF K) (K 3), gW Z a3 (K 4) (K 5) (bkL K), pW Z a3 (K 6) (pkF K 0) (pkF K 1) (pkF K 2) (pkF K 3) (pkF K 4) (pkF K 5) (pkF K 6) (pkF K 7) (pkF K 8) (pkF K 9), rW Z b4 ef4 op4 ln4 nm4 qu4 qd4, jW Z c sk_373, dW Z e P lp od k1 f1 s1 pl, hW Z A H, eW Z E S, mW Z q N kept hist und sav isv P lp 0 far many laid sides stuck ord rd pl2 wr]) rfl ?_
  refine z_aload_n ok dL_law_376 rfl ?_
  refine z_aload_n ok dL_law_377 rfl ?_
  refine z_iload_n ok dL_law_378 rfl ?_
  refine z_iconst ok dL_law_379 ?_
  refine z_iadd ok dL_law_380 ?_
  refine z_sld ok hsc dL_law_381 (by omega) ?_
  refine z_eq (ws' := zf [soW Z a N (ins N) (mvF N) (N 3), gW Z a (N 4) (N 5) (bkL N), pW Z a (N 6) (pkF N 0) (pkF N 1) (pkF N 2) (pkF N 3) (pkF N 4) (pkF N 5) (pkF N 6) (pkF N 7) (pkF N 8) (pkF N 9), xW Z x (a 0) (b 0) (a3 0) (b4 0) (c 0) (e 0) und ([A 0 0, A 1 0, A 2 0, A 3 0, A 4 0, A 5 0]) ([E 0 0, E 1 0]) us, rW Z b ef op ln nm qu qd, soW Z a3 K (ins K) (mvF K) (K 3), gW Z a3 (K 4) (K 5) (bkL K), pW Z a3 (K 6) (pkF K 0) (pkF K 1) (pkF K 2) (pkF K 3) (pkF K 4) (pkF K 5) (pkF K 6) (pkF K 7) (pkF K 8) (pkF K 9), rW Z b4 ef4 op4 ln4 nm4 qu4 qd4, jW Z c sk_373, dW Z e P lp od k1 f1 s1 pl, hW Z A H, eW Z E S] ++ mW Z q N kept hist und sav isv P lp 0 far many laid sides stuck ord rd pl2 wr) (zf_ap1 [soW Z a N (ins N) (mvF N) (N 3), gW Z a (N 4) (N 5) (bkL N), pW Z a (N 6) (pkF N 0) (pkF N 1) (pkF N 2) (pkF N 3) (pkF N 4) (pkF N 5) (pkF N 6) (pkF N 7) (pkF N 8) (pkF N 9), xW Z x (a 0) (b 0) (a3 0) (b4 0) (c 0) (e 0) und ([A 0 0, A 1 0, A 2 0, A 3 0, A 4 0, A 5 0]) ([E 0 0, E 1 0]) us, rW Z b ef op ln nm qu qd, soW Z a3 K (ins K) (mvF K) (K 3), gW Z a3 (K 4) (K 5) (bkL K), pW Z a3 (K 6) (pkF K 0) (pkF K 1) (pkF K 2) (pkF K 3) (pkF K 4) (pkF K 5) (pkF K 6) (pkF K 7) (pkF K 8) (pkF K 9), rW Z b4 ef4 op4 ln4 nm4 qu4 qd4, jW Z c sk_373, dW Z e P lp od k1 f1 s1 pl, hW Z A H, eW Z E S] (mW Z q N kept hist und sav isv P lp 0 far many laid sides stuck ord rd pl2 wr)).symm ?_
  refine z_callVi ok (fun l => c_X7_count  (hw) (by omega) (hca)) zm_X7_count zv_X7_count qm_RL_47 dL_law_382 (by decide) (by decide) rfl rfl (Nat.le_of_ble_eq_true rfl) (q0 := 0) rfl rfl rfl List.perm_append_comm (fun r382 u382 hp382 => ?_)
  obtain ⟨stuck_382, sides_382, far_382, many_382, laid_382⟩ := u382
  try dsimp only at hp382
  obtain ⟨rfl, hc382⟩ := hp382
  refine z_perm List.perm_append_comm ?_
  refine z_eq (ws' := zf [soW Z a N (ins N) (mvF N) (N 3), gW Z a (N 4) (N 5) (bkL N), pW Z a (N 6) (pkF N 0) (pkF N 1) (pkF N 2) (pkF N 3) (pkF N 4) (pkF N 5) (pkF N 6) (pkF N 7) (pkF N 8) (pkF N 9), xW Z x (a 0) (b 0) (a3 0) (b4 0) (c 0) (e 0) und ([A 0 0, A 1 0, A 2 0, A 3 0, A 4 0, A 5 0]) ([E 0 0, E 1 0]) us, rW Z b ef op ln nm qu qd, soW Z a3 K (ins K) (mvF K) (K 3), gW Z a3 (K 4) (K 5) (bkL K), pW Z a3 (K 6) (pkF K 0) (pkF K 1) (pkF K 2) (pkF K 3) (pkF K 4) (pkF K 5) (pkF K 6) (pkF K 7) (pkF K 8) (pkF K 9), rW Z b4 ef4 op4 ln4 nm4 qu4 qd4, jW Z c sk_373, dW Z e P lp od k1 f1 s1 pl, hW Z A H, eW Z E S, mW Z q N kept hist und sav isv P lp 0 far_382 many_382 laid_382 sides_382 stuck_382 ord rd pl2 wr]) (zf_ap1 [soW Z a N (ins N) (mvF N) (N 3), gW Z a (N 4) (N 5) (bkL N), pW Z a (N 6) (pkF N 0) (pkF N 1) (pkF N 2) (pkF N 3) (pkF N 4) (pkF N 5) (pkF N 6) (pkF N 7) (pkF N 8) (pkF N 9), xW Z x (a 0) (b 0) (a3 0) (b4 0) (c 0) (e 0) und ([A 0 0, A 1 0, A 2 0, A 3 0, A 4 0, A 5 0]) ([E 0 0, E 1 0]) us, rW Z b ef op ln nm qu qd, soW Z a3 K (ins K) (mvF K) (K 3), gW Z a3 (K 4) (K 5) (bkL K), pW Z a3 (K 6) (pkF K 0) (pkF K 1) (pkF K 2) (pkF K 3) (pkF K 4) (pkF K 5) (pkF K 6) (pkF K 7) (pkF K 8) (pkF K 9), rW Z b4 ef4 op4 ln4 nm4 qu4 qd4, jW Z c sk_373, dW Z e P lp od k1 f1 s1 pl, hW Z A H, eW Z E S] (mW Z q N kept hist und sav isv P lp 0 far_382 many_382 laid_382 sides_382 stuck_382 ord rd pl2 wr)) ?_
  refine z_icmp_same (tgt := 712) ok dL_law_385 (by decide) ?_
  exact hn A N K ef op ln nm qu qd ef4 op4 ln4 nm4 qu4 qd4 sk_373 P lp od k1 f1 s1 pl und H S us kept hist sav isv far_382 many_382 laid_382 sides_382 stuck_382 ord rd pl2 wr (LI_le hLI (by omega)) (hok) (h01373) (hc382)
