/-! the loop of the law -/
theorem law_next {X : zX} {Z : zZ} {bs L : Nat} {xs : Nat → Int32} {x a b a3 b4 c e : Nat → Nat} {E : Nat → Nat → Nat} {q : Nat → Nat} {ii B : Int} (ok : zOK X Z room_1 cL_law RL 4) (h : LV X Z x a b a3 b4 c e E q bs (ii + 4) 18 B) : LV X Z x a b a3 b4 c e E q bs ii 712 B := by
  intro A N K ef op ln nm qu qd ef4 op4 ln4 nm4 qu4 qd4 sk P lp od k1 f1 s1 pl und H S us kept hist sav isv far many laid sides stuck ord rd pl2 wr hLI hok h01 hca
  refine z_iinc (lv' := [(3, .int (iI (ii + 4))), (2, .ref (q 0)), (1, .ref (x 0)), (0, .ref bs)]) ok dL_law_712 0 rfl (by decide) rfl ?_
  refine z_goto (tgt := 18) ok dL_law_715 (by decide) ?_
  exact h A N K ef op ln nm qu qd ef4 op4 ln4 nm4 qu4 qd4 sk P lp od k1 f1 s1 pl und H S us kept hist sav isv far many laid sides stuck ord rd pl2 wr hLI hok h01 hca
set_option maxRecDepth 40000 in
theorem law_loop {X : zX} {Z : zZ} {bs L : Nat} {xs : Nat → Int32} {x a b a3 b4 c e : Nat → Nat} {E : Nat → Nat → Nat} {q : Nat → Nat} (ok : zOK X Z room_1 cL_law RL 4) (hsc : zSC X bs L xs) (hL : (L : Int) ≤ 2048) (fin : ∀ (ws : va_W) (lv : List (Nat × Value)), zV X 194 27130 ws 719 lv [.int (iI 1)]) : ∀ (fuel : Nat) (ii B : Int), 0 ≤ ii → ii ≤ 2048 → B = 2500 * ii → (2052 - ii).toNat < fuel → LV X Z x a b a3 b4 c e E q bs ii 18 B := by
  intro fuel
  induction fuel with
  | zero => intro ii B h0 h1 hB hf; exact absurd hf (Nat.not_lt_zero _)
  | succ fuel ih =>
    intro ii B h0 h1 hB hf
    intro A N K ef op ln nm qu qd ef4 op4 ln4 nm4 qu4 qd4 sk P lp od k1 f1 s1 pl und H S us kept hist sav isv far many laid sides stuck ord rd pl2 wr hLI hok h01 hca
    refine z_iload_n ok dL_law_18 rfl ?_
    refine z_aload_n ok dL_law_19 rfl ?_
    refine z_slen ok hsc dL_law_20 ?_
    refine z_iconst ok dL_law_21 ?_
    refine z_isub ok dL_law_22 ?_
    refine z_icmp_gt (tgt := 718) ok dL_law_23 (by decide) (by omega) (by omega) (fun c23 => ?_) (fun c23 => ?_)
    · -- t
      refine z_iconst ok dL_law_718 ?_
      exact fin _ _
    · -- f
      have hnx := law_next (L := L) (xs := xs) ok (ih (ii + 4) (B + 10000) (by omega) (by omega) (by omega) (by omega))
      refine z_aload_n ok dL_law_26 rfl ?_
      refine z_iload_n ok dL_law_27 rfl ?_
      refine z_sld ok hsc dL_law_28 (by omega) ?_
      refine z_bipush ok dL_law_29 (by decide) ?_
      refine z_iand (v := iI (xI xs ii % 32)) ok dL_law_31 (iand_iI (w := 5) (by decide)) ?_
      rcases (show (xI xs ii % 32) < 0 ∨ 21 < (xI xs ii % 32) ∨ (xI xs ii % 32) = 0 ∨ (xI xs ii % 32) = 1 ∨ (xI xs ii % 32) = 2 ∨ (xI xs ii % 32) = 3 ∨ (xI xs ii % 32) = 4 ∨ (xI xs ii % 32) = 5 ∨ (xI xs ii % 32) = 6 ∨ (xI xs ii % 32) = 7 ∨ (xI xs ii % 32) = 8 ∨ (xI xs ii % 32) = 9 ∨ (xI xs ii % 32) = 10 ∨ (xI xs ii % 32) = 11 ∨ (xI xs ii % 32) = 12 ∨ (xI xs ii % 32) = 13 ∨ (xI xs ii % 32) = 14 ∨ (xI xs ii % 32) = 15 ∨ (xI xs ii % 32) = 16 ∨ (xI xs ii % 32) = 17 ∨ (xI xs ii % 32) = 18 ∨ (xI xs ii % 32) = 19 ∨ (xI xs ii % 32) = 20 ∨ (xI xs ii % 32) = 21 by omega) with c32 | c32 | c32 | c32 | c32 | c32 | c32 | c32 | c32 | c32 | c32 | c32 | c32 | c32 | c32 | c32 | c32 | c32 | c32 | c32 | c32 | c32 | c32 | c32
      · -- switch
        refine z_tableOut (tgt := 712) ok dL_law_32 (by omega) (by omega) (by decide) ?_
        exact hnx A N K ef op ln nm qu qd ef4 op4 ln4 nm4 qu4 qd4 sk P lp od k1 f1 s1 pl und H S us kept hist sav isv far many laid sides stuck ord rd pl2 wr (LI_le hLI (by omega)) hok h01 hca
      · -- switch
        refine z_tableOut (tgt := 712) ok dL_law_32 (by omega) (by omega) (by decide) ?_
        exact hnx A N K ef op ln nm qu qd ef4 op4 ln4 nm4 qu4 qd4 sk P lp od k1 f1 s1 pl und H S us kept hist sav isv far many laid sides stuck ord rd pl2 wr (LI_le hLI (by omega)) hok h01 hca
      · -- switch
        refine z_tableIn (off := 104) (tgt := 136) ok dL_law_32 (by omega) (by omega) (by omega) (by rw [c32]; rfl) (by decide) ?_
        exact law_set ok hsc ⟨by omega, by omega⟩ (by omega) (by omega) hnx A N K ef op ln nm qu qd ef4 op4 ln4 nm4 qu4 qd4 sk P lp od k1 f1 s1 pl und H S us kept hist sav isv far many laid sides stuck ord rd pl2 wr hLI hok h01 hca
      · -- switch
        refine z_tableIn (off := 137) (tgt := 169) ok dL_law_32 (by omega) (by omega) (by omega) (by rw [c32]; rfl) (by decide) ?_
        exact law_mesh ok hsc ⟨by omega, by omega⟩ (by omega) (by omega) hnx A N K ef op ln nm qu qd ef4 op4 ln4 nm4 qu4 qd4 sk P lp od k1 f1 s1 pl und H S us kept hist sav isv far many laid sides stuck ord rd pl2 wr hLI hok h01 hca
      · -- switch
        refine z_tableIn (off := 170) (tgt := 202) ok dL_law_32 (by omega) (by omega) (by omega) (by rw [c32]; rfl) (by decide) ?_
        exact law_link ok hsc ⟨by omega, by omega⟩ (by omega) (by omega) hnx A N K ef op ln nm qu qd ef4 op4 ln4 nm4 qu4 qd4 sk P lp od k1 f1 s1 pl und H S us kept hist sav isv far many laid sides stuck ord rd pl2 wr hLI hok h01 hca
      · -- switch
        refine z_tableIn (off := 213) (tgt := 245) ok dL_law_32 (by omega) (by omega) (by omega) (by rw [c32]; rfl) (by decide) ?_
        exact law_send ok hsc ⟨by omega, by omega⟩ (by omega) (by omega) hnx A N K ef op ln nm qu qd ef4 op4 ln4 nm4 qu4 qd4 sk P lp od k1 f1 s1 pl und H S us kept hist sav isv far many laid sides stuck ord rd pl2 wr hLI hok h01 hca
      · -- switch
        refine z_tableIn (off := 246) (tgt := 278) ok dL_law_32 (by omega) (by omega) (by omega) (by rw [c32]; rfl) (by decide) ?_
        exact law_ticks ok hsc ⟨by omega, by omega⟩ (by omega) (by omega) hnx A N K ef op ln nm qu qd ef4 op4 ln4 nm4 qu4 qd4 sk P lp od k1 f1 s1 pl und H S us kept hist sav isv far many laid sides stuck ord rd pl2 wr hLI hok h01 hca
      · -- switch
        refine z_tableIn (off := 269) (tgt := 301) ok dL_law_32 (by omega) (by omega) (by omega) (by rw [c32]; rfl) (by decide) ?_
        exact law_ofPacket ok hsc ⟨by omega, by omega⟩ (by omega) (by omega) hnx A N K ef op ln nm qu qd ef4 op4 ln4 nm4 qu4 qd4 sk P lp od k1 f1 s1 pl und H S us kept hist sav isv far many laid sides stuck ord rd pl2 wr hLI hok h01 hca
      · -- switch
        refine z_tableIn (off := 302) (tgt := 334) ok dL_law_32 (by omega) (by omega) (by omega) (by rw [c32]; rfl) (by decide) ?_
        exact law_ofBox ok hsc ⟨by omega, by omega⟩ (by omega) (by omega) hnx A N K ef op ln nm qu qd ef4 op4 ln4 nm4 qu4 qd4 sk P lp od k1 f1 s1 pl und H S us kept hist sav isv far many laid sides stuck ord rd pl2 wr hLI hok h01 hca
      · -- switch
        refine z_tableIn (off := 335) (tgt := 367) ok dL_law_32 (by omega) (by omega) (by omega) (by rw [c32]; rfl) (by decide) ?_
        exact law_count ok hsc ⟨by omega, by omega⟩ (by omega) (by omega) hnx A N K ef op ln nm qu qd ef4 op4 ln4 nm4 qu4 qd4 sk P lp od k1 f1 s1 pl und H S us kept hist sav isv far many laid sides stuck ord rd pl2 wr hLI hok h01 hca
      · -- switch
        refine z_tableIn (off := 358) (tgt := 390) ok dL_law_32 (by omega) (by omega) (by omega) (by rw [c32]; rfl) (by decide) ?_
        exact law_leastWay ok hsc ⟨by omega, by omega⟩ (by omega) (by omega) hnx A N K ef op ln nm qu qd ef4 op4 ln4 nm4 qu4 qd4 sk P lp od k1 f1 s1 pl und H S us kept hist sav isv far many laid sides stuck ord rd pl2 wr hLI hok h01 hca
      · -- switch
        refine z_tableIn (off := 391) (tgt := 423) ok dL_law_32 (by omega) (by omega) (by omega) (by rw [c32]; rfl) (by decide) ?_
        exact law_ways ok hsc ⟨by omega, by omega⟩ (by omega) (by omega) hnx A N K ef op ln nm qu qd ef4 op4 ln4 nm4 qu4 qd4 sk P lp od k1 f1 s1 pl und H S us kept hist sav isv far many laid sides stuck ord rd pl2 wr hLI hok h01 hca
      · -- switch
        refine z_tableIn (off := 424) (tgt := 456) ok dL_law_32 (by omega) (by omega) (by omega) (by rw [c32]; rfl) (by decide) ?_
        exact law_pairs ok hsc ⟨by omega, by omega⟩ (by omega) (by omega) hnx A N K ef op ln nm qu qd ef4 op4 ln4 nm4 qu4 qd4 sk P lp od k1 f1 s1 pl und H S us kept hist sav isv far many laid sides stuck ord rd pl2 wr hLI hok h01 hca
      · -- switch
        refine z_tableIn (off := 437) (tgt := 469) ok dL_law_32 (by omega) (by omega) (by omega) (by rw [c32]; rfl) (by decide) ?_
        exact law_worstLink ok hsc ⟨by omega, by omega⟩ (by omega) (by omega) hnx A N K ef op ln nm qu qd ef4 op4 ln4 nm4 qu4 qd4 sk P lp od k1 f1 s1 pl und H S us kept hist sav isv far many laid sides stuck ord rd pl2 wr hLI hok h01 hca
      · -- switch
        refine z_tableIn (off := 460) (tgt := 492) ok dL_law_32 (by omega) (by omega) (by omega) (by rw [c32]; rfl) (by decide) ?_
        exact law_busiest ok hsc ⟨by omega, by omega⟩ (by omega) (by omega) hnx A N K ef op ln nm qu qd ef4 op4 ln4 nm4 qu4 qd4 sk P lp od k1 f1 s1 pl und H S us kept hist sav isv far many laid sides stuck ord rd pl2 wr hLI hok h01 hca
      · -- switch
        refine z_tableIn (off := 483) (tgt := 515) ok dL_law_32 (by omega) (by omega) (by omega) (by rw [c32]; rfl) (by decide) ?_
        exact law_arrivesIn ok hsc ⟨by omega, by omega⟩ (by omega) (by omega) hnx A N K ef op ln nm qu qd ef4 op4 ln4 nm4 qu4 qd4 sk P lp od k1 f1 s1 pl und H S us kept hist sav isv far many laid sides stuck ord rd pl2 wr hLI hok h01 hca
      · -- switch
        refine z_tableIn (off := 506) (tgt := 538) ok dL_law_32 (by omega) (by omega) (by omega) (by rw [c32]; rfl) (by decide) ?_
        exact law_arrivedBy ok hsc ⟨by omega, by omega⟩ (by omega) (by omega) hnx A N K ef op ln nm qu qd ef4 op4 ln4 nm4 qu4 qd4 sk P lp od k1 f1 s1 pl und H S us kept hist sav isv far many laid sides stuck ord rd pl2 wr hLI hok h01 hca
      · -- switch
        refine z_tableIn (off := 529) (tgt := 561) ok dL_law_32 (by omega) (by omega) (by omega) (by rw [c32]; rfl) (by decide) ?_
        exact law_put ok hsc ⟨by omega, by omega⟩ (by omega) (by omega) hnx A N K ef op ln nm qu qd ef4 op4 ln4 nm4 qu4 qd4 sk P lp od k1 f1 s1 pl und H S us kept hist sav isv far many laid sides stuck ord rd pl2 wr hLI hok h01 hca
      · -- switch
        refine z_tableIn (off := 582) (tgt := 614) ok dL_law_32 (by omega) (by omega) (by omega) (by rw [c32]; rfl) (by decide) ?_
        exact law_wipe ok hsc ⟨by omega, by omega⟩ (by omega) (by omega) hnx A N K ef op ln nm qu qd ef4 op4 ln4 nm4 qu4 qd4 sk P lp od k1 f1 s1 pl und H S us kept hist sav isv far many laid sides stuck ord rd pl2 wr hLI hok h01 hca
      · -- switch
        refine z_tableIn (off := 595) (tgt := 627) ok dL_law_32 (by omega) (by omega) (by omega) (by rw [c32]; rfl) (by decide) ?_
        exact law_fault ok hsc ⟨by omega, by omega⟩ (by omega) (by omega) hnx A N K ef op ln nm qu qd ef4 op4 ln4 nm4 qu4 qd4 sk P lp od k1 f1 s1 pl und H S us kept hist sav isv far many laid sides stuck ord rd pl2 wr hLI hok h01 hca
      · -- switch
        refine z_tableIn (off := 608) (tgt := 640) ok dL_law_32 (by omega) (by omega) (by omega) (by rw [c32]; rfl) (by decide) ?_
        exact law_carryOut ok hsc ⟨by omega, by omega⟩ (by omega) (by omega) hnx A N K ef op ln nm qu qd ef4 op4 ln4 nm4 qu4 qd4 sk P lp od k1 f1 s1 pl und H S us kept hist sav isv far many laid sides stuck ord rd pl2 wr hLI hok h01 hca
      · -- switch
        refine z_tableIn (off := 621) (tgt := 653) ok dL_law_32 (by omega) (by omega) (by omega) (by rw [c32]; rfl) (by decide) ?_
        exact law_undo ok hsc ⟨by omega, by omega⟩ (by omega) (by omega) hnx A N K ef op ln nm qu qd ef4 op4 ln4 nm4 qu4 qd4 sk P lp od k1 f1 s1 pl und H S us kept hist sav isv far many laid sides stuck ord rd pl2 wr hLI hok h01 hca
      · -- switch
        refine z_tableIn (off := 634) (tgt := 666) ok dL_law_32 (by omega) (by omega) (by omega) (by rw [c32]; rfl) (by decide) ?_
        exact law_save ok hsc ⟨by omega, by omega⟩ (by omega) (by omega) hnx A N K ef op ln nm qu qd ef4 op4 ln4 nm4 qu4 qd4 sk P lp od k1 f1 s1 pl und H S us kept hist sav isv far many laid sides stuck ord rd pl2 wr hLI hok h01 hca
      · -- switch
        refine z_tableIn (off := 657) (tgt := 689) ok dL_law_32 (by omega) (by omega) (by omega) (by rw [c32]; rfl) (by decide) ?_
        exact law_restore ok hsc ⟨by omega, by omega⟩ (by omega) (by omega) hnx A N K ef op ln nm qu qd ef4 op4 ln4 nm4 qu4 qd4 sk P lp od k1 f1 s1 pl und H S us kept hist sav isv far many laid sides stuck ord rd pl2 wr hLI hok h01 hca
set_option maxRecDepth 40000 in
theorem law_run {X : zX} {Z : zZ} {bs L : Nat} {xs : Nat → Int32} (ok : zOK X Z room_1 cL_law RL 4) (hnx : zNX X) (hsc : zSC X bs L xs) (hL : (L : Int) ≤ 2048) (fin : ∀ (ws : va_W) (lv : List (Nat × Value)), zV X 194 27130 ws 719 lv [.int (iI 1)]) : zV X 0 0 [] 0 [(0, .ref bs)] [] := by
  refine z_new ok zc6 qk_RL_7 qx_RX6 qn_RX6 [.null, .null, .null, .null, .null, .null, .null, .int (iI 0), .null, .null] (fun j hj => by rcases (show j = 0 ∨ j = 1 ∨ j = 2 ∨ j = 3 ∨ j = 4 ∨ j = 5 ∨ j = 6 ∨ j = 7 ∨ j = 8 ∨ j = 9 by omega) with rfl | rfl | rfl | rfl | rfl | rfl | rfl | rfl | rfl | rfl <;> rfl) dL_law_0 (by decide) (by decide) (fun qx => ?_)
  refine z_dup ok dL_law_3 rfl ?_
  refine z_callKI ok hnx (wc := [(qx, .inr (6, [.null, .null, .null, .null, .null, .null, .null, .int (iI 0), .null, .null]))]) (fun l => c_X6_init) zm_X6_init rfl qi_X6_init qm_RL_9 dL_law_4 (by decide) (by decide) (Nat.le_of_ble_eq_true rfl) List.perm_append_comm (fun u hp => ?_)
  obtain ⟨x, a, b, a3, b4, c, e, A, E, ⟨ef, op⟩, ln, nm, qu, qd⟩ := u
  obtain ⟨hx0, hok⟩ := hp
  have hx0 : x 0 = qx := hx0
  have hok : rOK inN ef op ln := hok
  subst hx0
  refine z_eq (ws' := zf [soW Z a inN (ins inN) (mvF inN) (inN 3), gW Z a (inN 4) (inN 5) (bkL inN), pW Z a (inN 6) (pkF inN 0) (pkF inN 1) (pkF inN 2) (pkF inN 3) (pkF inN 4) (pkF inN 5) (pkF inN 6) (pkF inN 7) (pkF inN 8) (pkF inN 9), xW Z x (a 0) (b 0) (a3 0) (b4 0) (c 0) (e 0) 0 ([A 0 0, A 1 0, A 2 0, A 3 0, A 4 0, A 5 0]) ([E 0 0, E 1 0]) (fun _ => 0), rW Z b ef op ln nm qu qd, soW Z a3 inN (ins inN) (mvF inN) (inN 3), gW Z a3 (inN 4) (inN 5) (bkL inN), pW Z a3 (inN 6) (pkF inN 0) (pkF inN 1) (pkF inN 2) (pkF inN 3) (pkF inN 4) (pkF inN 5) (pkF inN 6) (pkF inN 7) (pkF inN 8) (pkF inN 9), rW Z b4 0 (fun _ => 0) (fun _ => 0) (fun _ => 0) (fun _ => 0) 0, jW Z c (fun _ => 0), dW Z e (fun _ => 0) 0 0 (fun _ => 0) (fun _ => 0) (fun _ => 0) 0, hW Z A (fun _ => inN), eW Z E (fun _ => inN)]) (List.append_nil _) ?_
  refine z_astore_n (lv' := [(1, .ref (x 0)), (0, .ref bs)]) ok dL_law_7 (by decide) rfl ?_
  refine z_new ok zc7 qk_RL_10 qx_RX7 qn_RX7 [.null, .null, .null, .int (iI 0), .null, .null, .null, .int (iI 0), .int (iI 0), .null, .null, .null, .null, .null, .null, .int (iI 0), .int (iI 0), .int (iI 0)] (fun j hj => by rcases (show j = 0 ∨ j = 1 ∨ j = 2 ∨ j = 3 ∨ j = 4 ∨ j = 5 ∨ j = 6 ∨ j = 7 ∨ j = 8 ∨ j = 9 ∨ j = 10 ∨ j = 11 ∨ j = 12 ∨ j = 13 ∨ j = 14 ∨ j = 15 ∨ j = 16 ∨ j = 17 by omega) with rfl | rfl | rfl | rfl | rfl | rfl | rfl | rfl | rfl | rfl | rfl | rfl | rfl | rfl | rfl | rfl | rfl | rfl <;> rfl) dL_law_8 (by decide) (by decide) (fun qm => ?_)
  refine z_dup ok dL_law_11 rfl ?_
  refine z_callNI ok (wc := [(qm, .inr (7, [.null, .null, .null, .int (iI 0), .null, .null, .null, .int (iI 0), .int (iI 0), .null, .null, .null, .null, .null, .null, .int (iI 0), .int (iI 0), .int (iI 0)]))]) (fun l => c_X7_init) zm_X7_init rfl qi_X7_init qm_RL_12 dL_law_12 (by decide) (by decide) (Nat.le_of_ble_eq_true rfl) List.perm_append_comm (fun q hq => ?_)
  have hq : q 0 = qm := hq
  subst hq
  refine z_perm List.perm_append_comm ?_
  refine z_eq (ws' := zf [soW Z a inN (ins inN) (mvF inN) (inN 3), gW Z a (inN 4) (inN 5) (bkL inN), pW Z a (inN 6) (pkF inN 0) (pkF inN 1) (pkF inN 2) (pkF inN 3) (pkF inN 4) (pkF inN 5) (pkF inN 6) (pkF inN 7) (pkF inN 8) (pkF inN 9), xW Z x (a 0) (b 0) (a3 0) (b4 0) (c 0) (e 0) 0 ([A 0 0, A 1 0, A 2 0, A 3 0, A 4 0, A 5 0]) ([E 0 0, E 1 0]) (fun _ => 0), rW Z b ef op ln nm qu qd, soW Z a3 inN (ins inN) (mvF inN) (inN 3), gW Z a3 (inN 4) (inN 5) (bkL inN), pW Z a3 (inN 6) (pkF inN 0) (pkF inN 1) (pkF inN 2) (pkF inN 3) (pkF inN 4) (pkF inN 5) (pkF inN 6) (pkF inN 7) (pkF inN 8) (pkF inN 9), rW Z b4 0 (fun _ => 0) (fun _ => 0) (fun _ => 0) (fun _ => 0) 0, jW Z c (fun _ => 0), dW Z e (fun _ => 0) 0 0 (fun _ => 0) (fun _ => 0) (fun _ => 0) 0, hW Z A (fun _ => inN), eW Z E (fun _ => inN), mW Z q inN (fun _ => 0) (fun _ => 0) 0 (fun _ => 0) (fun _ => 0) (fun _ => 0) 0 0 (fun _ => 0) (fun _ => 0) (fun _ => 0) (fun _ => 0) (fun _ => 0) (fun _ => 0) 0 0 0]) (zf_ap1 [soW Z a inN (ins inN) (mvF inN) (inN 3), gW Z a (inN 4) (inN 5) (bkL inN), pW Z a (inN 6) (pkF inN 0) (pkF inN 1) (pkF inN 2) (pkF inN 3) (pkF inN 4) (pkF inN 5) (pkF inN 6) (pkF inN 7) (pkF inN 8) (pkF inN 9), xW Z x (a 0) (b 0) (a3 0) (b4 0) (c 0) (e 0) 0 ([A 0 0, A 1 0, A 2 0, A 3 0, A 4 0, A 5 0]) ([E 0 0, E 1 0]) (fun _ => 0), rW Z b ef op ln nm qu qd, soW Z a3 inN (ins inN) (mvF inN) (inN 3), gW Z a3 (inN 4) (inN 5) (bkL inN), pW Z a3 (inN 6) (pkF inN 0) (pkF inN 1) (pkF inN 2) (pkF inN 3) (pkF inN 4) (pkF inN 5) (pkF inN 6) (pkF inN 7) (pkF inN 8) (pkF inN 9), rW Z b4 0 (fun _ => 0) (fun _ => 0) (fun _ => 0) (fun _ => 0) 0, jW Z c (fun _ => 0), dW Z e (fun _ => 0) 0 0 (fun _ => 0) (fun _ => 0) (fun _ => 0) 0, hW Z A (fun _ => inN), eW Z E (fun _ => inN)] (mW Z q inN (fun _ => 0) (fun _ => 0) 0 (fun _ => 0) (fun _ => 0) (fun _ => 0) 0 0 (fun _ => 0) (fun _ => 0) (fun _ => 0) (fun _ => 0) (fun _ => 0) (fun _ => 0) 0 0 0)) ?_
  refine z_astore_n (lv' := [(2, .ref (q 0)), (1, .ref (x 0)), (0, .ref bs)]) ok dL_law_15 (by decide) rfl ?_
  refine z_iconst ok dL_law_16 ?_
  refine z_istore_n (lv' := [(3, .int (iI 0)), (2, .ref (q 0)), (1, .ref (x 0)), (0, .ref bs)]) ok dL_law_17 (by decide) rfl ?_
  exact law_loop ok hsc hL fin 3000 0 0 (by decide) (by decide) (by decide) (by decide) A inN inN ef op ln nm qu qd 0 (fun _ => 0) (fun _ => 0) (fun _ => 0) (fun _ => 0) 0 (fun _ => 0) (fun _ => 0) 0 0 (fun _ => 0) (fun _ => 0) (fun _ => 0) 0 0 (fun _ => inN) (fun _ => inN) (fun _ => 0) (fun _ => 0) (fun _ => 0) (fun _ => 0) (fun _ => 0) (fun _ => 0) (fun _ => 0) (fun _ => 0) (fun _ => 0) (fun _ => 0) (fun _ => 0) 0 0 0 ⟨rowB_in, by decide, fun i hi => absurd hi (by omega), fun i hi => absurd hi (by omega), fun s _ _ => Or.inl rfl, fun s _ _ => ⟨rfl, fun z => absurd rfl z⟩, padOK_0⟩ hok (fun _ _ _ => Or.inl rfl) (fun t h0 h1 => ⟨Or.inl rfl, fun h => absurd (show (0 : Int) = 1 from h) (by decide)⟩)
