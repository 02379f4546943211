/-! the law: packets are counted alike by boxes and states -/
set_option maxHeartbeats 4000000 in
set_option maxRecDepth 20000 in
theorem c_L_agree {l : Launch} {Z : zZ} {ad : zAd} {N : Int → Int} {h : zHd} {B : Int} (hI : obI N h) (hV : INV B N) (hB : B ≤ 1000) : zI (T := zHd) l yL_agree (Cond.code yL_agree cL_agree 14 (some .boolean) :: wsL_law) ({ frames := 9, cells := 3, slots := 75, locals := 216 } : Room) Z [.ref (obX ad)] (obW Z ad N h) (fun u => obW Z ad N u) (fun ρ u => ρ = 1 ∧ obI N u) := by
  refine zI_of (C := RL) (by decide +kernel) rfl (Nat.le_of_ble_eq_true rfl) (fun ρ => ρ = 0 ∨ ρ = 1) znZ (fun X ok fin => ?_)
  have hw := hV.1.1
  have hcr := wf_cr hw
  have hc4 := hw.2.2.2.1
  have w6 := hw.2.2.2.2.2.1
  have h3 := hV.1.2.1
  have K595 : ∀ (q1 q2 q3 : Nat) (f1 f2 f3 : Int → Int) (s4 s5 s6 s7 s8 s9 : Int) (g : zHd), s4 = sumOf N 4 → s5 = sumOf N 5 → s6 = sumOf N 6 → s7 = stkC N → s8 = brokenOf N → s9 = sumOf N 4 → obI N g → zV X 3 75 ([aW Z q3 25 f3, aW Z q2 25 f2, aW Z q1 25 f1] ++ (obW Z ad N g ++ ([] : va_W))) 595 [(9, .int (iI s9)), (8, .int (iI s8)), (7, .int (iI s7)), (6, .int (iI s6)), (5, .int (iI s5)), (4, .int (iI s4)), (3, .ref q3), (2, .ref q2), (1, .ref q1), (0, .ref (obX ad))] [] := by
    intro q1 q2 q3 f1 f2 f3 s4 s5 s6 s7 s8 s9 g e4 e5 e6 e7 e8 e9 gI
    have r4 := sum_rng (j := 4) hw (fun p p0 p1 => by have := (hV.2.1 p p0 p1).2.2.2.2.2.1; omega)
    have r5 := sum_rng (j := 5) hw (fun p p0 p1 => by have := (hw.2.2.2.2.2.2.2 p p0 p1).2.2.2.2.1; omega)
    have r6 := sum_rng (j := 6) hw (fun p p0 p1 => by have := (hV.2.1 p p0 p1).2.2.2.2.2.2.1; omega)
    have r7 := stkC_rng hw
    have r8 := (bk_end hV).2
    have rc := cnt_all hw
    have rc0 := cnt_rng (b := -6) (t := 0) hw
    have rc1 := cnt_rng (b := -6) (t := 1) hw
    have rc2 := cnt_rng (b := -6) (t := 2) hw
    refine z_iload ok dL_agree_595 rfl ?_
    refine z_iload ok dL_agree_597 rfl ?_
    refine z_icmp_ne (tgt := 687) ok dL_agree_599 (by decide) (by omega) (by omega) (fun c => (by omega : False).elim) (fun c599 => ?_)
    refine z_aload_n ok dL_agree_602 rfl ?_
    refine z_bipush ok dL_agree_603 (by decide) ?_
    refine o_count (v := sumOf N 4) ok gI hw (by decide) (v_c7) qm_RL_8 dL_agree_605 (by decide) ⟨by decide, by decide⟩ (Nat.le_of_ble_eq_true rfl) (fun h1 h1I => ?_)
    refine z_iload ok dL_agree_608 rfl ?_
    refine z_icmp_ne (tgt := 687) ok dL_agree_610 (by decide) (by omega) (by omega) (fun c => (by omega : False).elim) (fun c610 => ?_)
    refine z_aload_n ok dL_agree_613 rfl ?_
    refine z_bipush ok dL_agree_614 (by decide) ?_
    refine o_count (v := sumOf N 5) ok h1I hw (by decide) (v_c8) qm_RL_8 dL_agree_616 (by decide) ⟨by decide, by decide⟩ (Nat.le_of_ble_eq_true rfl) (fun h2 h2I => ?_)
    refine z_iload ok dL_agree_619 rfl ?_
    refine z_icmp_ne (tgt := 687) ok dL_agree_621 (by decide) (by omega) (by omega) (fun c => (by omega : False).elim) (fun c621 => ?_)
    refine z_aload_n ok dL_agree_624 rfl ?_
    refine z_bipush ok dL_agree_625 (by decide) ?_
    refine o_count (v := sumOf N 6) ok h2I hw (by decide) (v_c9) qm_RL_8 dL_agree_627 (by decide) ⟨by decide, by decide⟩ (Nat.le_of_ble_eq_true rfl) (fun h3 h3I => ?_)
    refine z_iload ok dL_agree_630 rfl ?_
    refine z_icmp_ne (tgt := 687) ok dL_agree_632 (by decide) (by omega) (by omega) (fun c => (by omega : False).elim) (fun c632 => ?_)
    refine z_aload_n ok dL_agree_635 rfl ?_
    refine z_bipush ok dL_agree_636 (by decide) ?_
    refine o_count (v := stkC N) ok h3I hw (by decide) (v_c10) qm_RL_8 dL_agree_638 (by decide) ⟨by decide, by decide⟩ (Nat.le_of_ble_eq_true rfl) (fun h4 h4I => ?_)
    refine z_iload ok dL_agree_641 rfl ?_
    refine z_icmp_ne (tgt := 687) ok dL_agree_643 (by decide) (by omega) (by omega) (fun c => (by omega : False).elim) (fun c643 => ?_)
    refine z_aload_n ok dL_agree_646 rfl ?_
    refine z_bipush ok dL_agree_647 (by decide) ?_
    refine o_count (v := brokenOf N) ok h4I hw (by decide) (v_c11) qm_RL_8 dL_agree_649 (by decide) ⟨by decide, by decide⟩ (Nat.le_of_ble_eq_true rfl) (fun h5 h5I => ?_)
    refine z_iload ok dL_agree_652 rfl ?_
    refine z_icmp_ne (tgt := 687) ok dL_agree_654 (by decide) (by omega) (by omega) (fun c => (by omega : False).elim) (fun c654 => ?_)
    refine z_aload_n ok dL_agree_657 rfl ?_
    refine z_iconst ok dL_agree_658 ?_
    refine o_count (v := cnt N (-6) 0) ok h5I hw (by decide) (v_c4) qm_RL_8 dL_agree_659 (by decide) ⟨by decide, by decide⟩ (Nat.le_of_ble_eq_true rfl) (fun h6 h6I => ?_)
    refine z_aload_n ok dL_agree_662 rfl ?_
    refine z_iconst ok dL_agree_663 ?_
    refine o_count (v := cnt N (-6) 1) ok h6I hw (by decide) (v_c5) qm_RL_8 dL_agree_664 (by decide) ⟨by decide, by decide⟩ (Nat.le_of_ble_eq_true rfl) (fun h7 h7I => ?_)
    refine z_iadd ok dL_agree_667 ?_
    refine z_aload_n ok dL_agree_668 rfl ?_
    refine z_bipush ok dL_agree_669 (by decide) ?_
    refine o_count (v := cnt N (-6) 2) ok h7I hw (by decide) (v_c6) qm_RL_8 dL_agree_671 (by decide) ⟨by decide, by decide⟩ (Nat.le_of_ble_eq_true rfl) (fun h8 h8I => ?_)
    refine z_iadd ok dL_agree_674 ?_
    refine z_aload_n ok dL_agree_675 rfl ?_
    refine z_iconst ok dL_agree_676 ?_
    refine o_count (v := N 6) ok h8I hw (by decide) (v_c3) qm_RL_8 dL_agree_677 (by decide) ⟨by decide, by decide⟩ (Nat.le_of_ble_eq_true rfl) (fun h9 h9I => ?_)
    refine z_icmp_ne (tgt := 687) ok dL_agree_680 (by decide) (by omega) (by omega) (fun c => (by omega : False).elim) (fun c680 => ?_)
    refine z_iconst ok dL_agree_683 ?_
    refine z_goto (tgt := 688) ok dL_agree_684 (by decide) ?_
    refine z_drop ?_
    refine z_eq (ws' := obW Z ad N h9) (List.append_nil _) ?_
    exact fin 1 h9 688 _ _ _ dL_agree_688 (by decide) ⟨rfl, h9I⟩ (by decide) (by decide)
  have L412 : ∀ (q1 q2 q3 : Nat) (f1 f2 f3 : Int → Int) (s4 s5 s6 s7 : Int), (∀ b : Int, 0 ≤ b → b < 25 → f1 b = cnt N b 0) → (∀ b : Int, 0 ≤ b → b < 25 → f2 b = cnt N b 1) → (∀ b : Int, 0 ≤ b → b < 25 → f3 b = cnt N b 2) → s4 = sumOf N 4 → s5 = sumOf N 5 → s6 = sumOf N 6 → s7 = stkC N → ∀ (fuel : Nat) (b s8 s9 : Int) (g : zHd), 0 ≤ b → b ≤ N 4 * N 5 → s8 = zS (bkF N) (2 * b).toNat → s9 = zS (mvF N) (4 * b).toNat → obI N g → (N 4 * N 5 - b).toNat < fuel → zV X 3 75 ([aW Z q3 25 f3, aW Z q2 25 f2, aW Z q1 25 f1] ++ (obW Z ad N g ++ ([] : va_W))) 412 [(10, .int (iI b)), (9, .int (iI s9)), (8, .int (iI s8)), (7, .int (iI s7)), (6, .int (iI s6)), (5, .int (iI s5)), (4, .int (iI s4)), (3, .ref q3), (2, .ref q2), (1, .ref q1), (0, .ref (obX ad))] [] := by
    intro q1 q2 q3 f1 f2 f3 s4 s5 s6 s7 r1 r2 r3 e4 e5 e6 e7 fuel
    induction fuel with
    | zero => intro b s8 s9 g b0 b1 e8 e9 gI hfu; exact absurd hfu (Nat.not_lt_zero _)
    | succ fuel ih =>
      intro b s8 s9 g b0 b1 e8 e9 gI hfu
      refine z_iload ok dL_agree_412 rfl ?_
      refine z_aload_n ok dL_agree_414 rfl ?_
      refine z_iconst ok dL_agree_415 ?_
      refine o_count (v := N 4 * N 5) ok gI hw (by decide) (v_c1) qm_RL_8 dL_agree_416 (by decide) ⟨by decide, by decide⟩ (Nat.le_of_ble_eq_true rfl) (fun h1 h1I => ?_)
      refine z_icmp_ge (tgt := 595) ok dL_agree_419 (by decide) (by omega) (by omega) (fun c419 => ?_) (fun c419 => ?_)
      · -- t
        refine z_lsub ok (lv' := [(9, .int (iI s9)), (8, .int (iI s8)), (7, .int (iI s7)), (6, .int (iI s6)), (5, .int (iI s5)), (4, .int (iI s4)), (3, .ref q3), (2, .ref q2), (1, .ref q1), (0, .ref (obX ad))]) [1, 2, 3, 4, 5, 6, 7, 8, 9, 10] rfl ?_
        have eb : b = N 4 * N 5 := by omega
        exact K595 q1 q2 q3 f1 f2 f3 s4 s5 s6 s7 s8 s9 h1 e4 e5 e6 e7 (by rw [e8, eb]; exact (bk_end hV).1.symm) (by rw [e9, eb]; exact (mv_end hV).symm) h1I
      · -- f
        have hb : isB N b := by unfold isB; omega
        have rc0 := cnt_rng (b := b) (t := 0) hw
        have rc1 := cnt_rng (b := b) (t := 1) hw
        have rc2 := cnt_rng (b := b) (t := 2) hw
        have L469 : ∀ (fuel2 : Nat) (d s8 s9 : Int) (g : zHd), 0 ≤ d → d ≤ 4 → s8 = zS (bkF N) (2 * b + (d + 1) / 2).toNat → s9 = zS (mvF N) (4 * b + d).toNat → obI N g → (4 - d).toNat < fuel2 → zV X 3 75 ([aW Z q3 25 f3, aW Z q2 25 f2, aW Z q1 25 f1] ++ (obW Z ad N g ++ ([] : va_W))) 469 [(11, .int (iI d)), (10, .int (iI b)), (9, .int (iI s9)), (8, .int (iI s8)), (7, .int (iI s7)), (6, .int (iI s6)), (5, .int (iI s5)), (4, .int (iI s4)), (3, .ref q3), (2, .ref q2), (1, .ref q1), (0, .ref (obX ad))] [] := by
          intro fuel2
          induction fuel2 with
          | zero => intro d s8 s9 g d0 d1 e8 e9 gI hfu; exact absurd hfu (Nat.not_lt_zero _)
          | succ fuel2 ih2 =>
            intro d s8 s9 g d0 d1 e8 e9 gI hfu2
            refine z_iload ok dL_agree_469 rfl ?_
            refine z_iconst ok dL_agree_471 ?_
            refine z_icmp_ge (tgt := 589) ok dL_agree_472 (by decide) (by omega) (by decide) (fun c472 => ?_) (fun c472 => ?_)
            · -- t
              refine z_iinc (lv' := [(10, .int (iI (b + 1))), (11, .int (iI d)), (9, .int (iI s9)), (8, .int (iI s8)), (7, .int (iI s7)), (6, .int (iI s6)), (5, .int (iI s5)), (4, .int (iI s4)), (3, .ref q3), (2, .ref q2), (1, .ref q1), (0, .ref (obX ad))]) ok dL_agree_589 1 rfl (by decide) rfl ?_
              refine z_goto (tgt := 412) ok dL_agree_592 (by decide) ?_
              refine z_lsub ok (lv' := [(10, .int (iI (b + 1))), (9, .int (iI s9)), (8, .int (iI s8)), (7, .int (iI s7)), (6, .int (iI s6)), (5, .int (iI s5)), (4, .int (iI s4)), (3, .ref q3), (2, .ref q2), (1, .ref q1), (0, .ref (obX ad))]) [0, 2, 3, 4, 5, 6, 7, 8, 9, 10, 11] rfl ?_
              have ed : d = 4 := by omega
              exact ih (b + 1) s8 s9 g (by omega) (by omega) (by rw [e8, ed]; congr 2; omega) (by rw [e9, ed]; congr 2; omega) gI (by omega)
            · -- f
              have hd : 0 ≤ d ∧ d ≤ 3 := by omega
              have hnr := nb_rng hw hb hd
              have hop := (opp_opp hd).2
              have k1 := bk_step hV hb hd
              have k2 := mv_step (N := N) (b := b) (d := d) b0 d0
              have hmv := hV.1.2.2.1 (4 * b + d) (by omega) (by omega)
              rw [show 60 + (4 * b + d) = 60 + 4 * b + d by omega] at hmv
              rcases lkV_c hw hb hd with ⟨c, cl⟩ | ⟨c, cl | cl⟩
              · -- 0
                have hz := hV.2.2.1.2 b d hb d0 hd.2 c
                rw [cl, if_neg (fun z => by have := z.1; omega)] at k1
                refine z_aload_n ok dL_agree_475 rfl ?_
                refine z_iload ok dL_agree_476 rfl ?_
                refine z_iload ok dL_agree_478 rfl ?_
                refine l_beside (v := nb N b d) ok gI hw (hb) (hd) (rfl) qm_RL_27 dL_agree_480 (by decide) ⟨by decide, by decide⟩ (Nat.le_of_ble_eq_true rfl) (fun h201 h201I => ?_)
                refine z_istore (lv' := [(12, .int (iI (nb N b d))), (11, .int (iI d)), (10, .int (iI b)), (9, .int (iI s9)), (8, .int (iI s8)), (7, .int (iI s7)), (6, .int (iI s6)), (5, .int (iI s5)), (4, .int (iI s4)), (3, .ref q3), (2, .ref q2), (1, .ref q1), (0, .ref (obX ad))]) ok dL_agree_483 (by decide) rfl ?_
                refine z_aload_n ok dL_agree_485 rfl ?_
                refine z_iload ok dL_agree_486 rfl ?_
                refine z_iconst ok dL_agree_488 ?_
                refine z_iload ok dL_agree_489 rfl ?_
                refine z_iadd ok dL_agree_491 ?_
                refine o_ofBox (v := lkV N b d) ok h201I hw (by omega) (by omega) (v_bl (hb) (by omega) rfl) qm_RL_24 dL_agree_492 (by decide) ⟨by decide, by decide⟩ (Nat.le_of_ble_eq_true rfl) ?_
                refine z_istore (lv' := [(13, .int (iI (lkV N b d))), (12, .int (iI (nb N b d))), (11, .int (iI d)), (10, .int (iI b)), (9, .int (iI s9)), (8, .int (iI s8)), (7, .int (iI s7)), (6, .int (iI s6)), (5, .int (iI s5)), (4, .int (iI s4)), (3, .ref q3), (2, .ref q2), (1, .ref q1), (0, .ref (obX ad))]) ok dL_agree_495 (by decide) rfl ?_
                refine z_iload ok dL_agree_497 rfl ?_
                refine z_aload_n ok dL_agree_499 rfl ?_
                refine z_iload ok dL_agree_500 rfl ?_
                refine z_bipush ok dL_agree_502 (by decide) ?_
                refine z_iload ok dL_agree_504 rfl ?_
                refine z_iadd ok dL_agree_506 ?_
                refine o_ofBox (v := N (60 + 4 * b + d)) ok h201I hw (by omega) (by omega) (v_bm (hb) (by omega) rfl) qm_RL_24 dL_agree_507 (by decide) ⟨by decide, by decide⟩ (Nat.le_of_ble_eq_true rfl) ?_
                refine z_iadd ok dL_agree_510 ?_
                refine z_istore (lv' := [(9, .int (iI (s9 + (N (60 + 4 * b + d))))), (13, .int (iI (lkV N b d))), (12, .int (iI (nb N b d))), (11, .int (iI d)), (10, .int (iI b)), (8, .int (iI s8)), (7, .int (iI s7)), (6, .int (iI s6)), (5, .int (iI s5)), (4, .int (iI s4)), (3, .ref q3), (2, .ref q2), (1, .ref q1), (0, .ref (obX ad))]) ok dL_agree_511 (by decide) rfl ?_
                refine z_iload ok dL_agree_513 rfl ?_
                refine z_iload ok dL_agree_515 rfl ?_
                refine z_if_ne (tgt := 531) ok dL_agree_517 (by decide) (by omega) (fun c517 => ?_) (fun c => (by omega : False).elim)
                refine z_iconst ok dL_agree_531 ?_
                refine z_iadd ok dL_agree_532 ?_
                refine z_istore (lv' := [(8, .int (iI (s8 + 0))), (9, .int (iI (s9 + (N (60 + 4 * b + d))))), (13, .int (iI (lkV N b d))), (12, .int (iI (nb N b d))), (11, .int (iI d)), (10, .int (iI b)), (7, .int (iI s7)), (6, .int (iI s6)), (5, .int (iI s5)), (4, .int (iI s4)), (3, .ref q3), (2, .ref q2), (1, .ref q1), (0, .ref (obX ad))]) ok dL_agree_533 (by decide) rfl ?_
                refine z_iload ok dL_agree_535 rfl ?_
                refine z_if_ge (tgt := 564) ok dL_agree_537 (by decide) (by omega) (fun c => (by omega : False).elim) (fun c537 => ?_)
                refine z_iload ok dL_agree_540 rfl ?_
                refine z_bipush ok dL_agree_542 (by decide) ?_
                refine z_icmp_ne (tgt := 581) ok dL_agree_544 (by decide) (by omega) (by decide) (fun c => (by omega : False).elim) (fun c544 => ?_)
                refine z_aload_n ok dL_agree_547 rfl ?_
                refine z_iload ok dL_agree_548 rfl ?_
                refine z_bipush ok dL_agree_550 (by decide) ?_
                refine z_iload ok dL_agree_552 rfl ?_
                refine z_iadd ok dL_agree_554 ?_
                refine o_ofBox (v := N (60 + 4 * b + d)) ok h201I hw (by omega) (by omega) (v_bm (hb) (by omega) rfl) qm_RL_24 dL_agree_555 (by decide) ⟨by decide, by decide⟩ (Nat.le_of_ble_eq_true rfl) ?_
                refine z_if_eq (tgt := 583) ok dL_agree_558 (by decide) (by omega) (fun c558 => ?_) (fun c => (by omega : False).elim)
                refine z_iinc (lv' := [(11, .int (iI (d + 1))), (8, .int (iI (s8 + 0))), (9, .int (iI (s9 + (N (60 + 4 * b + d))))), (13, .int (iI (lkV N b d))), (12, .int (iI (nb N b d))), (10, .int (iI b)), (7, .int (iI s7)), (6, .int (iI s6)), (5, .int (iI s5)), (4, .int (iI s4)), (3, .ref q3), (2, .ref q2), (1, .ref q1), (0, .ref (obX ad))]) ok dL_agree_583 4 rfl (by decide) rfl ?_
                refine z_goto (tgt := 469) ok dL_agree_586 (by decide) ?_
                refine z_lsub ok (lv' := [(11, .int (iI (d + 1))), (10, .int (iI b)), (9, .int (iI (s9 + (N (60 + 4 * b + d))))), (8, .int (iI (s8 + 0))), (7, .int (iI s7)), (6, .int (iI s6)), (5, .int (iI s5)), (4, .int (iI s4)), (3, .ref q3), (2, .ref q2), (1, .ref q1), (0, .ref (obX ad))]) [0, 5, 2, 1, 6, 7, 8, 9, 10, 11, 12, 13] rfl ?_
                exact ih2 (d + 1) (s8 + 0) (s9 + (N (60 + 4 * b + d))) h201 (by omega) (by omega) (by rw [k1, ← e8]) (by rw [k2, ← e9]) h201I (by omega)
              · -- 1
                have hs := lkV_sym hw hb hd c
                have hb2 : isB N (nb N b d) := by unfold isB; omega
                rcases (show d % 2 = 0 ∨ ¬ d % 2 = 0 by omega) with c2 | c2
                · -- parity
                  rw [if_pos ⟨cl, c2⟩] at k1
                  refine z_aload_n ok dL_agree_475 rfl ?_
                  refine z_iload ok dL_agree_476 rfl ?_
                  refine z_iload ok dL_agree_478 rfl ?_
                  refine l_beside (v := nb N b d) ok gI hw (hb) (hd) (rfl) qm_RL_27 dL_agree_480 (by decide) ⟨by decide, by decide⟩ (Nat.le_of_ble_eq_true rfl) (fun h202 h202I => ?_)
                  refine z_istore (lv' := [(12, .int (iI (nb N b d))), (11, .int (iI d)), (10, .int (iI b)), (9, .int (iI s9)), (8, .int (iI s8)), (7, .int (iI s7)), (6, .int (iI s6)), (5, .int (iI s5)), (4, .int (iI s4)), (3, .ref q3), (2, .ref q2), (1, .ref q1), (0, .ref (obX ad))]) ok dL_agree_483 (by decide) rfl ?_
                  refine z_aload_n ok dL_agree_485 rfl ?_
                  refine z_iload ok dL_agree_486 rfl ?_
                  refine z_iconst ok dL_agree_488 ?_
                  refine z_iload ok dL_agree_489 rfl ?_
                  refine z_iadd ok dL_agree_491 ?_
                  refine o_ofBox (v := lkV N b d) ok h202I hw (by omega) (by omega) (v_bl (hb) (by omega) rfl) qm_RL_24 dL_agree_492 (by decide) ⟨by decide, by decide⟩ (Nat.le_of_ble_eq_true rfl) ?_
                  refine z_istore (lv' := [(13, .int (iI (lkV N b d))), (12, .int (iI (nb N b d))), (11, .int (iI d)), (10, .int (iI b)), (9, .int (iI s9)), (8, .int (iI s8)), (7, .int (iI s7)), (6, .int (iI s6)), (5, .int (iI s5)), (4, .int (iI s4)), (3, .ref q3), (2, .ref q2), (1, .ref q1), (0, .ref (obX ad))]) ok dL_agree_495 (by decide) rfl ?_
                  refine z_iload ok dL_agree_497 rfl ?_
                  refine z_aload_n ok dL_agree_499 rfl ?_
                  refine z_iload ok dL_agree_500 rfl ?_
                  refine z_bipush ok dL_agree_502 (by decide) ?_
                  refine z_iload ok dL_agree_504 rfl ?_
                  refine z_iadd ok dL_agree_506 ?_
                  refine o_ofBox (v := N (60 + 4 * b + d)) ok h202I hw (by omega) (by omega) (v_bm (hb) (by omega) rfl) qm_RL_24 dL_agree_507 (by decide) ⟨by decide, by decide⟩ (Nat.le_of_ble_eq_true rfl) ?_
                  refine z_iadd ok dL_agree_510 ?_
                  refine z_istore (lv' := [(9, .int (iI (s9 + (N (60 + 4 * b + d))))), (13, .int (iI (lkV N b d))), (12, .int (iI (nb N b d))), (11, .int (iI d)), (10, .int (iI b)), (8, .int (iI s8)), (7, .int (iI s7)), (6, .int (iI s6)), (5, .int (iI s5)), (4, .int (iI s4)), (3, .ref q3), (2, .ref q2), (1, .ref q1), (0, .ref (obX ad))]) ok dL_agree_511 (by decide) rfl ?_
                  refine z_iload ok dL_agree_513 rfl ?_
                  refine z_iload ok dL_agree_515 rfl ?_
                  refine z_if_ne (tgt := 531) ok dL_agree_517 (by decide) (by omega) (fun c => (by omega : False).elim) (fun c517 => ?_)
                  refine z_iload ok dL_agree_520 rfl ?_
                  refine z_iconst ok dL_agree_522 ?_
                  refine z_irem ok dL_agree_523 (by omega) (by omega) ?_
                  refine z_if_ne (tgt := 531) ok dL_agree_524 (by decide) (by omega) (fun c => (by omega : False).elim) (fun c524 => ?_)
                  refine z_iconst ok dL_agree_527 ?_
                  refine z_goto (tgt := 532) ok dL_agree_528 (by decide) ?_
                  refine z_iadd ok dL_agree_532 ?_
                  refine z_istore (lv' := [(8, .int (iI (s8 + 1))), (9, .int (iI (s9 + (N (60 + 4 * b + d))))), (13, .int (iI (lkV N b d))), (12, .int (iI (nb N b d))), (11, .int (iI d)), (10, .int (iI b)), (7, .int (iI s7)), (6, .int (iI s6)), (5, .int (iI s5)), (4, .int (iI s4)), (3, .ref q3), (2, .ref q2), (1, .ref q1), (0, .ref (obX ad))]) ok dL_agree_533 (by decide) rfl ?_
                  refine z_iload ok dL_agree_535 rfl ?_
                  refine z_if_ge (tgt := 564) ok dL_agree_537 (by decide) (by omega) (fun c537 => ?_) (fun c => (by omega : False).elim)
                  refine z_iload ok dL_agree_564 rfl ?_
                  refine z_aload_n ok dL_agree_566 rfl ?_
                  refine z_iload ok dL_agree_567 rfl ?_
                  refine z_iconst ok dL_agree_569 ?_
                  refine z_iload ok dL_agree_570 rfl ?_
                  refine z_iconst ok dL_agree_572 ?_
                  refine z_ixor (v := iI (opp d)) ok dL_agree_573 (xor_opp hd) ?_
                  refine z_iadd ok dL_agree_574 ?_
                  refine o_ofBox (v := lkV N (nb N b d) (opp d)) ok h202I hw (by omega) (by omega) (v_bl (hb2) (by omega) rfl) qm_RL_24 dL_agree_575 (by decide) ⟨by decide, by decide⟩ (Nat.le_of_ble_eq_true rfl) ?_
                  refine z_icmp_eq (tgt := 583) ok dL_agree_578 (by decide) (by omega) (by omega) (fun c578 => ?_) (fun c => (by omega : False).elim)
                  refine z_iinc (lv' := [(11, .int (iI (d + 1))), (8, .int (iI (s8 + 1))), (9, .int (iI (s9 + (N (60 + 4 * b + d))))), (13, .int (iI (lkV N b d))), (12, .int (iI (nb N b d))), (10, .int (iI b)), (7, .int (iI s7)), (6, .int (iI s6)), (5, .int (iI s5)), (4, .int (iI s4)), (3, .ref q3), (2, .ref q2), (1, .ref q1), (0, .ref (obX ad))]) ok dL_agree_583 4 rfl (by decide) rfl ?_
                  refine z_goto (tgt := 469) ok dL_agree_586 (by decide) ?_
                  refine z_lsub ok (lv' := [(11, .int (iI (d + 1))), (10, .int (iI b)), (9, .int (iI (s9 + (N (60 + 4 * b + d))))), (8, .int (iI (s8 + 1))), (7, .int (iI s7)), (6, .int (iI s6)), (5, .int (iI s5)), (4, .int (iI s4)), (3, .ref q3), (2, .ref q2), (1, .ref q1), (0, .ref (obX ad))]) [0, 5, 2, 1, 6, 7, 8, 9, 10, 11, 12, 13] rfl ?_
                  exact ih2 (d + 1) (s8 + 1) (s9 + (N (60 + 4 * b + d))) h202 (by omega) (by omega) (by rw [k1, ← e8]) (by rw [k2, ← e9]) h202I (by omega)
                · -- parity
                  rw [if_neg (fun z => c2 z.2)] at k1
                  refine z_aload_n ok dL_agree_475 rfl ?_
                  refine z_iload ok dL_agree_476 rfl ?_
                  refine z_iload ok dL_agree_478 rfl ?_
                  refine l_beside (v := nb N b d) ok gI hw (hb) (hd) (rfl) qm_RL_27 dL_agree_480 (by decide) ⟨by decide, by decide⟩ (Nat.le_of_ble_eq_true rfl) (fun h203 h203I => ?_)
                  refine z_istore (lv' := [(12, .int (iI (nb N b d))), (11, .int (iI d)), (10, .int (iI b)), (9, .int (iI s9)), (8, .int (iI s8)), (7, .int (iI s7)), (6, .int (iI s6)), (5, .int (iI s5)), (4, .int (iI s4)), (3, .ref q3), (2, .ref q2), (1, .ref q1), (0, .ref (obX ad))]) ok dL_agree_483 (by decide) rfl ?_
                  refine z_aload_n ok dL_agree_485 rfl ?_
                  refine z_iload ok dL_agree_486 rfl ?_
                  refine z_iconst ok dL_agree_488 ?_
                  refine z_iload ok dL_agree_489 rfl ?_
                  refine z_iadd ok dL_agree_491 ?_
                  refine o_ofBox (v := lkV N b d) ok h203I hw (by omega) (by omega) (v_bl (hb) (by omega) rfl) qm_RL_24 dL_agree_492 (by decide) ⟨by decide, by decide⟩ (Nat.le_of_ble_eq_true rfl) ?_
                  refine z_istore (lv' := [(13, .int (iI (lkV N b d))), (12, .int (iI (nb N b d))), (11, .int (iI d)), (10, .int (iI b)), (9, .int (iI s9)), (8, .int (iI s8)), (7, .int (iI s7)), (6, .int (iI s6)), (5, .int (iI s5)), (4, .int (iI s4)), (3, .ref q3), (2, .ref q2), (1, .ref q1), (0, .ref (obX ad))]) ok dL_agree_495 (by decide) rfl ?_
                  refine z_iload ok dL_agree_497 rfl ?_
                  refine z_aload_n ok dL_agree_499 rfl ?_
                  refine z_iload ok dL_agree_500 rfl ?_
                  refine z_bipush ok dL_agree_502 (by decide) ?_
                  refine z_iload ok dL_agree_504 rfl ?_
                  refine z_iadd ok dL_agree_506 ?_
                  refine o_ofBox (v := N (60 + 4 * b + d)) ok h203I hw (by omega) (by omega) (v_bm (hb) (by omega) rfl) qm_RL_24 dL_agree_507 (by decide) ⟨by decide, by decide⟩ (Nat.le_of_ble_eq_true rfl) ?_
                  refine z_iadd ok dL_agree_510 ?_
                  refine z_istore (lv' := [(9, .int (iI (s9 + (N (60 + 4 * b + d))))), (13, .int (iI (lkV N b d))), (12, .int (iI (nb N b d))), (11, .int (iI d)), (10, .int (iI b)), (8, .int (iI s8)), (7, .int (iI s7)), (6, .int (iI s6)), (5, .int (iI s5)), (4, .int (iI s4)), (3, .ref q3), (2, .ref q2), (1, .ref q1), (0, .ref (obX ad))]) ok dL_agree_511 (by decide) rfl ?_
                  refine z_iload ok dL_agree_513 rfl ?_
                  refine z_iload ok dL_agree_515 rfl ?_
                  refine z_if_ne (tgt := 531) ok dL_agree_517 (by decide) (by omega) (fun c => (by omega : False).elim) (fun c517 => ?_)
                  refine z_iload ok dL_agree_520 rfl ?_
                  refine z_iconst ok dL_agree_522 ?_
                  refine z_irem ok dL_agree_523 (by omega) (by omega) ?_
                  refine z_if_ne (tgt := 531) ok dL_agree_524 (by decide) (by omega) (fun c524 => ?_) (fun c => (by omega : False).elim)
                  refine z_iconst ok dL_agree_531 ?_
                  refine z_iadd ok dL_agree_532 ?_
                  refine z_istore (lv' := [(8, .int (iI (s8 + 0))), (9, .int (iI (s9 + (N (60 + 4 * b + d))))), (13, .int (iI (lkV N b d))), (12, .int (iI (nb N b d))), (11, .int (iI d)), (10, .int (iI b)), (7, .int (iI s7)), (6, .int (iI s6)), (5, .int (iI s5)), (4, .int (iI s4)), (3, .ref q3), (2, .ref q2), (1, .ref q1), (0, .ref (obX ad))]) ok dL_agree_533 (by decide) rfl ?_
                  refine z_iload ok dL_agree_535 rfl ?_
                  refine z_if_ge (tgt := 564) ok dL_agree_537 (by decide) (by omega) (fun c537 => ?_) (fun c => (by omega : False).elim)
                  refine z_iload ok dL_agree_564 rfl ?_
                  refine z_aload_n ok dL_agree_566 rfl ?_
                  refine z_iload ok dL_agree_567 rfl ?_
                  refine z_iconst ok dL_agree_569 ?_
                  refine z_iload ok dL_agree_570 rfl ?_
                  refine z_iconst ok dL_agree_572 ?_
                  refine z_ixor (v := iI (opp d)) ok dL_agree_573 (xor_opp hd) ?_
                  refine z_iadd ok dL_agree_574 ?_
                  refine o_ofBox (v := lkV N (nb N b d) (opp d)) ok h203I hw (by omega) (by omega) (v_bl (hb2) (by omega) rfl) qm_RL_24 dL_agree_575 (by decide) ⟨by decide, by decide⟩ (Nat.le_of_ble_eq_true rfl) ?_
                  refine z_icmp_eq (tgt := 583) ok dL_agree_578 (by decide) (by omega) (by omega) (fun c578 => ?_) (fun c => (by omega : False).elim)
                  refine z_iinc (lv' := [(11, .int (iI (d + 1))), (8, .int (iI (s8 + 0))), (9, .int (iI (s9 + (N (60 + 4 * b + d))))), (13, .int (iI (lkV N b d))), (12, .int (iI (nb N b d))), (10, .int (iI b)), (7, .int (iI s7)), (6, .int (iI s6)), (5, .int (iI s5)), (4, .int (iI s4)), (3, .ref q3), (2, .ref q2), (1, .ref q1), (0, .ref (obX ad))]) ok dL_agree_583 4 rfl (by decide) rfl ?_
                  refine z_goto (tgt := 469) ok dL_agree_586 (by decide) ?_
                  refine z_lsub ok (lv' := [(11, .int (iI (d + 1))), (10, .int (iI b)), (9, .int (iI (s9 + (N (60 + 4 * b + d))))), (8, .int (iI (s8 + 0))), (7, .int (iI s7)), (6, .int (iI s6)), (5, .int (iI s5)), (4, .int (iI s4)), (3, .ref q3), (2, .ref q2), (1, .ref q1), (0, .ref (obX ad))]) [0, 5, 2, 1, 6, 7, 8, 9, 10, 11, 12, 13] rfl ?_
                  exact ih2 (d + 1) (s8 + 0) (s9 + (N (60 + 4 * b + d))) h203 (by omega) (by omega) (by rw [k1, ← e8]) (by rw [k2, ← e9]) h203I (by omega)
              · -- 2
                have hs := lkV_sym hw hb hd c
                have hb2 : isB N (nb N b d) := by unfold isB; omega
                rw [cl, if_neg (fun z => by have := z.1; omega)] at k1
                refine z_aload_n ok dL_agree_475 rfl ?_
                refine z_iload ok dL_agree_476 rfl ?_
                refine z_iload ok dL_agree_478 rfl ?_
                refine l_beside (v := nb N b d) ok gI hw (hb) (hd) (rfl) qm_RL_27 dL_agree_480 (by decide) ⟨by decide, by decide⟩ (Nat.le_of_ble_eq_true rfl) (fun h204 h204I => ?_)
                refine z_istore (lv' := [(12, .int (iI (nb N b d))), (11, .int (iI d)), (10, .int (iI b)), (9, .int (iI s9)), (8, .int (iI s8)), (7, .int (iI s7)), (6, .int (iI s6)), (5, .int (iI s5)), (4, .int (iI s4)), (3, .ref q3), (2, .ref q2), (1, .ref q1), (0, .ref (obX ad))]) ok dL_agree_483 (by decide) rfl ?_
                refine z_aload_n ok dL_agree_485 rfl ?_
                refine z_iload ok dL_agree_486 rfl ?_
                refine z_iconst ok dL_agree_488 ?_
                refine z_iload ok dL_agree_489 rfl ?_
                refine z_iadd ok dL_agree_491 ?_
                refine o_ofBox (v := lkV N b d) ok h204I hw (by omega) (by omega) (v_bl (hb) (by omega) rfl) qm_RL_24 dL_agree_492 (by decide) ⟨by decide, by decide⟩ (Nat.le_of_ble_eq_true rfl) ?_
                refine z_istore (lv' := [(13, .int (iI (lkV N b d))), (12, .int (iI (nb N b d))), (11, .int (iI d)), (10, .int (iI b)), (9, .int (iI s9)), (8, .int (iI s8)), (7, .int (iI s7)), (6, .int (iI s6)), (5, .int (iI s5)), (4, .int (iI s4)), (3, .ref q3), (2, .ref q2), (1, .ref q1), (0, .ref (obX ad))]) ok dL_agree_495 (by decide) rfl ?_
                refine z_iload ok dL_agree_497 rfl ?_
                refine z_aload_n ok dL_agree_499 rfl ?_
                refine z_iload ok dL_agree_500 rfl ?_
                refine z_bipush ok dL_agree_502 (by decide) ?_
                refine z_iload ok dL_agree_504 rfl ?_
                refine z_iadd ok dL_agree_506 ?_
                refine o_ofBox (v := N (60 + 4 * b + d)) ok h204I hw (by omega) (by omega) (v_bm (hb) (by omega) rfl) qm_RL_24 dL_agree_507 (by decide) ⟨by decide, by decide⟩ (Nat.le_of_ble_eq_true rfl) ?_
                refine z_iadd ok dL_agree_510 ?_
                refine z_istore (lv' := [(9, .int (iI (s9 + (N (60 + 4 * b + d))))), (13, .int (iI (lkV N b d))), (12, .int (iI (nb N b d))), (11, .int (iI d)), (10, .int (iI b)), (8, .int (iI s8)), (7, .int (iI s7)), (6, .int (iI s6)), (5, .int (iI s5)), (4, .int (iI s4)), (3, .ref q3), (2, .ref q2), (1, .ref q1), (0, .ref (obX ad))]) ok dL_agree_511 (by decide) rfl ?_
                refine z_iload ok dL_agree_513 rfl ?_
                refine z_iload ok dL_agree_515 rfl ?_
                refine z_if_ne (tgt := 531) ok dL_agree_517 (by decide) (by omega) (fun c517 => ?_) (fun c => (by omega : False).elim)
                refine z_iconst ok dL_agree_531 ?_
                refine z_iadd ok dL_agree_532 ?_
                refine z_istore (lv' := [(8, .int (iI (s8 + 0))), (9, .int (iI (s9 + (N (60 + 4 * b + d))))), (13, .int (iI (lkV N b d))), (12, .int (iI (nb N b d))), (11, .int (iI d)), (10, .int (iI b)), (7, .int (iI s7)), (6, .int (iI s6)), (5, .int (iI s5)), (4, .int (iI s4)), (3, .ref q3), (2, .ref q2), (1, .ref q1), (0, .ref (obX ad))]) ok dL_agree_533 (by decide) rfl ?_
                refine z_iload ok dL_agree_535 rfl ?_
                refine z_if_ge (tgt := 564) ok dL_agree_537 (by decide) (by omega) (fun c537 => ?_) (fun c => (by omega : False).elim)
                refine z_iload ok dL_agree_564 rfl ?_
                refine z_aload_n ok dL_agree_566 rfl ?_
                refine z_iload ok dL_agree_567 rfl ?_
                refine z_iconst ok dL_agree_569 ?_
                refine z_iload ok dL_agree_570 rfl ?_
                refine z_iconst ok dL_agree_572 ?_
                refine z_ixor (v := iI (opp d)) ok dL_agree_573 (xor_opp hd) ?_
                refine z_iadd ok dL_agree_574 ?_
                refine o_ofBox (v := lkV N (nb N b d) (opp d)) ok h204I hw (by omega) (by omega) (v_bl (hb2) (by omega) rfl) qm_RL_24 dL_agree_575 (by decide) ⟨by decide, by decide⟩ (Nat.le_of_ble_eq_true rfl) ?_
                refine z_icmp_eq (tgt := 583) ok dL_agree_578 (by decide) (by omega) (by omega) (fun c578 => ?_) (fun c => (by omega : False).elim)
                refine z_iinc (lv' := [(11, .int (iI (d + 1))), (8, .int (iI (s8 + 0))), (9, .int (iI (s9 + (N (60 + 4 * b + d))))), (13, .int (iI (lkV N b d))), (12, .int (iI (nb N b d))), (10, .int (iI b)), (7, .int (iI s7)), (6, .int (iI s6)), (5, .int (iI s5)), (4, .int (iI s4)), (3, .ref q3), (2, .ref q2), (1, .ref q1), (0, .ref (obX ad))]) ok dL_agree_583 4 rfl (by decide) rfl ?_
                refine z_goto (tgt := 469) ok dL_agree_586 (by decide) ?_
                refine z_lsub ok (lv' := [(11, .int (iI (d + 1))), (10, .int (iI b)), (9, .int (iI (s9 + (N (60 + 4 * b + d))))), (8, .int (iI (s8 + 0))), (7, .int (iI s7)), (6, .int (iI s6)), (5, .int (iI s5)), (4, .int (iI s4)), (3, .ref q3), (2, .ref q2), (1, .ref q1), (0, .ref (obX ad))]) [0, 5, 2, 1, 6, 7, 8, 9, 10, 11, 12, 13] rfl ?_
                exact ih2 (d + 1) (s8 + 0) (s9 + (N (60 + 4 * b + d))) h204 (by omega) (by omega) (by rw [k1, ← e8]) (by rw [k2, ← e9]) h204I (by omega)
        refine z_aload_n ok dL_agree_422 rfl ?_
        refine z_iload ok dL_agree_423 rfl ?_
        refine z_iconst ok dL_agree_425 ?_
        refine o_ofBox (v := cnt N b 1) ok h1I hw (by omega) (by decide) (v_b0 (hb)) qm_RL_24 dL_agree_426 (by decide) ⟨by decide, by decide⟩ (Nat.le_of_ble_eq_true rfl) ?_
        refine z_aload_n ok dL_agree_429 rfl ?_
        refine z_iload ok dL_agree_430 rfl ?_
        refine z_iale (f := f2) (v := cnt N b 1) ok 1 rfl (r2 _ (by omega) (by omega)) dL_agree_432 (by omega) (by decide) ?_
        refine z_icmp_ne (tgt := 464) ok dL_agree_433 (by decide) (by omega) (by omega) (fun c => (by omega : False).elim) (fun c433 => ?_)
        refine z_aload_n ok dL_agree_436 rfl ?_
        refine z_iload ok dL_agree_437 rfl ?_
        refine z_iconst ok dL_agree_439 ?_
        refine o_ofBox (v := cnt N b 0) ok h1I hw (by omega) (by decide) (v_b1 (hb)) qm_RL_24 dL_agree_440 (by decide) ⟨by decide, by decide⟩ (Nat.le_of_ble_eq_true rfl) ?_
        refine z_aload_n ok dL_agree_443 rfl ?_
        refine z_iload ok dL_agree_444 rfl ?_
        refine z_iale (f := f1) (v := cnt N b 0) ok 2 rfl (r1 _ (by omega) (by omega)) dL_agree_446 (by omega) (by decide) ?_
        refine z_icmp_ne (tgt := 464) ok dL_agree_447 (by decide) (by omega) (by omega) (fun c => (by omega : False).elim) (fun c447 => ?_)
        refine z_aload_n ok dL_agree_450 rfl ?_
        refine z_iload ok dL_agree_451 rfl ?_
        refine z_iconst ok dL_agree_453 ?_
        refine o_ofBox (v := cnt N b 2) ok h1I hw (by omega) (by decide) (v_b2 (hb)) qm_RL_24 dL_agree_454 (by decide) ⟨by decide, by decide⟩ (Nat.le_of_ble_eq_true rfl) ?_
        refine z_aload_n ok dL_agree_457 rfl ?_
        refine z_iload ok dL_agree_458 rfl ?_
        refine z_iale (f := f3) (v := cnt N b 2) ok 0 rfl (r3 _ (by omega) (by omega)) dL_agree_460 (by omega) (by decide) ?_
        refine z_icmp_eq (tgt := 466) ok dL_agree_461 (by decide) (by omega) (by omega) (fun c461 => ?_) (fun c => (by omega : False).elim)
        refine z_iconst ok dL_agree_466 ?_
        refine z_istore (lv' := [(11, .int (iI 0)), (10, .int (iI b)), (9, .int (iI s9)), (8, .int (iI s8)), (7, .int (iI s7)), (6, .int (iI s6)), (5, .int (iI s5)), (4, .int (iI s4)), (3, .ref q3), (2, .ref q2), (1, .ref q1), (0, .ref (obX ad))]) ok dL_agree_467 (by decide) rfl ?_
        refine z_lsub ok (lv' := [(11, .int (iI 0)), (10, .int (iI b)), (9, .int (iI s9)), (8, .int (iI s8)), (7, .int (iI s7)), (6, .int (iI s6)), (5, .int (iI s5)), (4, .int (iI s4)), (3, .ref q3), (2, .ref q2), (1, .ref q1), (0, .ref (obX ad))]) [0, 1, 2, 3, 4, 5, 6, 7, 8, 9, 10, 11] rfl ?_
        exact L469 _ 0 s8 s9 h1 (Int.le_refl 0) (by decide) (by rw [e8]; congr 2; omega) (by rw [e9]; congr 2; omega) h1I (Nat.lt_succ_self _)
  have L30 : ∀ (q1 q2 q3 : Nat) (fuel : Nat) (i : Int) (f1 f2 f3 : Int → Int) (s4 s5 s6 s7 : Int) (g : zHd), 0 ≤ i → i ≤ N 6 → (∀ b : Int, 0 ≤ b → b < 25 → f1 b = zS (cntf N b 0) i.toNat) → (∀ b : Int, 0 ≤ b → b < 25 → f2 b = zS (cntf N b 1) i.toNat) → (∀ b : Int, 0 ≤ b → b < 25 → f3 b = zS (cntf N b 2) i.toNat) → s4 = zS (fun p => pk N p 4) i.toNat → s5 = zS (fun p => pk N p 5) i.toNat → s6 = zS (fun p => pk N p 6) i.toNat → s7 = zS (fun p => zb (stk N p)) i.toNat → obI N g → (N 6 - i).toNat < fuel → zV X 3 75 ([aW Z q3 25 f3, aW Z q2 25 f2, aW Z q1 25 f1] ++ (obW Z ad N g ++ ([] : va_W))) 30 [(8, .int (iI i)), (7, .int (iI s7)), (6, .int (iI s6)), (5, .int (iI s5)), (4, .int (iI s4)), (3, .ref q3), (2, .ref q2), (1, .ref q1), (0, .ref (obX ad))] [] := by
    intro q1 q2 q3 fuel
    induction fuel with
    | zero => intro i f1 f2 f3 s4 s5 s6 s7 g i0 i1 r1 r2 r3 e4 e5 e6 e7 gI hfu; exact absurd hfu (Nat.not_lt_zero _)
    | succ fuel ih =>
      intro i f1 f2 f3 s4 s5 s6 s7 g i0 i1 r1 r2 r3 e4 e5 e6 e7 gI hfu
      refine z_iload ok dL_agree_30 rfl ?_
      refine z_aload_n ok dL_agree_32 rfl ?_
      refine z_iconst ok dL_agree_33 ?_
      refine o_count (v := N 6) ok gI hw (by decide) (v_c3) qm_RL_8 dL_agree_34 (by decide) ⟨by decide, by decide⟩ (Nat.le_of_ble_eq_true rfl) (fun h1 h1I => ?_)
      refine z_icmp_ge (tgt := 403) ok dL_agree_37 (by decide) (by omega) (by omega) (fun c37 => ?_) (fun c37 => ?_)
      · -- t
        have ei : i = N 6 := by omega
        subst ei
        refine z_iconst ok dL_agree_403 ?_
        refine z_istore (lv' := [(8, .int (iI 0)), (7, .int (iI s7)), (6, .int (iI s6)), (5, .int (iI s5)), (4, .int (iI s4)), (3, .ref q3), (2, .ref q2), (1, .ref q1), (0, .ref (obX ad))]) ok dL_agree_404 (by decide) rfl ?_
        refine z_iconst ok dL_agree_406 ?_
        refine z_istore (lv' := [(9, .int (iI 0)), (8, .int (iI 0)), (7, .int (iI s7)), (6, .int (iI s6)), (5, .int (iI s5)), (4, .int (iI s4)), (3, .ref q3), (2, .ref q2), (1, .ref q1), (0, .ref (obX ad))]) ok dL_agree_407 (by decide) rfl ?_
        refine z_iconst ok dL_agree_409 ?_
        refine z_istore (lv' := [(10, .int (iI 0)), (9, .int (iI 0)), (8, .int (iI 0)), (7, .int (iI s7)), (6, .int (iI s6)), (5, .int (iI s5)), (4, .int (iI s4)), (3, .ref q3), (2, .ref q2), (1, .ref q1), (0, .ref (obX ad))]) ok dL_agree_410 (by decide) rfl ?_
        refine z_lsub ok (lv' := [(10, .int (iI 0)), (9, .int (iI 0)), (8, .int (iI 0)), (7, .int (iI s7)), (6, .int (iI s6)), (5, .int (iI s5)), (4, .int (iI s4)), (3, .ref q3), (2, .ref q2), (1, .ref q1), (0, .ref (obX ad))]) [0, 1, 2, 3, 4, 5, 6, 7, 8, 9, 10] rfl ?_
        exact L412 q1 q2 q3 f1 f2 f3 s4 s5 s6 s7 r1 r2 r3 e4 e5 e6 e7 _ 0 0 0 h1 (Int.le_refl 0) (by omega) rfl rfl h1I (Nat.lt_succ_self _)
      · -- f
        have hq : 0 ≤ i ∧ i < N 6 := ⟨i0, by omega⟩
        have wpp := hw.2.2.2.2.2.2.2 i hq.1 hq.2
        have hP := hV.2.1 i hq.1 hq.2
        have hbf : isB N (pk N i 0) := wpp.1
        have hbt : isB N (pk N i 1) := wpp.2.1
        have hbb : isB N (pk N i 3) := wpp.2.2.2.1
        have hd0 := dist_le hw wpp.1 wpp.2.1
        have hd3 := dist_le hw wpp.2.2.2.1 wpp.2.1
        unfold PK at hP
        have hz := zb_rng (stk N i)
        have cc : (pk N i 2 = 2 ∧ frP N i = 0 ∧ fsV N i = -6) ∨ (pk N i 2 = 0 ∧ frP N i = -6 ∧ fsV N i = -6) ∨ (pk N i 2 = 0 ∧ 1 ≤ frP N i ∧ frP N i ≤ 16 ∧ dist N (pk N i 3) (pk N i 1) ≤ frP N i ∧ 0 ≤ fsV N i ∧ fsV N i < 4) ∨ (pk N i 2 = 1 ∧ frP N i = -6 ∧ fsV N i = -6) ∨ (pk N i 2 = 1 ∧ 1 ≤ frP N i ∧ frP N i ≤ 16 ∧ dist N (pk N i 3) (pk N i 1) ≤ frP N i ∧ 0 ≤ fsV N i ∧ fsV N i < 4) := by
          by_cases a : pk N i 2 = 2
          · exact Or.inl ⟨a, pk_at hw hq (hP.1 a).1, if_pos a⟩
          · have fv : fsV N i = fsN N i := if_neg a
            have e : frP N i = fr N (pk N i 1) (stg N i) := rfl
            rcases pk_sp hw hq (hP.2.1 a).2 with ⟨p1, p2⟩ | ⟨p1, p2, p3, p4, p5, -, -⟩
            · rcases (show pk N i 2 = 0 ∨ pk N i 2 = 1 by omega) with b | b
              · exact Or.inr (Or.inl ⟨b, by omega, by omega⟩)
              · exact Or.inr (Or.inr (Or.inr (Or.inl ⟨b, by omega, by omega⟩)))
            · rcases (show pk N i 2 = 0 ∨ pk N i 2 = 1 by omega) with b | b
              · exact Or.inr (Or.inr (Or.inl ⟨b, by omega, by omega, by omega, by omega, by omega⟩))
              · exact Or.inr (Or.inr (Or.inr (Or.inr ⟨b, by omega, by omega, by omega, by omega, by omega⟩)))
        rcases cc with c | c | c | c | c
        · -- state 2, 0
          have x0 : (0 : Int) = zb (pk N i 2 = 0) := (zb_f (by omega)).symm
          have x1 : (0 : Int) = zb (pk N i 2 = 1) := (zb_f (by omega)).symm
          have x2 : (1 : Int) = zb (pk N i 2 = 2) := (zb_t c.1).symm
          have hns : zb (stk N i) = 0 := zb_f (fun z => by have := (stk_rng z).2.2; omega)
          refine z_aload_n ok dL_agree_40 rfl ?_
          refine z_iload ok dL_agree_41 rfl ?_
          refine z_iconst ok dL_agree_43 ?_
          refine o_ofPacket (v := pk N i 2) ok h1I hw (by omega) (by decide) (v_pk (hq) (by decide)) qm_RL_14 dL_agree_44 (by decide) ⟨by decide, by decide⟩ (Nat.le_of_ble_eq_true rfl) (fun h2 h2I => ?_)
          refine z_istore (lv' := [(9, .int (iI (pk N i 2))), (8, .int (iI i)), (7, .int (iI s7)), (6, .int (iI s6)), (5, .int (iI s5)), (4, .int (iI s4)), (3, .ref q3), (2, .ref q2), (1, .ref q1), (0, .ref (obX ad))]) ok dL_agree_47 (by decide) rfl ?_
          refine z_aload_n ok dL_agree_49 rfl ?_
          refine z_iload ok dL_agree_50 rfl ?_
          refine z_iconst ok dL_agree_52 ?_
          refine o_ofPacket (v := pk N i 3) ok h2I hw (by omega) (by decide) (v_pk (hq) (by decide)) qm_RL_14 dL_agree_53 (by decide) ⟨by decide, by decide⟩ (Nat.le_of_ble_eq_true rfl) (fun h3 h3I => ?_)
          refine z_istore (lv' := [(10, .int (iI (pk N i 3))), (9, .int (iI (pk N i 2))), (8, .int (iI i)), (7, .int (iI s7)), (6, .int (iI s6)), (5, .int (iI s5)), (4, .int (iI s4)), (3, .ref q3), (2, .ref q2), (1, .ref q1), (0, .ref (obX ad))]) ok dL_agree_56 (by decide) rfl ?_
          refine z_aload_n ok dL_agree_58 rfl ?_
          refine z_iload ok dL_agree_59 rfl ?_
          refine z_dup2 ok dL_agree_61 rfl rfl ?_
          refine z_iale (f := f1) (v := f1 (pk N i 3)) ok 2 rfl (rfl) dL_agree_62 (by omega) (by decide) ?_
          refine z_iload ok dL_agree_63 rfl ?_
          refine z_if_ne (tgt := 72) ok dL_agree_65 (by decide) (by omega) (fun c65 => ?_) (fun c => (by omega : False).elim)
          refine z_iconst ok dL_agree_72 ?_
          refine z_iadd ok dL_agree_73 ?_
          refine z_iast (f := f1) (v := (f1 (pk N i 3)) + 0) (ws' := [aW Z q3 25 f3, aW Z q2 25 f2, aW Z q1 25 (zu f1 (pk N i 3) ((f1 (pk N i 3)) + 0))] ++ (obW Z ad N h3 ++ ([] : va_W))) ok 2 rfl dL_agree_74 (by omega) (by decide) rfl ?_
          refine z_aload_n ok dL_agree_75 rfl ?_
          refine z_iload ok dL_agree_76 rfl ?_
          refine z_dup2 ok dL_agree_78 rfl rfl ?_
          refine z_iale (f := f2) (v := f2 (pk N i 3)) ok 1 rfl (rfl) dL_agree_79 (by omega) (by decide) ?_
          refine z_iload ok dL_agree_80 rfl ?_
          refine z_iconst ok dL_agree_82 ?_
          refine z_icmp_ne (tgt := 90) ok dL_agree_83 (by decide) (by omega) (by decide) (fun c83 => ?_) (fun c => (by omega : False).elim)
          refine z_iconst ok dL_agree_90 ?_
          refine z_iadd ok dL_agree_91 ?_
          refine z_iast (f := f2) (v := (f2 (pk N i 3)) + 0) (ws' := [aW Z q3 25 f3, aW Z q2 25 (zu f2 (pk N i 3) ((f2 (pk N i 3)) + 0)), aW Z q1 25 (zu f1 (pk N i 3) ((f1 (pk N i 3)) + 0))] ++ (obW Z ad N h3 ++ ([] : va_W))) ok 1 rfl dL_agree_92 (by omega) (by decide) rfl ?_
          refine z_aload_n ok dL_agree_93 rfl ?_
          refine z_iload ok dL_agree_94 rfl ?_
          refine z_dup2 ok dL_agree_96 rfl rfl ?_
          refine z_iale (f := f3) (v := f3 (pk N i 3)) ok 0 rfl (rfl) dL_agree_97 (by omega) (by decide) ?_
          refine z_iload ok dL_agree_98 rfl ?_
          refine z_iconst ok dL_agree_100 ?_
          refine z_icmp_ne (tgt := 108) ok dL_agree_101 (by decide) (by omega) (by decide) (fun c => (by omega : False).elim) (fun c101 => ?_)
          refine z_iconst ok dL_agree_104 ?_
          refine z_goto (tgt := 109) ok dL_agree_105 (by decide) ?_
          refine z_iadd ok dL_agree_109 ?_
          refine z_iast (f := f3) (v := (f3 (pk N i 3)) + 1) (ws' := [aW Z q3 25 (zu f3 (pk N i 3) ((f3 (pk N i 3)) + 1)), aW Z q2 25 (zu f2 (pk N i 3) ((f2 (pk N i 3)) + 0)), aW Z q1 25 (zu f1 (pk N i 3) ((f1 (pk N i 3)) + 0))] ++ (obW Z ad N h3 ++ ([] : va_W))) ok 0 rfl dL_agree_110 (by omega) (by decide) rfl ?_
          refine z_iload ok dL_agree_111 rfl ?_
          refine z_aload_n ok dL_agree_113 rfl ?_
          refine z_iload ok dL_agree_114 rfl ?_
          refine z_iconst ok dL_agree_116 ?_
          refine o_ofPacket (v := pk N i 4) ok h3I hw (by omega) (by decide) (v_pk (hq) (by decide)) qm_RL_14 dL_agree_117 (by decide) ⟨by decide, by decide⟩ (Nat.le_of_ble_eq_true rfl) (fun h4 h4I => ?_)
          refine z_iadd ok dL_agree_120 ?_
          refine z_istore (lv' := [(4, .int (iI (s4 + (pk N i 4)))), (10, .int (iI (pk N i 3))), (9, .int (iI (pk N i 2))), (8, .int (iI i)), (7, .int (iI s7)), (6, .int (iI s6)), (5, .int (iI s5)), (3, .ref q3), (2, .ref q2), (1, .ref q1), (0, .ref (obX ad))]) ok dL_agree_121 (by decide) rfl ?_
          refine z_iload ok dL_agree_123 rfl ?_
          refine z_aload_n ok dL_agree_125 rfl ?_
          refine z_iload ok dL_agree_126 rfl ?_
          refine z_iconst ok dL_agree_128 ?_
          refine o_ofPacket (v := pk N i 5) ok h4I hw (by omega) (by decide) (v_pk (hq) (by decide)) qm_RL_14 dL_agree_129 (by decide) ⟨by decide, by decide⟩ (Nat.le_of_ble_eq_true rfl) (fun h5 h5I => ?_)
          refine z_iadd ok dL_agree_132 ?_
          refine z_istore (lv' := [(5, .int (iI (s5 + (pk N i 5)))), (4, .int (iI (s4 + (pk N i 4)))), (10, .int (iI (pk N i 3))), (9, .int (iI (pk N i 2))), (8, .int (iI i)), (7, .int (iI s7)), (6, .int (iI s6)), (3, .ref q3), (2, .ref q2), (1, .ref q1), (0, .ref (obX ad))]) ok dL_agree_133 (by decide) rfl ?_
          refine z_iload ok dL_agree_135 rfl ?_
          refine z_aload_n ok dL_agree_137 rfl ?_
          refine z_iload ok dL_agree_138 rfl ?_
          refine z_bipush ok dL_agree_140 (by decide) ?_
          refine o_ofPacket (v := pk N i 6) ok h5I hw (by omega) (by decide) (v_pk (hq) (by decide)) qm_RL_14 dL_agree_142 (by decide) ⟨by decide, by decide⟩ (Nat.le_of_ble_eq_true rfl) (fun h6 h6I => ?_)
          refine z_iadd ok dL_agree_145 ?_
          refine z_istore (lv' := [(6, .int (iI (s6 + (pk N i 6)))), (5, .int (iI (s5 + (pk N i 5)))), (4, .int (iI (s4 + (pk N i 4)))), (10, .int (iI (pk N i 3))), (9, .int (iI (pk N i 2))), (8, .int (iI i)), (7, .int (iI s7)), (3, .ref q3), (2, .ref q2), (1, .ref q1), (0, .ref (obX ad))]) ok dL_agree_146 (by decide) rfl ?_
          refine z_iload ok dL_agree_148 rfl ?_
          refine z_aload_n ok dL_agree_150 rfl ?_
          refine z_iload ok dL_agree_151 rfl ?_
          refine z_bipush ok dL_agree_153 (by decide) ?_
          refine o_ofPacket (v := zb (stk N i)) ok h6I hw (by omega) (by decide) (v_sk (hq)) qm_RL_14 dL_agree_155 (by decide) ⟨by decide, by decide⟩ (Nat.le_of_ble_eq_true rfl) (fun h7 h7I => ?_)
          refine z_iadd ok dL_agree_158 ?_
          refine z_istore (lv' := [(7, .int (iI (s7 + (zb (stk N i))))), (6, .int (iI (s6 + (pk N i 6)))), (5, .int (iI (s5 + (pk N i 5)))), (4, .int (iI (s4 + (pk N i 4)))), (10, .int (iI (pk N i 3))), (9, .int (iI (pk N i 2))), (8, .int (iI i)), (3, .ref q3), (2, .ref q2), (1, .ref q1), (0, .ref (obX ad))]) ok dL_agree_159 (by decide) rfl ?_
          refine z_aload_n ok dL_agree_161 rfl ?_
          refine z_iload ok dL_agree_162 rfl ?_
          refine z_bipush ok dL_agree_164 (by decide) ?_
          refine o_ofPacket (v := frP N i) ok h7I hw (by omega) (by decide) (v_fr (hq)) qm_RL_14 dL_agree_166 (by decide) ⟨by decide, by decide⟩ (Nat.le_of_ble_eq_true rfl) (fun h8 h8I => ?_)
          refine z_istore (lv' := [(11, .int (iI (frP N i))), (7, .int (iI (s7 + (zb (stk N i))))), (6, .int (iI (s6 + (pk N i 6)))), (5, .int (iI (s5 + (pk N i 5)))), (4, .int (iI (s4 + (pk N i 4)))), (10, .int (iI (pk N i 3))), (9, .int (iI (pk N i 2))), (8, .int (iI i)), (3, .ref q3), (2, .ref q2), (1, .ref q1), (0, .ref (obX ad))]) ok dL_agree_169 (by decide) rfl ?_
          refine z_aload_n ok dL_agree_171 rfl ?_
          refine z_iload ok dL_agree_172 rfl ?_
          refine z_iconst ok dL_agree_174 ?_
          refine o_ofPacket (v := pk N i 1) ok h8I hw (by omega) (by decide) (v_pk (hq) (by decide)) qm_RL_14 dL_agree_175 (by decide) ⟨by decide, by decide⟩ (Nat.le_of_ble_eq_true rfl) (fun h9 h9I => ?_)
          refine z_istore (lv' := [(12, .int (iI (pk N i 1))), (11, .int (iI (frP N i))), (7, .int (iI (s7 + (zb (stk N i))))), (6, .int (iI (s6 + (pk N i 6)))), (5, .int (iI (s5 + (pk N i 5)))), (4, .int (iI (s4 + (pk N i 4)))), (10, .int (iI (pk N i 3))), (9, .int (iI (pk N i 2))), (8, .int (iI i)), (3, .ref q3), (2, .ref q2), (1, .ref q1), (0, .ref (obX ad))]) ok dL_agree_178 (by decide) rfl ?_
          refine z_iload ok dL_agree_180 rfl ?_
          refine z_iconst ok dL_agree_182 ?_
          refine z_icmp_ne (tgt := 233) ok dL_agree_183 (by decide) (by omega) (by decide) (fun c => (by omega : False).elim) (fun c183 => ?_)
          refine z_iload ok dL_agree_186 rfl ?_
          refine z_iload ok dL_agree_188 rfl ?_
          refine z_icmp_ne (tgt := 258) ok dL_agree_190 (by decide) (by omega) (by omega) (fun c => (by omega : False).elim) (fun c190 => ?_)
          refine z_iload ok dL_agree_193 rfl ?_
          refine z_if_ne (tgt := 258) ok dL_agree_195 (by decide) (by omega) (fun c => (by omega : False).elim) (fun c195 => ?_)
          refine z_aload_n ok dL_agree_198 rfl ?_
          refine z_iload ok dL_agree_199 rfl ?_
          refine z_bipush ok dL_agree_201 (by decide) ?_
          refine o_ofPacket (v := pk N i 8) ok h9I hw (by omega) (by decide) (v_pk (hq) (by decide)) qm_RL_14 dL_agree_203 (by decide) ⟨by decide, by decide⟩ (Nat.le_of_ble_eq_true rfl) (fun h10 h10I => ?_)
          refine z_aload_n ok dL_agree_206 rfl ?_
          refine z_iload ok dL_agree_207 rfl ?_
          refine z_bipush ok dL_agree_209 (by decide) ?_
          refine o_ofPacket (v := pk N i 7) ok h10I hw (by omega) (by decide) (v_pk (hq) (by decide)) qm_RL_14 dL_agree_211 (by decide) ⟨by decide, by decide⟩ (Nat.le_of_ble_eq_true rfl) (fun h11 h11I => ?_)
          refine z_icmp_lt (tgt := 258) ok dL_agree_214 (by decide) (by omega) (by omega) (fun c => (by omega : False).elim) (fun c214 => ?_)
          refine z_aload_n ok dL_agree_217 rfl ?_
          refine z_iload ok dL_agree_218 rfl ?_
          refine z_bipush ok dL_agree_220 (by decide) ?_
          refine o_ofPacket (v := fsV N i) ok h11I hw (by omega) (by decide) (v_fs (hq)) qm_RL_14 dL_agree_222 (by decide) ⟨by decide, by decide⟩ (Nat.le_of_ble_eq_true rfl) (fun h12 h12I => ?_)
          refine z_bipush ok dL_agree_225 (by decide) ?_
          refine z_icmp_eq (tgt := 260) ok dL_agree_227 (by decide) (by omega) (by decide) (fun c227 => ?_) (fun c => (by omega : False).elim)
          refine z_iload ok dL_agree_260 rfl ?_
          refine z_if_ne (tgt := 287) ok dL_agree_262 (by decide) (by omega) (fun c262 => ?_) (fun c => (by omega : False).elim)
          refine z_iload ok dL_agree_287 rfl ?_
          refine z_if_le (tgt := 316) ok dL_agree_289 (by decide) (by omega) (fun c289 => ?_) (fun c => (by omega : False).elim)
          refine z_iload ok dL_agree_316 rfl ?_
          refine z_if_ge (tgt := 334) ok dL_agree_318 (by decide) (by omega) (fun c318 => ?_) (fun c => (by omega : False).elim)
          refine z_iload ok dL_agree_334 rfl ?_
          refine z_iconst ok dL_agree_336 ?_
          refine z_icmp_eq (tgt := 353) ok dL_agree_337 (by decide) (by omega) (by decide) (fun c => (by omega : False).elim) (fun c337 => ?_)
          refine z_aload_n ok dL_agree_340 rfl ?_
          refine z_iload ok dL_agree_341 rfl ?_
          refine z_bipush ok dL_agree_343 (by decide) ?_
          refine o_ofPacket (v := zb (stk N i)) ok h12I hw (by omega) (by decide) (v_sk (hq)) qm_RL_14 dL_agree_345 (by decide) ⟨by decide, by decide⟩ (Nat.le_of_ble_eq_true rfl) (fun h13 h13I => ?_)
          refine z_if_eq (tgt := 353) ok dL_agree_348 (by decide) (by omega) (fun c348 => ?_) (fun c => (by omega : False).elim)
          refine z_aload_n ok dL_agree_353 rfl ?_
          refine z_aload_n ok dL_agree_354 rfl ?_
          refine z_iload ok dL_agree_355 rfl ?_
          refine z_iconst ok dL_agree_357 ?_
          refine o_ofPacket (v := pk N i 0) ok h13I hw (by omega) (by decide) (v_pk (hq) (by decide)) qm_RL_14 dL_agree_358 (by decide) ⟨by decide, by decide⟩ (Nat.le_of_ble_eq_true rfl) (fun h14 h14I => ?_)
          refine z_iload ok dL_agree_361 rfl ?_
          refine l_apart (v := dist N (pk N i 0) (pk N i 1)) ok h14I hw (by assumption) (by assumption) (rfl) qm_RL_18 dL_agree_363 (by decide) ⟨by decide, by decide⟩ (Nat.le_of_ble_eq_true rfl) (fun h15 h15I => ?_)
          refine z_aload_n ok dL_agree_366 rfl ?_
          refine z_iload ok dL_agree_367 rfl ?_
          refine z_iload ok dL_agree_369 rfl ?_
          refine l_apart (v := dist N (pk N i 3) (pk N i 1)) ok h15I hw (by assumption) (by assumption) (rfl) qm_RL_18 dL_agree_371 (by decide) ⟨by decide, by decide⟩ (Nat.le_of_ble_eq_true rfl) (fun h16 h16I => ?_)
          refine z_isub ok dL_agree_374 ?_
          refine z_aload_n ok dL_agree_375 rfl ?_
          refine z_iload ok dL_agree_376 rfl ?_
          refine z_iconst ok dL_agree_378 ?_
          refine o_ofPacket (v := pk N i 4) ok h16I hw (by omega) (by decide) (v_pk (hq) (by decide)) qm_RL_14 dL_agree_379 (by decide) ⟨by decide, by decide⟩ (Nat.le_of_ble_eq_true rfl) (fun h17 h17I => ?_)
          refine z_iconst ok dL_agree_382 ?_
          refine z_aload_n ok dL_agree_383 rfl ?_
          refine z_iload ok dL_agree_384 rfl ?_
          refine z_iconst ok dL_agree_386 ?_
          refine o_ofPacket (v := pk N i 5) ok h17I hw (by omega) (by decide) (v_pk (hq) (by decide)) qm_RL_14 dL_agree_387 (by decide) ⟨by decide, by decide⟩ (Nat.le_of_ble_eq_true rfl) (fun h18 h18I => ?_)
          refine z_imul ok dL_agree_390 ?_
          refine z_isub ok dL_agree_391 ?_
          refine z_icmp_eq (tgt := 397) ok dL_agree_392 (by decide) (by omega) (by omega) (fun c392 => ?_) (fun c => (by omega : False).elim)
          refine z_iinc (lv' := [(8, .int (iI (i + 1))), (12, .int (iI (pk N i 1))), (11, .int (iI (frP N i))), (7, .int (iI (s7 + (zb (stk N i))))), (6, .int (iI (s6 + (pk N i 6)))), (5, .int (iI (s5 + (pk N i 5)))), (4, .int (iI (s4 + (pk N i 4)))), (10, .int (iI (pk N i 3))), (9, .int (iI (pk N i 2))), (3, .ref q3), (2, .ref q2), (1, .ref q1), (0, .ref (obX ad))]) ok dL_agree_397 8 rfl (by decide) rfl ?_
          refine z_goto (tgt := 30) ok dL_agree_400 (by decide) ?_
          refine z_lsub ok (lv' := [(8, .int (iI (i + 1))), (7, .int (iI (s7 + (zb (stk N i))))), (6, .int (iI (s6 + (pk N i 6)))), (5, .int (iI (s5 + (pk N i 5)))), (4, .int (iI (s4 + (pk N i 4)))), (3, .ref q3), (2, .ref q2), (1, .ref q1), (0, .ref (obX ad))]) [0, 3, 4, 5, 6, 9, 10, 11, 12] rfl ?_
          exact ih (i + 1) (zu f1 (pk N i 3) ((f1 (pk N i 3)) + 0)) (zu f2 (pk N i 3) ((f2 (pk N i 3)) + 0)) (zu f3 (pk N i 3) ((f3 (pk N i 3)) + 1)) (s4 + (pk N i 4)) (s5 + (pk N i 5)) (s6 + (pk N i 6)) (s7 + (zb (stk N i))) h18 (by omega) (by omega) (cnt_inc i0 r1 x0) (cnt_inc i0 r2 x1) (cnt_inc i0 r3 x2) (by rw [zS_s i0, ← e4]) (by rw [zS_s i0, ← e5]) (by rw [zS_s i0, ← e6]) (by rw [zS_s i0, ← e7]) h18I (by omega)
        · -- state 0, 0
          have x0 : (1 : Int) = zb (pk N i 2 = 0) := (zb_t c.1).symm
          have x1 : (0 : Int) = zb (pk N i 2 = 1) := (zb_f (by omega)).symm
          have x2 : (0 : Int) = zb (pk N i 2 = 2) := (zb_f (by omega)).symm
          have hns : zb (stk N i) = 0 := zb_f (fun z => by have := (stk_rng z).2.2; omega)
          refine z_aload_n ok dL_agree_40 rfl ?_
          refine z_iload ok dL_agree_41 rfl ?_
          refine z_iconst ok dL_agree_43 ?_
          refine o_ofPacket (v := pk N i 2) ok h1I hw (by omega) (by decide) (v_pk (hq) (by decide)) qm_RL_14 dL_agree_44 (by decide) ⟨by decide, by decide⟩ (Nat.le_of_ble_eq_true rfl) (fun h19 h19I => ?_)
          refine z_istore (lv' := [(9, .int (iI (pk N i 2))), (8, .int (iI i)), (7, .int (iI s7)), (6, .int (iI s6)), (5, .int (iI s5)), (4, .int (iI s4)), (3, .ref q3), (2, .ref q2), (1, .ref q1), (0, .ref (obX ad))]) ok dL_agree_47 (by decide) rfl ?_
          refine z_aload_n ok dL_agree_49 rfl ?_
          refine z_iload ok dL_agree_50 rfl ?_
          refine z_iconst ok dL_agree_52 ?_
          refine o_ofPacket (v := pk N i 3) ok h19I hw (by omega) (by decide) (v_pk (hq) (by decide)) qm_RL_14 dL_agree_53 (by decide) ⟨by decide, by decide⟩ (Nat.le_of_ble_eq_true rfl) (fun h20 h20I => ?_)
          refine z_istore (lv' := [(10, .int (iI (pk N i 3))), (9, .int (iI (pk N i 2))), (8, .int (iI i)), (7, .int (iI s7)), (6, .int (iI s6)), (5, .int (iI s5)), (4, .int (iI s4)), (3, .ref q3), (2, .ref q2), (1, .ref q1), (0, .ref (obX ad))]) ok dL_agree_56 (by decide) rfl ?_
          refine z_aload_n ok dL_agree_58 rfl ?_
          refine z_iload ok dL_agree_59 rfl ?_
          refine z_dup2 ok dL_agree_61 rfl rfl ?_
          refine z_iale (f := f1) (v := f1 (pk N i 3)) ok 2 rfl (rfl) dL_agree_62 (by omega) (by decide) ?_
          refine z_iload ok dL_agree_63 rfl ?_
          refine z_if_ne (tgt := 72) ok dL_agree_65 (by decide) (by omega) (fun c => (by omega : False).elim) (fun c65 => ?_)
          refine z_iconst ok dL_agree_68 ?_
          refine z_goto (tgt := 73) ok dL_agree_69 (by decide) ?_
          refine z_iadd ok dL_agree_73 ?_
          refine z_iast (f := f1) (v := (f1 (pk N i 3)) + 1) (ws' := [aW Z q3 25 f3, aW Z q2 25 f2, aW Z q1 25 (zu f1 (pk N i 3) ((f1 (pk N i 3)) + 1))] ++ (obW Z ad N h20 ++ ([] : va_W))) ok 2 rfl dL_agree_74 (by omega) (by decide) rfl ?_
          refine z_aload_n ok dL_agree_75 rfl ?_
          refine z_iload ok dL_agree_76 rfl ?_
          refine z_dup2 ok dL_agree_78 rfl rfl ?_
          refine z_iale (f := f2) (v := f2 (pk N i 3)) ok 1 rfl (rfl) dL_agree_79 (by omega) (by decide) ?_
          refine z_iload ok dL_agree_80 rfl ?_
          refine z_iconst ok dL_agree_82 ?_
          refine z_icmp_ne (tgt := 90) ok dL_agree_83 (by decide) (by omega) (by decide) (fun c83 => ?_) (fun c => (by omega : False).elim)
          refine z_iconst ok dL_agree_90 ?_
          refine z_iadd ok dL_agree_91 ?_
          refine z_iast (f := f2) (v := (f2 (pk N i 3)) + 0) (ws' := [aW Z q3 25 f3, aW Z q2 25 (zu f2 (pk N i 3) ((f2 (pk N i 3)) + 0)), aW Z q1 25 (zu f1 (pk N i 3) ((f1 (pk N i 3)) + 1))] ++ (obW Z ad N h20 ++ ([] : va_W))) ok 1 rfl dL_agree_92 (by omega) (by decide) rfl ?_
          refine z_aload_n ok dL_agree_93 rfl ?_
          refine z_iload ok dL_agree_94 rfl ?_
          refine z_dup2 ok dL_agree_96 rfl rfl ?_
          refine z_iale (f := f3) (v := f3 (pk N i 3)) ok 0 rfl (rfl) dL_agree_97 (by omega) (by decide) ?_
          refine z_iload ok dL_agree_98 rfl ?_
          refine z_iconst ok dL_agree_100 ?_
          refine z_icmp_ne (tgt := 108) ok dL_agree_101 (by decide) (by omega) (by decide) (fun c101 => ?_) (fun c => (by omega : False).elim)
          refine z_iconst ok dL_agree_108 ?_
          refine z_iadd ok dL_agree_109 ?_
          refine z_iast (f := f3) (v := (f3 (pk N i 3)) + 0) (ws' := [aW Z q3 25 (zu f3 (pk N i 3) ((f3 (pk N i 3)) + 0)), aW Z q2 25 (zu f2 (pk N i 3) ((f2 (pk N i 3)) + 0)), aW Z q1 25 (zu f1 (pk N i 3) ((f1 (pk N i 3)) + 1))] ++ (obW Z ad N h20 ++ ([] : va_W))) ok 0 rfl dL_agree_110 (by omega) (by decide) rfl ?_
          refine z_iload ok dL_agree_111 rfl ?_
          refine z_aload_n ok dL_agree_113 rfl ?_
          refine z_iload ok dL_agree_114 rfl ?_
          refine z_iconst ok dL_agree_116 ?_
          refine o_ofPacket (v := pk N i 4) ok h20I hw (by omega) (by decide) (v_pk (hq) (by decide)) qm_RL_14 dL_agree_117 (by decide) ⟨by decide, by decide⟩ (Nat.le_of_ble_eq_true rfl) (fun h21 h21I => ?_)
          refine z_iadd ok dL_agree_120 ?_
          refine z_istore (lv' := [(4, .int (iI (s4 + (pk N i 4)))), (10, .int (iI (pk N i 3))), (9, .int (iI (pk N i 2))), (8, .int (iI i)), (7, .int (iI s7)), (6, .int (iI s6)), (5, .int (iI s5)), (3, .ref q3), (2, .ref q2), (1, .ref q1), (0, .ref (obX ad))]) ok dL_agree_121 (by decide) rfl ?_
          refine z_iload ok dL_agree_123 rfl ?_
          refine z_aload_n ok dL_agree_125 rfl ?_
          refine z_iload ok dL_agree_126 rfl ?_
          refine z_iconst ok dL_agree_128 ?_
          refine o_ofPacket (v := pk N i 5) ok h21I hw (by omega) (by decide) (v_pk (hq) (by decide)) qm_RL_14 dL_agree_129 (by decide) ⟨by decide, by decide⟩ (Nat.le_of_ble_eq_true rfl) (fun h22 h22I => ?_)
          refine z_iadd ok dL_agree_132 ?_
          refine z_istore (lv' := [(5, .int (iI (s5 + (pk N i 5)))), (4, .int (iI (s4 + (pk N i 4)))), (10, .int (iI (pk N i 3))), (9, .int (iI (pk N i 2))), (8, .int (iI i)), (7, .int (iI s7)), (6, .int (iI s6)), (3, .ref q3), (2, .ref q2), (1, .ref q1), (0, .ref (obX ad))]) ok dL_agree_133 (by decide) rfl ?_
          refine z_iload ok dL_agree_135 rfl ?_
          refine z_aload_n ok dL_agree_137 rfl ?_
          refine z_iload ok dL_agree_138 rfl ?_
          refine z_bipush ok dL_agree_140 (by decide) ?_
          refine o_ofPacket (v := pk N i 6) ok h22I hw (by omega) (by decide) (v_pk (hq) (by decide)) qm_RL_14 dL_agree_142 (by decide) ⟨by decide, by decide⟩ (Nat.le_of_ble_eq_true rfl) (fun h23 h23I => ?_)
          refine z_iadd ok dL_agree_145 ?_
          refine z_istore (lv' := [(6, .int (iI (s6 + (pk N i 6)))), (5, .int (iI (s5 + (pk N i 5)))), (4, .int (iI (s4 + (pk N i 4)))), (10, .int (iI (pk N i 3))), (9, .int (iI (pk N i 2))), (8, .int (iI i)), (7, .int (iI s7)), (3, .ref q3), (2, .ref q2), (1, .ref q1), (0, .ref (obX ad))]) ok dL_agree_146 (by decide) rfl ?_
          refine z_iload ok dL_agree_148 rfl ?_
          refine z_aload_n ok dL_agree_150 rfl ?_
          refine z_iload ok dL_agree_151 rfl ?_
          refine z_bipush ok dL_agree_153 (by decide) ?_
          refine o_ofPacket (v := zb (stk N i)) ok h23I hw (by omega) (by decide) (v_sk (hq)) qm_RL_14 dL_agree_155 (by decide) ⟨by decide, by decide⟩ (Nat.le_of_ble_eq_true rfl) (fun h24 h24I => ?_)
          refine z_iadd ok dL_agree_158 ?_
          refine z_istore (lv' := [(7, .int (iI (s7 + (zb (stk N i))))), (6, .int (iI (s6 + (pk N i 6)))), (5, .int (iI (s5 + (pk N i 5)))), (4, .int (iI (s4 + (pk N i 4)))), (10, .int (iI (pk N i 3))), (9, .int (iI (pk N i 2))), (8, .int (iI i)), (3, .ref q3), (2, .ref q2), (1, .ref q1), (0, .ref (obX ad))]) ok dL_agree_159 (by decide) rfl ?_
          refine z_aload_n ok dL_agree_161 rfl ?_
          refine z_iload ok dL_agree_162 rfl ?_
          refine z_bipush ok dL_agree_164 (by decide) ?_
          refine o_ofPacket (v := frP N i) ok h24I hw (by omega) (by decide) (v_fr (hq)) qm_RL_14 dL_agree_166 (by decide) ⟨by decide, by decide⟩ (Nat.le_of_ble_eq_true rfl) (fun h25 h25I => ?_)
          refine z_istore (lv' := [(11, .int (iI (frP N i))), (7, .int (iI (s7 + (zb (stk N i))))), (6, .int (iI (s6 + (pk N i 6)))), (5, .int (iI (s5 + (pk N i 5)))), (4, .int (iI (s4 + (pk N i 4)))), (10, .int (iI (pk N i 3))), (9, .int (iI (pk N i 2))), (8, .int (iI i)), (3, .ref q3), (2, .ref q2), (1, .ref q1), (0, .ref (obX ad))]) ok dL_agree_169 (by decide) rfl ?_
          refine z_aload_n ok dL_agree_171 rfl ?_
          refine z_iload ok dL_agree_172 rfl ?_
          refine z_iconst ok dL_agree_174 ?_
          refine o_ofPacket (v := pk N i 1) ok h25I hw (by omega) (by decide) (v_pk (hq) (by decide)) qm_RL_14 dL_agree_175 (by decide) ⟨by decide, by decide⟩ (Nat.le_of_ble_eq_true rfl) (fun h26 h26I => ?_)
          refine z_istore (lv' := [(12, .int (iI (pk N i 1))), (11, .int (iI (frP N i))), (7, .int (iI (s7 + (zb (stk N i))))), (6, .int (iI (s6 + (pk N i 6)))), (5, .int (iI (s5 + (pk N i 5)))), (4, .int (iI (s4 + (pk N i 4)))), (10, .int (iI (pk N i 3))), (9, .int (iI (pk N i 2))), (8, .int (iI i)), (3, .ref q3), (2, .ref q2), (1, .ref q1), (0, .ref (obX ad))]) ok dL_agree_178 (by decide) rfl ?_
          refine z_iload ok dL_agree_180 rfl ?_
          refine z_iconst ok dL_agree_182 ?_
          refine z_icmp_ne (tgt := 233) ok dL_agree_183 (by decide) (by omega) (by decide) (fun c183 => ?_) (fun c => (by omega : False).elim)
          refine z_aload_n ok dL_agree_233 rfl ?_
          refine z_iload ok dL_agree_234 rfl ?_
          refine z_bipush ok dL_agree_236 (by decide) ?_
          refine o_ofPacket (v := pk N i 8) ok h26I hw (by omega) (by decide) (v_pk (hq) (by decide)) qm_RL_14 dL_agree_238 (by decide) ⟨by decide, by decide⟩ (Nat.le_of_ble_eq_true rfl) (fun h27 h27I => ?_)
          refine z_bipush ok dL_agree_241 (by decide) ?_
          refine z_icmp_ne (tgt := 258) ok dL_agree_243 (by decide) (by omega) (by decide) (fun c => (by omega : False).elim) (fun c243 => ?_)
          refine z_iload ok dL_agree_246 rfl ?_
          refine z_iload ok dL_agree_248 rfl ?_
          refine z_icmp_eq (tgt := 258) ok dL_agree_250 (by decide) (by omega) (by omega) (fun c => (by omega : False).elim) (fun c250 => ?_)
          refine z_iload ok dL_agree_253 rfl ?_
          refine z_if_ne (tgt := 260) ok dL_agree_255 (by decide) (by omega) (fun c255 => ?_) (fun c => (by omega : False).elim)
          refine z_iload ok dL_agree_260 rfl ?_
          refine z_if_ne (tgt := 287) ok dL_agree_262 (by decide) (by omega) (fun c => (by omega : False).elim) (fun c262 => ?_)
          refine z_iload ok dL_agree_265 rfl ?_
          refine z_aload_n ok dL_agree_267 rfl ?_
          refine z_iload ok dL_agree_268 rfl ?_
          refine z_iconst ok dL_agree_270 ?_
          refine o_ofPacket (v := pk N i 0) ok h27I hw (by omega) (by decide) (v_pk (hq) (by decide)) qm_RL_14 dL_agree_271 (by decide) ⟨by decide, by decide⟩ (Nat.le_of_ble_eq_true rfl) (fun h28 h28I => ?_)
          refine z_icmp_ne (tgt := 351) ok dL_agree_274 (by decide) (by omega) (by omega) (fun c => (by omega : False).elim) (fun c274 => ?_)
          refine z_aload_n ok dL_agree_277 rfl ?_
          refine z_iload ok dL_agree_278 rfl ?_
          refine z_iconst ok dL_agree_280 ?_
          refine o_ofPacket (v := pk N i 4) ok h28I hw (by omega) (by decide) (v_pk (hq) (by decide)) qm_RL_14 dL_agree_281 (by decide) ⟨by decide, by decide⟩ (Nat.le_of_ble_eq_true rfl) (fun h29 h29I => ?_)
          refine z_if_ne (tgt := 351) ok dL_agree_284 (by decide) (by omega) (fun c => (by omega : False).elim) (fun c284 => ?_)
          refine z_iload ok dL_agree_287 rfl ?_
          refine z_if_le (tgt := 316) ok dL_agree_289 (by decide) (by omega) (fun c289 => ?_) (fun c => (by omega : False).elim)
          refine z_iload ok dL_agree_316 rfl ?_
          refine z_if_ge (tgt := 334) ok dL_agree_318 (by decide) (by omega) (fun c => (by omega : False).elim) (fun c318 => ?_)
          refine z_aload_n ok dL_agree_321 rfl ?_
          refine z_iload ok dL_agree_322 rfl ?_
          refine z_bipush ok dL_agree_324 (by decide) ?_
          refine o_ofPacket (v := fsV N i) ok h29I hw (by omega) (by decide) (v_fs (hq)) qm_RL_14 dL_agree_326 (by decide) ⟨by decide, by decide⟩ (Nat.le_of_ble_eq_true rfl) (fun h30 h30I => ?_)
          refine z_bipush ok dL_agree_329 (by decide) ?_
          refine z_icmp_ne (tgt := 351) ok dL_agree_331 (by decide) (by omega) (by decide) (fun c => (by omega : False).elim) (fun c331 => ?_)
          refine z_iload ok dL_agree_334 rfl ?_
          refine z_iconst ok dL_agree_336 ?_
          refine z_icmp_eq (tgt := 353) ok dL_agree_337 (by decide) (by omega) (by decide) (fun c => (by omega : False).elim) (fun c337 => ?_)
          refine z_aload_n ok dL_agree_340 rfl ?_
          refine z_iload ok dL_agree_341 rfl ?_
          refine z_bipush ok dL_agree_343 (by decide) ?_
          refine o_ofPacket (v := zb (stk N i)) ok h30I hw (by omega) (by decide) (v_sk (hq)) qm_RL_14 dL_agree_345 (by decide) ⟨by decide, by decide⟩ (Nat.le_of_ble_eq_true rfl) (fun h31 h31I => ?_)
          refine z_if_eq (tgt := 353) ok dL_agree_348 (by decide) (by omega) (fun c348 => ?_) (fun c => (by omega : False).elim)
          refine z_aload_n ok dL_agree_353 rfl ?_
          refine z_aload_n ok dL_agree_354 rfl ?_
          refine z_iload ok dL_agree_355 rfl ?_
          refine z_iconst ok dL_agree_357 ?_
          refine o_ofPacket (v := pk N i 0) ok h31I hw (by omega) (by decide) (v_pk (hq) (by decide)) qm_RL_14 dL_agree_358 (by decide) ⟨by decide, by decide⟩ (Nat.le_of_ble_eq_true rfl) (fun h32 h32I => ?_)
          refine z_iload ok dL_agree_361 rfl ?_
          refine l_apart (v := dist N (pk N i 0) (pk N i 1)) ok h32I hw (by assumption) (by assumption) (rfl) qm_RL_18 dL_agree_363 (by decide) ⟨by decide, by decide⟩ (Nat.le_of_ble_eq_true rfl) (fun h33 h33I => ?_)
          refine z_aload_n ok dL_agree_366 rfl ?_
          refine z_iload ok dL_agree_367 rfl ?_
          refine z_iload ok dL_agree_369 rfl ?_
          refine l_apart (v := dist N (pk N i 3) (pk N i 1)) ok h33I hw (by assumption) (by assumption) (rfl) qm_RL_18 dL_agree_371 (by decide) ⟨by decide, by decide⟩ (Nat.le_of_ble_eq_true rfl) (fun h34 h34I => ?_)
          refine z_isub ok dL_agree_374 ?_
          refine z_aload_n ok dL_agree_375 rfl ?_
          refine z_iload ok dL_agree_376 rfl ?_
          refine z_iconst ok dL_agree_378 ?_
          refine o_ofPacket (v := pk N i 4) ok h34I hw (by omega) (by decide) (v_pk (hq) (by decide)) qm_RL_14 dL_agree_379 (by decide) ⟨by decide, by decide⟩ (Nat.le_of_ble_eq_true rfl) (fun h35 h35I => ?_)
          refine z_iconst ok dL_agree_382 ?_
          refine z_aload_n ok dL_agree_383 rfl ?_
          refine z_iload ok dL_agree_384 rfl ?_
          refine z_iconst ok dL_agree_386 ?_
          refine o_ofPacket (v := pk N i 5) ok h35I hw (by omega) (by decide) (v_pk (hq) (by decide)) qm_RL_14 dL_agree_387 (by decide) ⟨by decide, by decide⟩ (Nat.le_of_ble_eq_true rfl) (fun h36 h36I => ?_)
          refine z_imul ok dL_agree_390 ?_
          refine z_isub ok dL_agree_391 ?_
          refine z_icmp_eq (tgt := 397) ok dL_agree_392 (by decide) (by omega) (by omega) (fun c392 => ?_) (fun c => (by omega : False).elim)
          refine z_iinc (lv' := [(8, .int (iI (i + 1))), (12, .int (iI (pk N i 1))), (11, .int (iI (frP N i))), (7, .int (iI (s7 + (zb (stk N i))))), (6, .int (iI (s6 + (pk N i 6)))), (5, .int (iI (s5 + (pk N i 5)))), (4, .int (iI (s4 + (pk N i 4)))), (10, .int (iI (pk N i 3))), (9, .int (iI (pk N i 2))), (3, .ref q3), (2, .ref q2), (1, .ref q1), (0, .ref (obX ad))]) ok dL_agree_397 8 rfl (by decide) rfl ?_
          refine z_goto (tgt := 30) ok dL_agree_400 (by decide) ?_
          refine z_lsub ok (lv' := [(8, .int (iI (i + 1))), (7, .int (iI (s7 + (zb (stk N i))))), (6, .int (iI (s6 + (pk N i 6)))), (5, .int (iI (s5 + (pk N i 5)))), (4, .int (iI (s4 + (pk N i 4)))), (3, .ref q3), (2, .ref q2), (1, .ref q1), (0, .ref (obX ad))]) [0, 3, 4, 5, 6, 9, 10, 11, 12] rfl ?_
          exact ih (i + 1) (zu f1 (pk N i 3) ((f1 (pk N i 3)) + 1)) (zu f2 (pk N i 3) ((f2 (pk N i 3)) + 0)) (zu f3 (pk N i 3) ((f3 (pk N i 3)) + 0)) (s4 + (pk N i 4)) (s5 + (pk N i 5)) (s6 + (pk N i 6)) (s7 + (zb (stk N i))) h36 (by omega) (by omega) (cnt_inc i0 r1 x0) (cnt_inc i0 r2 x1) (cnt_inc i0 r3 x2) (by rw [zS_s i0, ← e4]) (by rw [zS_s i0, ← e5]) (by rw [zS_s i0, ← e6]) (by rw [zS_s i0, ← e7]) h36I (by omega)
        · -- state 0, 1
          have x0 : (1 : Int) = zb (pk N i 2 = 0) := (zb_t c.1).symm
          have x1 : (0 : Int) = zb (pk N i 2 = 1) := (zb_f (by omega)).symm
          have x2 : (0 : Int) = zb (pk N i 2 = 2) := (zb_f (by omega)).symm
          have hns : zb (stk N i) = 0 := zb_f (fun z => by have := (stk_rng z).2.2; omega)
          refine z_aload_n ok dL_agree_40 rfl ?_
          refine z_iload ok dL_agree_41 rfl ?_
          refine z_iconst ok dL_agree_43 ?_
          refine o_ofPacket (v := pk N i 2) ok h1I hw (by omega) (by decide) (v_pk (hq) (by decide)) qm_RL_14 dL_agree_44 (by decide) ⟨by decide, by decide⟩ (Nat.le_of_ble_eq_true rfl) (fun h37 h37I => ?_)
          refine z_istore (lv' := [(9, .int (iI (pk N i 2))), (8, .int (iI i)), (7, .int (iI s7)), (6, .int (iI s6)), (5, .int (iI s5)), (4, .int (iI s4)), (3, .ref q3), (2, .ref q2), (1, .ref q1), (0, .ref (obX ad))]) ok dL_agree_47 (by decide) rfl ?_
          refine z_aload_n ok dL_agree_49 rfl ?_
          refine z_iload ok dL_agree_50 rfl ?_
          refine z_iconst ok dL_agree_52 ?_
          refine o_ofPacket (v := pk N i 3) ok h37I hw (by omega) (by decide) (v_pk (hq) (by decide)) qm_RL_14 dL_agree_53 (by decide) ⟨by decide, by decide⟩ (Nat.le_of_ble_eq_true rfl) (fun h38 h38I => ?_)
          refine z_istore (lv' := [(10, .int (iI (pk N i 3))), (9, .int (iI (pk N i 2))), (8, .int (iI i)), (7, .int (iI s7)), (6, .int (iI s6)), (5, .int (iI s5)), (4, .int (iI s4)), (3, .ref q3), (2, .ref q2), (1, .ref q1), (0, .ref (obX ad))]) ok dL_agree_56 (by decide) rfl ?_
          refine z_aload_n ok dL_agree_58 rfl ?_
          refine z_iload ok dL_agree_59 rfl ?_
          refine z_dup2 ok dL_agree_61 rfl rfl ?_
          refine z_iale (f := f1) (v := f1 (pk N i 3)) ok 2 rfl (rfl) dL_agree_62 (by omega) (by decide) ?_
          refine z_iload ok dL_agree_63 rfl ?_
          refine z_if_ne (tgt := 72) ok dL_agree_65 (by decide) (by omega) (fun c => (by omega : False).elim) (fun c65 => ?_)
          refine z_iconst ok dL_agree_68 ?_
          refine z_goto (tgt := 73) ok dL_agree_69 (by decide) ?_
          refine z_iadd ok dL_agree_73 ?_
          refine z_iast (f := f1) (v := (f1 (pk N i 3)) + 1) (ws' := [aW Z q3 25 f3, aW Z q2 25 f2, aW Z q1 25 (zu f1 (pk N i 3) ((f1 (pk N i 3)) + 1))] ++ (obW Z ad N h38 ++ ([] : va_W))) ok 2 rfl dL_agree_74 (by omega) (by decide) rfl ?_
          refine z_aload_n ok dL_agree_75 rfl ?_
          refine z_iload ok dL_agree_76 rfl ?_
          refine z_dup2 ok dL_agree_78 rfl rfl ?_
          refine z_iale (f := f2) (v := f2 (pk N i 3)) ok 1 rfl (rfl) dL_agree_79 (by omega) (by decide) ?_
          refine z_iload ok dL_agree_80 rfl ?_
          refine z_iconst ok dL_agree_82 ?_
          refine z_icmp_ne (tgt := 90) ok dL_agree_83 (by decide) (by omega) (by decide) (fun c83 => ?_) (fun c => (by omega : False).elim)
          refine z_iconst ok dL_agree_90 ?_
          refine z_iadd ok dL_agree_91 ?_
          refine z_iast (f := f2) (v := (f2 (pk N i 3)) + 0) (ws' := [aW Z q3 25 f3, aW Z q2 25 (zu f2 (pk N i 3) ((f2 (pk N i 3)) + 0)), aW Z q1 25 (zu f1 (pk N i 3) ((f1 (pk N i 3)) + 1))] ++ (obW Z ad N h38 ++ ([] : va_W))) ok 1 rfl dL_agree_92 (by omega) (by decide) rfl ?_
          refine z_aload_n ok dL_agree_93 rfl ?_
          refine z_iload ok dL_agree_94 rfl ?_
          refine z_dup2 ok dL_agree_96 rfl rfl ?_
          refine z_iale (f := f3) (v := f3 (pk N i 3)) ok 0 rfl (rfl) dL_agree_97 (by omega) (by decide) ?_
          refine z_iload ok dL_agree_98 rfl ?_
          refine z_iconst ok dL_agree_100 ?_
          refine z_icmp_ne (tgt := 108) ok dL_agree_101 (by decide) (by omega) (by decide) (fun c101 => ?_) (fun c => (by omega : False).elim)
          refine z_iconst ok dL_agree_108 ?_
          refine z_iadd ok dL_agree_109 ?_
          refine z_iast (f := f3) (v := (f3 (pk N i 3)) + 0) (ws' := [aW Z q3 25 (zu f3 (pk N i 3) ((f3 (pk N i 3)) + 0)), aW Z q2 25 (zu f2 (pk N i 3) ((f2 (pk N i 3)) + 0)), aW Z q1 25 (zu f1 (pk N i 3) ((f1 (pk N i 3)) + 1))] ++ (obW Z ad N h38 ++ ([] : va_W))) ok 0 rfl dL_agree_110 (by omega) (by decide) rfl ?_
          refine z_iload ok dL_agree_111 rfl ?_
          refine z_aload_n ok dL_agree_113 rfl ?_
          refine z_iload ok dL_agree_114 rfl ?_
          refine z_iconst ok dL_agree_116 ?_
          refine o_ofPacket (v := pk N i 4) ok h38I hw (by omega) (by decide) (v_pk (hq) (by decide)) qm_RL_14 dL_agree_117 (by decide) ⟨by decide, by decide⟩ (Nat.le_of_ble_eq_true rfl) (fun h39 h39I => ?_)
          refine z_iadd ok dL_agree_120 ?_
          refine z_istore (lv' := [(4, .int (iI (s4 + (pk N i 4)))), (10, .int (iI (pk N i 3))), (9, .int (iI (pk N i 2))), (8, .int (iI i)), (7, .int (iI s7)), (6, .int (iI s6)), (5, .int (iI s5)), (3, .ref q3), (2, .ref q2), (1, .ref q1), (0, .ref (obX ad))]) ok dL_agree_121 (by decide) rfl ?_
          refine z_iload ok dL_agree_123 rfl ?_
          refine z_aload_n ok dL_agree_125 rfl ?_
          refine z_iload ok dL_agree_126 rfl ?_
          refine z_iconst ok dL_agree_128 ?_
          refine o_ofPacket (v := pk N i 5) ok h39I hw (by omega) (by decide) (v_pk (hq) (by decide)) qm_RL_14 dL_agree_129 (by decide) ⟨by decide, by decide⟩ (Nat.le_of_ble_eq_true rfl) (fun h40 h40I => ?_)
          refine z_iadd ok dL_agree_132 ?_
          refine z_istore (lv' := [(5, .int (iI (s5 + (pk N i 5)))), (4, .int (iI (s4 + (pk N i 4)))), (10, .int (iI (pk N i 3))), (9, .int (iI (pk N i 2))), (8, .int (iI i)), (7, .int (iI s7)), (6, .int (iI s6)), (3, .ref q3), (2, .ref q2), (1, .ref q1), (0, .ref (obX ad))]) ok dL_agree_133 (by decide) rfl ?_
          refine z_iload ok dL_agree_135 rfl ?_
          refine z_aload_n ok dL_agree_137 rfl ?_
          refine z_iload ok dL_agree_138 rfl ?_
          refine z_bipush ok dL_agree_140 (by decide) ?_
          refine o_ofPacket (v := pk N i 6) ok h40I hw (by omega) (by decide) (v_pk (hq) (by decide)) qm_RL_14 dL_agree_142 (by decide) ⟨by decide, by decide⟩ (Nat.le_of_ble_eq_true rfl) (fun h41 h41I => ?_)
          refine z_iadd ok dL_agree_145 ?_
          refine z_istore (lv' := [(6, .int (iI (s6 + (pk N i 6)))), (5, .int (iI (s5 + (pk N i 5)))), (4, .int (iI (s4 + (pk N i 4)))), (10, .int (iI (pk N i 3))), (9, .int (iI (pk N i 2))), (8, .int (iI i)), (7, .int (iI s7)), (3, .ref q3), (2, .ref q2), (1, .ref q1), (0, .ref (obX ad))]) ok dL_agree_146 (by decide) rfl ?_
          refine z_iload ok dL_agree_148 rfl ?_
          refine z_aload_n ok dL_agree_150 rfl ?_
          refine z_iload ok dL_agree_151 rfl ?_
          refine z_bipush ok dL_agree_153 (by decide) ?_
          refine o_ofPacket (v := zb (stk N i)) ok h41I hw (by omega) (by decide) (v_sk (hq)) qm_RL_14 dL_agree_155 (by decide) ⟨by decide, by decide⟩ (Nat.le_of_ble_eq_true rfl) (fun h42 h42I => ?_)
          refine z_iadd ok dL_agree_158 ?_
          refine z_istore (lv' := [(7, .int (iI (s7 + (zb (stk N i))))), (6, .int (iI (s6 + (pk N i 6)))), (5, .int (iI (s5 + (pk N i 5)))), (4, .int (iI (s4 + (pk N i 4)))), (10, .int (iI (pk N i 3))), (9, .int (iI (pk N i 2))), (8, .int (iI i)), (3, .ref q3), (2, .ref q2), (1, .ref q1), (0, .ref (obX ad))]) ok dL_agree_159 (by decide) rfl ?_
          refine z_aload_n ok dL_agree_161 rfl ?_
          refine z_iload ok dL_agree_162 rfl ?_
          refine z_bipush ok dL_agree_164 (by decide) ?_
          refine o_ofPacket (v := frP N i) ok h42I hw (by omega) (by decide) (v_fr (hq)) qm_RL_14 dL_agree_166 (by decide) ⟨by decide, by decide⟩ (Nat.le_of_ble_eq_true rfl) (fun h43 h43I => ?_)
          refine z_istore (lv' := [(11, .int (iI (frP N i))), (7, .int (iI (s7 + (zb (stk N i))))), (6, .int (iI (s6 + (pk N i 6)))), (5, .int (iI (s5 + (pk N i 5)))), (4, .int (iI (s4 + (pk N i 4)))), (10, .int (iI (pk N i 3))), (9, .int (iI (pk N i 2))), (8, .int (iI i)), (3, .ref q3), (2, .ref q2), (1, .ref q1), (0, .ref (obX ad))]) ok dL_agree_169 (by decide) rfl ?_
          refine z_aload_n ok dL_agree_171 rfl ?_
          refine z_iload ok dL_agree_172 rfl ?_
          refine z_iconst ok dL_agree_174 ?_
          refine o_ofPacket (v := pk N i 1) ok h43I hw (by omega) (by decide) (v_pk (hq) (by decide)) qm_RL_14 dL_agree_175 (by decide) ⟨by decide, by decide⟩ (Nat.le_of_ble_eq_true rfl) (fun h44 h44I => ?_)
          refine z_istore (lv' := [(12, .int (iI (pk N i 1))), (11, .int (iI (frP N i))), (7, .int (iI (s7 + (zb (stk N i))))), (6, .int (iI (s6 + (pk N i 6)))), (5, .int (iI (s5 + (pk N i 5)))), (4, .int (iI (s4 + (pk N i 4)))), (10, .int (iI (pk N i 3))), (9, .int (iI (pk N i 2))), (8, .int (iI i)), (3, .ref q3), (2, .ref q2), (1, .ref q1), (0, .ref (obX ad))]) ok dL_agree_178 (by decide) rfl ?_
          refine z_iload ok dL_agree_180 rfl ?_
          refine z_iconst ok dL_agree_182 ?_
          refine z_icmp_ne (tgt := 233) ok dL_agree_183 (by decide) (by omega) (by decide) (fun c183 => ?_) (fun c => (by omega : False).elim)
          refine z_aload_n ok dL_agree_233 rfl ?_
          refine z_iload ok dL_agree_234 rfl ?_
          refine z_bipush ok dL_agree_236 (by decide) ?_
          refine o_ofPacket (v := pk N i 8) ok h44I hw (by omega) (by decide) (v_pk (hq) (by decide)) qm_RL_14 dL_agree_238 (by decide) ⟨by decide, by decide⟩ (Nat.le_of_ble_eq_true rfl) (fun h45 h45I => ?_)
          refine z_bipush ok dL_agree_241 (by decide) ?_
          refine z_icmp_ne (tgt := 258) ok dL_agree_243 (by decide) (by omega) (by decide) (fun c => (by omega : False).elim) (fun c243 => ?_)
          refine z_iload ok dL_agree_246 rfl ?_
          refine z_iload ok dL_agree_248 rfl ?_
          refine z_icmp_eq (tgt := 258) ok dL_agree_250 (by decide) (by omega) (by omega) (fun c => (by omega : False).elim) (fun c250 => ?_)
          refine z_iload ok dL_agree_253 rfl ?_
          refine z_if_ne (tgt := 260) ok dL_agree_255 (by decide) (by omega) (fun c255 => ?_) (fun c => (by omega : False).elim)
          refine z_iload ok dL_agree_260 rfl ?_
          refine z_if_ne (tgt := 287) ok dL_agree_262 (by decide) (by omega) (fun c => (by omega : False).elim) (fun c262 => ?_)
          refine z_iload ok dL_agree_265 rfl ?_
          refine z_aload_n ok dL_agree_267 rfl ?_
          refine z_iload ok dL_agree_268 rfl ?_
          refine z_iconst ok dL_agree_270 ?_
          refine o_ofPacket (v := pk N i 0) ok h45I hw (by omega) (by decide) (v_pk (hq) (by decide)) qm_RL_14 dL_agree_271 (by decide) ⟨by decide, by decide⟩ (Nat.le_of_ble_eq_true rfl) (fun h46 h46I => ?_)
          refine z_icmp_ne (tgt := 351) ok dL_agree_274 (by decide) (by omega) (by omega) (fun c => (by omega : False).elim) (fun c274 => ?_)
          refine z_aload_n ok dL_agree_277 rfl ?_
          refine z_iload ok dL_agree_278 rfl ?_
          refine z_iconst ok dL_agree_280 ?_
          refine o_ofPacket (v := pk N i 4) ok h46I hw (by omega) (by decide) (v_pk (hq) (by decide)) qm_RL_14 dL_agree_281 (by decide) ⟨by decide, by decide⟩ (Nat.le_of_ble_eq_true rfl) (fun h47 h47I => ?_)
          refine z_if_ne (tgt := 351) ok dL_agree_284 (by decide) (by omega) (fun c => (by omega : False).elim) (fun c284 => ?_)
          refine z_iload ok dL_agree_287 rfl ?_
          refine z_if_le (tgt := 316) ok dL_agree_289 (by decide) (by omega) (fun c => (by omega : False).elim) (fun c289 => ?_)
          refine z_iload ok dL_agree_292 rfl ?_
          refine z_aload_n ok dL_agree_294 rfl ?_
          refine z_iload ok dL_agree_295 rfl ?_
          refine z_iload ok dL_agree_297 rfl ?_
          refine l_apart (v := dist N (pk N i 3) (pk N i 1)) ok h47I hw (by assumption) (by assumption) (rfl) qm_RL_18 dL_agree_299 (by decide) ⟨by decide, by decide⟩ (Nat.le_of_ble_eq_true rfl) (fun h48 h48I => ?_)
          refine z_icmp_lt (tgt := 351) ok dL_agree_302 (by decide) (by omega) (by omega) (fun c => (by omega : False).elim) (fun c302 => ?_)
          refine z_aload_n ok dL_agree_305 rfl ?_
          refine z_iload ok dL_agree_306 rfl ?_
          refine z_bipush ok dL_agree_308 (by decide) ?_
          refine o_ofPacket (v := fsV N i) ok h48I hw (by omega) (by decide) (v_fs (hq)) qm_RL_14 dL_agree_310 (by decide) ⟨by decide, by decide⟩ (Nat.le_of_ble_eq_true rfl) (fun h49 h49I => ?_)
          refine z_if_lt (tgt := 351) ok dL_agree_313 (by decide) (by omega) (fun c => (by omega : False).elim) (fun c313 => ?_)
          refine z_iload ok dL_agree_316 rfl ?_
          refine z_if_ge (tgt := 334) ok dL_agree_318 (by decide) (by omega) (fun c318 => ?_) (fun c => (by omega : False).elim)
          refine z_iload ok dL_agree_334 rfl ?_
          refine z_iconst ok dL_agree_336 ?_
          refine z_icmp_eq (tgt := 353) ok dL_agree_337 (by decide) (by omega) (by decide) (fun c => (by omega : False).elim) (fun c337 => ?_)
          refine z_aload_n ok dL_agree_340 rfl ?_
          refine z_iload ok dL_agree_341 rfl ?_
          refine z_bipush ok dL_agree_343 (by decide) ?_
          refine o_ofPacket (v := zb (stk N i)) ok h49I hw (by omega) (by decide) (v_sk (hq)) qm_RL_14 dL_agree_345 (by decide) ⟨by decide, by decide⟩ (Nat.le_of_ble_eq_true rfl) (fun h50 h50I => ?_)
          refine z_if_eq (tgt := 353) ok dL_agree_348 (by decide) (by omega) (fun c348 => ?_) (fun c => (by omega : False).elim)
          refine z_aload_n ok dL_agree_353 rfl ?_
          refine z_aload_n ok dL_agree_354 rfl ?_
          refine z_iload ok dL_agree_355 rfl ?_
          refine z_iconst ok dL_agree_357 ?_
          refine o_ofPacket (v := pk N i 0) ok h50I hw (by omega) (by decide) (v_pk (hq) (by decide)) qm_RL_14 dL_agree_358 (by decide) ⟨by decide, by decide⟩ (Nat.le_of_ble_eq_true rfl) (fun h51 h51I => ?_)
          refine z_iload ok dL_agree_361 rfl ?_
          refine l_apart (v := dist N (pk N i 0) (pk N i 1)) ok h51I hw (by assumption) (by assumption) (rfl) qm_RL_18 dL_agree_363 (by decide) ⟨by decide, by decide⟩ (Nat.le_of_ble_eq_true rfl) (fun h52 h52I => ?_)
          refine z_aload_n ok dL_agree_366 rfl ?_
          refine z_iload ok dL_agree_367 rfl ?_
          refine z_iload ok dL_agree_369 rfl ?_
          refine l_apart (v := dist N (pk N i 3) (pk N i 1)) ok h52I hw (by assumption) (by assumption) (rfl) qm_RL_18 dL_agree_371 (by decide) ⟨by decide, by decide⟩ (Nat.le_of_ble_eq_true rfl) (fun h53 h53I => ?_)
          refine z_isub ok dL_agree_374 ?_
          refine z_aload_n ok dL_agree_375 rfl ?_
          refine z_iload ok dL_agree_376 rfl ?_
          refine z_iconst ok dL_agree_378 ?_
          refine o_ofPacket (v := pk N i 4) ok h53I hw (by omega) (by decide) (v_pk (hq) (by decide)) qm_RL_14 dL_agree_379 (by decide) ⟨by decide, by decide⟩ (Nat.le_of_ble_eq_true rfl) (fun h54 h54I => ?_)
          refine z_iconst ok dL_agree_382 ?_
          refine z_aload_n ok dL_agree_383 rfl ?_
          refine z_iload ok dL_agree_384 rfl ?_
          refine z_iconst ok dL_agree_386 ?_
          refine o_ofPacket (v := pk N i 5) ok h54I hw (by omega) (by decide) (v_pk (hq) (by decide)) qm_RL_14 dL_agree_387 (by decide) ⟨by decide, by decide⟩ (Nat.le_of_ble_eq_true rfl) (fun h55 h55I => ?_)
          refine z_imul ok dL_agree_390 ?_
          refine z_isub ok dL_agree_391 ?_
          refine z_icmp_eq (tgt := 397) ok dL_agree_392 (by decide) (by omega) (by omega) (fun c392 => ?_) (fun c => (by omega : False).elim)
          refine z_iinc (lv' := [(8, .int (iI (i + 1))), (12, .int (iI (pk N i 1))), (11, .int (iI (frP N i))), (7, .int (iI (s7 + (zb (stk N i))))), (6, .int (iI (s6 + (pk N i 6)))), (5, .int (iI (s5 + (pk N i 5)))), (4, .int (iI (s4 + (pk N i 4)))), (10, .int (iI (pk N i 3))), (9, .int (iI (pk N i 2))), (3, .ref q3), (2, .ref q2), (1, .ref q1), (0, .ref (obX ad))]) ok dL_agree_397 8 rfl (by decide) rfl ?_
          refine z_goto (tgt := 30) ok dL_agree_400 (by decide) ?_
          refine z_lsub ok (lv' := [(8, .int (iI (i + 1))), (7, .int (iI (s7 + (zb (stk N i))))), (6, .int (iI (s6 + (pk N i 6)))), (5, .int (iI (s5 + (pk N i 5)))), (4, .int (iI (s4 + (pk N i 4)))), (3, .ref q3), (2, .ref q2), (1, .ref q1), (0, .ref (obX ad))]) [0, 3, 4, 5, 6, 9, 10, 11, 12] rfl ?_
          exact ih (i + 1) (zu f1 (pk N i 3) ((f1 (pk N i 3)) + 1)) (zu f2 (pk N i 3) ((f2 (pk N i 3)) + 0)) (zu f3 (pk N i 3) ((f3 (pk N i 3)) + 0)) (s4 + (pk N i 4)) (s5 + (pk N i 5)) (s6 + (pk N i 6)) (s7 + (zb (stk N i))) h55 (by omega) (by omega) (cnt_inc i0 r1 x0) (cnt_inc i0 r2 x1) (cnt_inc i0 r3 x2) (by rw [zS_s i0, ← e4]) (by rw [zS_s i0, ← e5]) (by rw [zS_s i0, ← e6]) (by rw [zS_s i0, ← e7]) h55I (by omega)
        · -- state 1, 0
          have x0 : (0 : Int) = zb (pk N i 2 = 0) := (zb_f (by omega)).symm
          have x1 : (1 : Int) = zb (pk N i 2 = 1) := (zb_t c.1).symm
          have x2 : (0 : Int) = zb (pk N i 2 = 2) := (zb_f (by omega)).symm
          refine z_aload_n ok dL_agree_40 rfl ?_
          refine z_iload ok dL_agree_41 rfl ?_
          refine z_iconst ok dL_agree_43 ?_
          refine o_ofPacket (v := pk N i 2) ok h1I hw (by omega) (by decide) (v_pk (hq) (by decide)) qm_RL_14 dL_agree_44 (by decide) ⟨by decide, by decide⟩ (Nat.le_of_ble_eq_true rfl) (fun h56 h56I => ?_)
          refine z_istore (lv' := [(9, .int (iI (pk N i 2))), (8, .int (iI i)), (7, .int (iI s7)), (6, .int (iI s6)), (5, .int (iI s5)), (4, .int (iI s4)), (3, .ref q3), (2, .ref q2), (1, .ref q1), (0, .ref (obX ad))]) ok dL_agree_47 (by decide) rfl ?_
          refine z_aload_n ok dL_agree_49 rfl ?_
          refine z_iload ok dL_agree_50 rfl ?_
          refine z_iconst ok dL_agree_52 ?_
          refine o_ofPacket (v := pk N i 3) ok h56I hw (by omega) (by decide) (v_pk (hq) (by decide)) qm_RL_14 dL_agree_53 (by decide) ⟨by decide, by decide⟩ (Nat.le_of_ble_eq_true rfl) (fun h57 h57I => ?_)
          refine z_istore (lv' := [(10, .int (iI (pk N i 3))), (9, .int (iI (pk N i 2))), (8, .int (iI i)), (7, .int (iI s7)), (6, .int (iI s6)), (5, .int (iI s5)), (4, .int (iI s4)), (3, .ref q3), (2, .ref q2), (1, .ref q1), (0, .ref (obX ad))]) ok dL_agree_56 (by decide) rfl ?_
          refine z_aload_n ok dL_agree_58 rfl ?_
          refine z_iload ok dL_agree_59 rfl ?_
          refine z_dup2 ok dL_agree_61 rfl rfl ?_
          refine z_iale (f := f1) (v := f1 (pk N i 3)) ok 2 rfl (rfl) dL_agree_62 (by omega) (by decide) ?_
          refine z_iload ok dL_agree_63 rfl ?_
          refine z_if_ne (tgt := 72) ok dL_agree_65 (by decide) (by omega) (fun c65 => ?_) (fun c => (by omega : False).elim)
          refine z_iconst ok dL_agree_72 ?_
          refine z_iadd ok dL_agree_73 ?_
          refine z_iast (f := f1) (v := (f1 (pk N i 3)) + 0) (ws' := [aW Z q3 25 f3, aW Z q2 25 f2, aW Z q1 25 (zu f1 (pk N i 3) ((f1 (pk N i 3)) + 0))] ++ (obW Z ad N h57 ++ ([] : va_W))) ok 2 rfl dL_agree_74 (by omega) (by decide) rfl ?_
          refine z_aload_n ok dL_agree_75 rfl ?_
          refine z_iload ok dL_agree_76 rfl ?_
          refine z_dup2 ok dL_agree_78 rfl rfl ?_
          refine z_iale (f := f2) (v := f2 (pk N i 3)) ok 1 rfl (rfl) dL_agree_79 (by omega) (by decide) ?_
          refine z_iload ok dL_agree_80 rfl ?_
          refine z_iconst ok dL_agree_82 ?_
          refine z_icmp_ne (tgt := 90) ok dL_agree_83 (by decide) (by omega) (by decide) (fun c => (by omega : False).elim) (fun c83 => ?_)
          refine z_iconst ok dL_agree_86 ?_
          refine z_goto (tgt := 91) ok dL_agree_87 (by decide) ?_
          refine z_iadd ok dL_agree_91 ?_
          refine z_iast (f := f2) (v := (f2 (pk N i 3)) + 1) (ws' := [aW Z q3 25 f3, aW Z q2 25 (zu f2 (pk N i 3) ((f2 (pk N i 3)) + 1)), aW Z q1 25 (zu f1 (pk N i 3) ((f1 (pk N i 3)) + 0))] ++ (obW Z ad N h57 ++ ([] : va_W))) ok 1 rfl dL_agree_92 (by omega) (by decide) rfl ?_
          refine z_aload_n ok dL_agree_93 rfl ?_
          refine z_iload ok dL_agree_94 rfl ?_
          refine z_dup2 ok dL_agree_96 rfl rfl ?_
          refine z_iale (f := f3) (v := f3 (pk N i 3)) ok 0 rfl (rfl) dL_agree_97 (by omega) (by decide) ?_
          refine z_iload ok dL_agree_98 rfl ?_
          refine z_iconst ok dL_agree_100 ?_
          refine z_icmp_ne (tgt := 108) ok dL_agree_101 (by decide) (by omega) (by decide) (fun c101 => ?_) (fun c => (by omega : False).elim)
          refine z_iconst ok dL_agree_108 ?_
          refine z_iadd ok dL_agree_109 ?_
          refine z_iast (f := f3) (v := (f3 (pk N i 3)) + 0) (ws' := [aW Z q3 25 (zu f3 (pk N i 3) ((f3 (pk N i 3)) + 0)), aW Z q2 25 (zu f2 (pk N i 3) ((f2 (pk N i 3)) + 1)), aW Z q1 25 (zu f1 (pk N i 3) ((f1 (pk N i 3)) + 0))] ++ (obW Z ad N h57 ++ ([] : va_W))) ok 0 rfl dL_agree_110 (by omega) (by decide) rfl ?_
          refine z_iload ok dL_agree_111 rfl ?_
          refine z_aload_n ok dL_agree_113 rfl ?_
          refine z_iload ok dL_agree_114 rfl ?_
          refine z_iconst ok dL_agree_116 ?_
          refine o_ofPacket (v := pk N i 4) ok h57I hw (by omega) (by decide) (v_pk (hq) (by decide)) qm_RL_14 dL_agree_117 (by decide) ⟨by decide, by decide⟩ (Nat.le_of_ble_eq_true rfl) (fun h58 h58I => ?_)
          refine z_iadd ok dL_agree_120 ?_
          refine z_istore (lv' := [(4, .int (iI (s4 + (pk N i 4)))), (10, .int (iI (pk N i 3))), (9, .int (iI (pk N i 2))), (8, .int (iI i)), (7, .int (iI s7)), (6, .int (iI s6)), (5, .int (iI s5)), (3, .ref q3), (2, .ref q2), (1, .ref q1), (0, .ref (obX ad))]) ok dL_agree_121 (by decide) rfl ?_
          refine z_iload ok dL_agree_123 rfl ?_
          refine z_aload_n ok dL_agree_125 rfl ?_
          refine z_iload ok dL_agree_126 rfl ?_
          refine z_iconst ok dL_agree_128 ?_
          refine o_ofPacket (v := pk N i 5) ok h58I hw (by omega) (by decide) (v_pk (hq) (by decide)) qm_RL_14 dL_agree_129 (by decide) ⟨by decide, by decide⟩ (Nat.le_of_ble_eq_true rfl) (fun h59 h59I => ?_)
          refine z_iadd ok dL_agree_132 ?_
          refine z_istore (lv' := [(5, .int (iI (s5 + (pk N i 5)))), (4, .int (iI (s4 + (pk N i 4)))), (10, .int (iI (pk N i 3))), (9, .int (iI (pk N i 2))), (8, .int (iI i)), (7, .int (iI s7)), (6, .int (iI s6)), (3, .ref q3), (2, .ref q2), (1, .ref q1), (0, .ref (obX ad))]) ok dL_agree_133 (by decide) rfl ?_
          refine z_iload ok dL_agree_135 rfl ?_
          refine z_aload_n ok dL_agree_137 rfl ?_
          refine z_iload ok dL_agree_138 rfl ?_
          refine z_bipush ok dL_agree_140 (by decide) ?_
          refine o_ofPacket (v := pk N i 6) ok h59I hw (by omega) (by decide) (v_pk (hq) (by decide)) qm_RL_14 dL_agree_142 (by decide) ⟨by decide, by decide⟩ (Nat.le_of_ble_eq_true rfl) (fun h60 h60I => ?_)
          refine z_iadd ok dL_agree_145 ?_
          refine z_istore (lv' := [(6, .int (iI (s6 + (pk N i 6)))), (5, .int (iI (s5 + (pk N i 5)))), (4, .int (iI (s4 + (pk N i 4)))), (10, .int (iI (pk N i 3))), (9, .int (iI (pk N i 2))), (8, .int (iI i)), (7, .int (iI s7)), (3, .ref q3), (2, .ref q2), (1, .ref q1), (0, .ref (obX ad))]) ok dL_agree_146 (by decide) rfl ?_
          refine z_iload ok dL_agree_148 rfl ?_
          refine z_aload_n ok dL_agree_150 rfl ?_
          refine z_iload ok dL_agree_151 rfl ?_
          refine z_bipush ok dL_agree_153 (by decide) ?_
          refine o_ofPacket (v := zb (stk N i)) ok h60I hw (by omega) (by decide) (v_sk (hq)) qm_RL_14 dL_agree_155 (by decide) ⟨by decide, by decide⟩ (Nat.le_of_ble_eq_true rfl) (fun h61 h61I => ?_)
          refine z_iadd ok dL_agree_158 ?_
          refine z_istore (lv' := [(7, .int (iI (s7 + (zb (stk N i))))), (6, .int (iI (s6 + (pk N i 6)))), (5, .int (iI (s5 + (pk N i 5)))), (4, .int (iI (s4 + (pk N i 4)))), (10, .int (iI (pk N i 3))), (9, .int (iI (pk N i 2))), (8, .int (iI i)), (3, .ref q3), (2, .ref q2), (1, .ref q1), (0, .ref (obX ad))]) ok dL_agree_159 (by decide) rfl ?_
          refine z_aload_n ok dL_agree_161 rfl ?_
          refine z_iload ok dL_agree_162 rfl ?_
          refine z_bipush ok dL_agree_164 (by decide) ?_
          refine o_ofPacket (v := frP N i) ok h61I hw (by omega) (by decide) (v_fr (hq)) qm_RL_14 dL_agree_166 (by decide) ⟨by decide, by decide⟩ (Nat.le_of_ble_eq_true rfl) (fun h62 h62I => ?_)
          refine z_istore (lv' := [(11, .int (iI (frP N i))), (7, .int (iI (s7 + (zb (stk N i))))), (6, .int (iI (s6 + (pk N i 6)))), (5, .int (iI (s5 + (pk N i 5)))), (4, .int (iI (s4 + (pk N i 4)))), (10, .int (iI (pk N i 3))), (9, .int (iI (pk N i 2))), (8, .int (iI i)), (3, .ref q3), (2, .ref q2), (1, .ref q1), (0, .ref (obX ad))]) ok dL_agree_169 (by decide) rfl ?_
          refine z_aload_n ok dL_agree_171 rfl ?_
          refine z_iload ok dL_agree_172 rfl ?_
          refine z_iconst ok dL_agree_174 ?_
          refine o_ofPacket (v := pk N i 1) ok h62I hw (by omega) (by decide) (v_pk (hq) (by decide)) qm_RL_14 dL_agree_175 (by decide) ⟨by decide, by decide⟩ (Nat.le_of_ble_eq_true rfl) (fun h63 h63I => ?_)
          refine z_istore (lv' := [(12, .int (iI (pk N i 1))), (11, .int (iI (frP N i))), (7, .int (iI (s7 + (zb (stk N i))))), (6, .int (iI (s6 + (pk N i 6)))), (5, .int (iI (s5 + (pk N i 5)))), (4, .int (iI (s4 + (pk N i 4)))), (10, .int (iI (pk N i 3))), (9, .int (iI (pk N i 2))), (8, .int (iI i)), (3, .ref q3), (2, .ref q2), (1, .ref q1), (0, .ref (obX ad))]) ok dL_agree_178 (by decide) rfl ?_
          refine z_iload ok dL_agree_180 rfl ?_
          refine z_iconst ok dL_agree_182 ?_
          refine z_icmp_ne (tgt := 233) ok dL_agree_183 (by decide) (by omega) (by decide) (fun c183 => ?_) (fun c => (by omega : False).elim)
          refine z_aload_n ok dL_agree_233 rfl ?_
          refine z_iload ok dL_agree_234 rfl ?_
          refine z_bipush ok dL_agree_236 (by decide) ?_
          refine o_ofPacket (v := pk N i 8) ok h63I hw (by omega) (by decide) (v_pk (hq) (by decide)) qm_RL_14 dL_agree_238 (by decide) ⟨by decide, by decide⟩ (Nat.le_of_ble_eq_true rfl) (fun h64 h64I => ?_)
          refine z_bipush ok dL_agree_241 (by decide) ?_
          refine z_icmp_ne (tgt := 258) ok dL_agree_243 (by decide) (by omega) (by decide) (fun c => (by omega : False).elim) (fun c243 => ?_)
          refine z_iload ok dL_agree_246 rfl ?_
          refine z_iload ok dL_agree_248 rfl ?_
          refine z_icmp_eq (tgt := 258) ok dL_agree_250 (by decide) (by omega) (by omega) (fun c => (by omega : False).elim) (fun c250 => ?_)
          refine z_iload ok dL_agree_253 rfl ?_
          refine z_if_ne (tgt := 260) ok dL_agree_255 (by decide) (by omega) (fun c255 => ?_) (fun c => (by omega : False).elim)
          refine z_iload ok dL_agree_260 rfl ?_
          refine z_if_ne (tgt := 287) ok dL_agree_262 (by decide) (by omega) (fun c262 => ?_) (fun c => (by omega : False).elim)
          refine z_iload ok dL_agree_287 rfl ?_
          refine z_if_le (tgt := 316) ok dL_agree_289 (by decide) (by omega) (fun c289 => ?_) (fun c => (by omega : False).elim)
          refine z_iload ok dL_agree_316 rfl ?_
          refine z_if_ge (tgt := 334) ok dL_agree_318 (by decide) (by omega) (fun c => (by omega : False).elim) (fun c318 => ?_)
          refine z_aload_n ok dL_agree_321 rfl ?_
          refine z_iload ok dL_agree_322 rfl ?_
          refine z_bipush ok dL_agree_324 (by decide) ?_
          refine o_ofPacket (v := fsV N i) ok h64I hw (by omega) (by decide) (v_fs (hq)) qm_RL_14 dL_agree_326 (by decide) ⟨by decide, by decide⟩ (Nat.le_of_ble_eq_true rfl) (fun h65 h65I => ?_)
          refine z_bipush ok dL_agree_329 (by decide) ?_
          refine z_icmp_ne (tgt := 351) ok dL_agree_331 (by decide) (by omega) (by decide) (fun c => (by omega : False).elim) (fun c331 => ?_)
          refine z_iload ok dL_agree_334 rfl ?_
          refine z_iconst ok dL_agree_336 ?_
          refine z_icmp_eq (tgt := 353) ok dL_agree_337 (by decide) (by omega) (by decide) (fun c337 => ?_) (fun c => (by omega : False).elim)
          refine z_aload_n ok dL_agree_353 rfl ?_
          refine z_aload_n ok dL_agree_354 rfl ?_
          refine z_iload ok dL_agree_355 rfl ?_
          refine z_iconst ok dL_agree_357 ?_
          refine o_ofPacket (v := pk N i 0) ok h65I hw (by omega) (by decide) (v_pk (hq) (by decide)) qm_RL_14 dL_agree_358 (by decide) ⟨by decide, by decide⟩ (Nat.le_of_ble_eq_true rfl) (fun h66 h66I => ?_)
          refine z_iload ok dL_agree_361 rfl ?_
          refine l_apart (v := dist N (pk N i 0) (pk N i 1)) ok h66I hw (by assumption) (by assumption) (rfl) qm_RL_18 dL_agree_363 (by decide) ⟨by decide, by decide⟩ (Nat.le_of_ble_eq_true rfl) (fun h67 h67I => ?_)
          refine z_aload_n ok dL_agree_366 rfl ?_
          refine z_iload ok dL_agree_367 rfl ?_
          refine z_iload ok dL_agree_369 rfl ?_
          refine l_apart (v := dist N (pk N i 3) (pk N i 1)) ok h67I hw (by assumption) (by assumption) (rfl) qm_RL_18 dL_agree_371 (by decide) ⟨by decide, by decide⟩ (Nat.le_of_ble_eq_true rfl) (fun h68 h68I => ?_)
          refine z_isub ok dL_agree_374 ?_
          refine z_aload_n ok dL_agree_375 rfl ?_
          refine z_iload ok dL_agree_376 rfl ?_
          refine z_iconst ok dL_agree_378 ?_
          refine o_ofPacket (v := pk N i 4) ok h68I hw (by omega) (by decide) (v_pk (hq) (by decide)) qm_RL_14 dL_agree_379 (by decide) ⟨by decide, by decide⟩ (Nat.le_of_ble_eq_true rfl) (fun h69 h69I => ?_)
          refine z_iconst ok dL_agree_382 ?_
          refine z_aload_n ok dL_agree_383 rfl ?_
          refine z_iload ok dL_agree_384 rfl ?_
          refine z_iconst ok dL_agree_386 ?_
          refine o_ofPacket (v := pk N i 5) ok h69I hw (by omega) (by decide) (v_pk (hq) (by decide)) qm_RL_14 dL_agree_387 (by decide) ⟨by decide, by decide⟩ (Nat.le_of_ble_eq_true rfl) (fun h70 h70I => ?_)
          refine z_imul ok dL_agree_390 ?_
          refine z_isub ok dL_agree_391 ?_
          refine z_icmp_eq (tgt := 397) ok dL_agree_392 (by decide) (by omega) (by omega) (fun c392 => ?_) (fun c => (by omega : False).elim)
          refine z_iinc (lv' := [(8, .int (iI (i + 1))), (12, .int (iI (pk N i 1))), (11, .int (iI (frP N i))), (7, .int (iI (s7 + (zb (stk N i))))), (6, .int (iI (s6 + (pk N i 6)))), (5, .int (iI (s5 + (pk N i 5)))), (4, .int (iI (s4 + (pk N i 4)))), (10, .int (iI (pk N i 3))), (9, .int (iI (pk N i 2))), (3, .ref q3), (2, .ref q2), (1, .ref q1), (0, .ref (obX ad))]) ok dL_agree_397 8 rfl (by decide) rfl ?_
          refine z_goto (tgt := 30) ok dL_agree_400 (by decide) ?_
          refine z_lsub ok (lv' := [(8, .int (iI (i + 1))), (7, .int (iI (s7 + (zb (stk N i))))), (6, .int (iI (s6 + (pk N i 6)))), (5, .int (iI (s5 + (pk N i 5)))), (4, .int (iI (s4 + (pk N i 4)))), (3, .ref q3), (2, .ref q2), (1, .ref q1), (0, .ref (obX ad))]) [0, 3, 4, 5, 6, 9, 10, 11, 12] rfl ?_
          exact ih (i + 1) (zu f1 (pk N i 3) ((f1 (pk N i 3)) + 0)) (zu f2 (pk N i 3) ((f2 (pk N i 3)) + 1)) (zu f3 (pk N i 3) ((f3 (pk N i 3)) + 0)) (s4 + (pk N i 4)) (s5 + (pk N i 5)) (s6 + (pk N i 6)) (s7 + (zb (stk N i))) h70 (by omega) (by omega) (cnt_inc i0 r1 x0) (cnt_inc i0 r2 x1) (cnt_inc i0 r3 x2) (by rw [zS_s i0, ← e4]) (by rw [zS_s i0, ← e5]) (by rw [zS_s i0, ← e6]) (by rw [zS_s i0, ← e7]) h70I (by omega)
        · -- state 1, 1
          have x0 : (0 : Int) = zb (pk N i 2 = 0) := (zb_f (by omega)).symm
          have x1 : (1 : Int) = zb (pk N i 2 = 1) := (zb_t c.1).symm
          have x2 : (0 : Int) = zb (pk N i 2 = 2) := (zb_f (by omega)).symm
          refine z_aload_n ok dL_agree_40 rfl ?_
          refine z_iload ok dL_agree_41 rfl ?_
          refine z_iconst ok dL_agree_43 ?_
          refine o_ofPacket (v := pk N i 2) ok h1I hw (by omega) (by decide) (v_pk (hq) (by decide)) qm_RL_14 dL_agree_44 (by decide) ⟨by decide, by decide⟩ (Nat.le_of_ble_eq_true rfl) (fun h71 h71I => ?_)
          refine z_istore (lv' := [(9, .int (iI (pk N i 2))), (8, .int (iI i)), (7, .int (iI s7)), (6, .int (iI s6)), (5, .int (iI s5)), (4, .int (iI s4)), (3, .ref q3), (2, .ref q2), (1, .ref q1), (0, .ref (obX ad))]) ok dL_agree_47 (by decide) rfl ?_
          refine z_aload_n ok dL_agree_49 rfl ?_
          refine z_iload ok dL_agree_50 rfl ?_
          refine z_iconst ok dL_agree_52 ?_
          refine o_ofPacket (v := pk N i 3) ok h71I hw (by omega) (by decide) (v_pk (hq) (by decide)) qm_RL_14 dL_agree_53 (by decide) ⟨by decide, by decide⟩ (Nat.le_of_ble_eq_true rfl) (fun h72 h72I => ?_)
          refine z_istore (lv' := [(10, .int (iI (pk N i 3))), (9, .int (iI (pk N i 2))), (8, .int (iI i)), (7, .int (iI s7)), (6, .int (iI s6)), (5, .int (iI s5)), (4, .int (iI s4)), (3, .ref q3), (2, .ref q2), (1, .ref q1), (0, .ref (obX ad))]) ok dL_agree_56 (by decide) rfl ?_
          refine z_aload_n ok dL_agree_58 rfl ?_
          refine z_iload ok dL_agree_59 rfl ?_
          refine z_dup2 ok dL_agree_61 rfl rfl ?_
          refine z_iale (f := f1) (v := f1 (pk N i 3)) ok 2 rfl (rfl) dL_agree_62 (by omega) (by decide) ?_
          refine z_iload ok dL_agree_63 rfl ?_
          refine z_if_ne (tgt := 72) ok dL_agree_65 (by decide) (by omega) (fun c65 => ?_) (fun c => (by omega : False).elim)
          refine z_iconst ok dL_agree_72 ?_
          refine z_iadd ok dL_agree_73 ?_
          refine z_iast (f := f1) (v := (f1 (pk N i 3)) + 0) (ws' := [aW Z q3 25 f3, aW Z q2 25 f2, aW Z q1 25 (zu f1 (pk N i 3) ((f1 (pk N i 3)) + 0))] ++ (obW Z ad N h72 ++ ([] : va_W))) ok 2 rfl dL_agree_74 (by omega) (by decide) rfl ?_
          refine z_aload_n ok dL_agree_75 rfl ?_
          refine z_iload ok dL_agree_76 rfl ?_
          refine z_dup2 ok dL_agree_78 rfl rfl ?_
          refine z_iale (f := f2) (v := f2 (pk N i 3)) ok 1 rfl (rfl) dL_agree_79 (by omega) (by decide) ?_
          refine z_iload ok dL_agree_80 rfl ?_
          refine z_iconst ok dL_agree_82 ?_
          refine z_icmp_ne (tgt := 90) ok dL_agree_83 (by decide) (by omega) (by decide) (fun c => (by omega : False).elim) (fun c83 => ?_)
          refine z_iconst ok dL_agree_86 ?_
          refine z_goto (tgt := 91) ok dL_agree_87 (by decide) ?_
          refine z_iadd ok dL_agree_91 ?_
          refine z_iast (f := f2) (v := (f2 (pk N i 3)) + 1) (ws' := [aW Z q3 25 f3, aW Z q2 25 (zu f2 (pk N i 3) ((f2 (pk N i 3)) + 1)), aW Z q1 25 (zu f1 (pk N i 3) ((f1 (pk N i 3)) + 0))] ++ (obW Z ad N h72 ++ ([] : va_W))) ok 1 rfl dL_agree_92 (by omega) (by decide) rfl ?_
          refine z_aload_n ok dL_agree_93 rfl ?_
          refine z_iload ok dL_agree_94 rfl ?_
          refine z_dup2 ok dL_agree_96 rfl rfl ?_
          refine z_iale (f := f3) (v := f3 (pk N i 3)) ok 0 rfl (rfl) dL_agree_97 (by omega) (by decide) ?_
          refine z_iload ok dL_agree_98 rfl ?_
          refine z_iconst ok dL_agree_100 ?_
          refine z_icmp_ne (tgt := 108) ok dL_agree_101 (by decide) (by omega) (by decide) (fun c101 => ?_) (fun c => (by omega : False).elim)
          refine z_iconst ok dL_agree_108 ?_
          refine z_iadd ok dL_agree_109 ?_
          refine z_iast (f := f3) (v := (f3 (pk N i 3)) + 0) (ws' := [aW Z q3 25 (zu f3 (pk N i 3) ((f3 (pk N i 3)) + 0)), aW Z q2 25 (zu f2 (pk N i 3) ((f2 (pk N i 3)) + 1)), aW Z q1 25 (zu f1 (pk N i 3) ((f1 (pk N i 3)) + 0))] ++ (obW Z ad N h72 ++ ([] : va_W))) ok 0 rfl dL_agree_110 (by omega) (by decide) rfl ?_
          refine z_iload ok dL_agree_111 rfl ?_
          refine z_aload_n ok dL_agree_113 rfl ?_
          refine z_iload ok dL_agree_114 rfl ?_
          refine z_iconst ok dL_agree_116 ?_
          refine o_ofPacket (v := pk N i 4) ok h72I hw (by omega) (by decide) (v_pk (hq) (by decide)) qm_RL_14 dL_agree_117 (by decide) ⟨by decide, by decide⟩ (Nat.le_of_ble_eq_true rfl) (fun h73 h73I => ?_)
          refine z_iadd ok dL_agree_120 ?_
          refine z_istore (lv' := [(4, .int (iI (s4 + (pk N i 4)))), (10, .int (iI (pk N i 3))), (9, .int (iI (pk N i 2))), (8, .int (iI i)), (7, .int (iI s7)), (6, .int (iI s6)), (5, .int (iI s5)), (3, .ref q3), (2, .ref q2), (1, .ref q1), (0, .ref (obX ad))]) ok dL_agree_121 (by decide) rfl ?_
          refine z_iload ok dL_agree_123 rfl ?_
          refine z_aload_n ok dL_agree_125 rfl ?_
          refine z_iload ok dL_agree_126 rfl ?_
          refine z_iconst ok dL_agree_128 ?_
          refine o_ofPacket (v := pk N i 5) ok h73I hw (by omega) (by decide) (v_pk (hq) (by decide)) qm_RL_14 dL_agree_129 (by decide) ⟨by decide, by decide⟩ (Nat.le_of_ble_eq_true rfl) (fun h74 h74I => ?_)
          refine z_iadd ok dL_agree_132 ?_
          refine z_istore (lv' := [(5, .int (iI (s5 + (pk N i 5)))), (4, .int (iI (s4 + (pk N i 4)))), (10, .int (iI (pk N i 3))), (9, .int (iI (pk N i 2))), (8, .int (iI i)), (7, .int (iI s7)), (6, .int (iI s6)), (3, .ref q3), (2, .ref q2), (1, .ref q1), (0, .ref (obX ad))]) ok dL_agree_133 (by decide) rfl ?_
          refine z_iload ok dL_agree_135 rfl ?_
          refine z_aload_n ok dL_agree_137 rfl ?_
          refine z_iload ok dL_agree_138 rfl ?_
          refine z_bipush ok dL_agree_140 (by decide) ?_
          refine o_ofPacket (v := pk N i 6) ok h74I hw (by omega) (by decide) (v_pk (hq) (by decide)) qm_RL_14 dL_agree_142 (by decide) ⟨by decide, by decide⟩ (Nat.le_of_ble_eq_true rfl) (fun h75 h75I => ?_)
          refine z_iadd ok dL_agree_145 ?_
          refine z_istore (lv' := [(6, .int (iI (s6 + (pk N i 6)))), (5, .int (iI (s5 + (pk N i 5)))), (4, .int (iI (s4 + (pk N i 4)))), (10, .int (iI (pk N i 3))), (9, .int (iI (pk N i 2))), (8, .int (iI i)), (7, .int (iI s7)), (3, .ref q3), (2, .ref q2), (1, .ref q1), (0, .ref (obX ad))]) ok dL_agree_146 (by decide) rfl ?_
          refine z_iload ok dL_agree_148 rfl ?_
          refine z_aload_n ok dL_agree_150 rfl ?_
          refine z_iload ok dL_agree_151 rfl ?_
          refine z_bipush ok dL_agree_153 (by decide) ?_
          refine o_ofPacket (v := zb (stk N i)) ok h75I hw (by omega) (by decide) (v_sk (hq)) qm_RL_14 dL_agree_155 (by decide) ⟨by decide, by decide⟩ (Nat.le_of_ble_eq_true rfl) (fun h76 h76I => ?_)
          refine z_iadd ok dL_agree_158 ?_
          refine z_istore (lv' := [(7, .int (iI (s7 + (zb (stk N i))))), (6, .int (iI (s6 + (pk N i 6)))), (5, .int (iI (s5 + (pk N i 5)))), (4, .int (iI (s4 + (pk N i 4)))), (10, .int (iI (pk N i 3))), (9, .int (iI (pk N i 2))), (8, .int (iI i)), (3, .ref q3), (2, .ref q2), (1, .ref q1), (0, .ref (obX ad))]) ok dL_agree_159 (by decide) rfl ?_
          refine z_aload_n ok dL_agree_161 rfl ?_
          refine z_iload ok dL_agree_162 rfl ?_
          refine z_bipush ok dL_agree_164 (by decide) ?_
          refine o_ofPacket (v := frP N i) ok h76I hw (by omega) (by decide) (v_fr (hq)) qm_RL_14 dL_agree_166 (by decide) ⟨by decide, by decide⟩ (Nat.le_of_ble_eq_true rfl) (fun h77 h77I => ?_)
          refine z_istore (lv' := [(11, .int (iI (frP N i))), (7, .int (iI (s7 + (zb (stk N i))))), (6, .int (iI (s6 + (pk N i 6)))), (5, .int (iI (s5 + (pk N i 5)))), (4, .int (iI (s4 + (pk N i 4)))), (10, .int (iI (pk N i 3))), (9, .int (iI (pk N i 2))), (8, .int (iI i)), (3, .ref q3), (2, .ref q2), (1, .ref q1), (0, .ref (obX ad))]) ok dL_agree_169 (by decide) rfl ?_
          refine z_aload_n ok dL_agree_171 rfl ?_
          refine z_iload ok dL_agree_172 rfl ?_
          refine z_iconst ok dL_agree_174 ?_
          refine o_ofPacket (v := pk N i 1) ok h77I hw (by omega) (by decide) (v_pk (hq) (by decide)) qm_RL_14 dL_agree_175 (by decide) ⟨by decide, by decide⟩ (Nat.le_of_ble_eq_true rfl) (fun h78 h78I => ?_)
          refine z_istore (lv' := [(12, .int (iI (pk N i 1))), (11, .int (iI (frP N i))), (7, .int (iI (s7 + (zb (stk N i))))), (6, .int (iI (s6 + (pk N i 6)))), (5, .int (iI (s5 + (pk N i 5)))), (4, .int (iI (s4 + (pk N i 4)))), (10, .int (iI (pk N i 3))), (9, .int (iI (pk N i 2))), (8, .int (iI i)), (3, .ref q3), (2, .ref q2), (1, .ref q1), (0, .ref (obX ad))]) ok dL_agree_178 (by decide) rfl ?_
          refine z_iload ok dL_agree_180 rfl ?_
          refine z_iconst ok dL_agree_182 ?_
          refine z_icmp_ne (tgt := 233) ok dL_agree_183 (by decide) (by omega) (by decide) (fun c183 => ?_) (fun c => (by omega : False).elim)
          refine z_aload_n ok dL_agree_233 rfl ?_
          refine z_iload ok dL_agree_234 rfl ?_
          refine z_bipush ok dL_agree_236 (by decide) ?_
          refine o_ofPacket (v := pk N i 8) ok h78I hw (by omega) (by decide) (v_pk (hq) (by decide)) qm_RL_14 dL_agree_238 (by decide) ⟨by decide, by decide⟩ (Nat.le_of_ble_eq_true rfl) (fun h79 h79I => ?_)
          refine z_bipush ok dL_agree_241 (by decide) ?_
          refine z_icmp_ne (tgt := 258) ok dL_agree_243 (by decide) (by omega) (by decide) (fun c => (by omega : False).elim) (fun c243 => ?_)
          refine z_iload ok dL_agree_246 rfl ?_
          refine z_iload ok dL_agree_248 rfl ?_
          refine z_icmp_eq (tgt := 258) ok dL_agree_250 (by decide) (by omega) (by omega) (fun c => (by omega : False).elim) (fun c250 => ?_)
          refine z_iload ok dL_agree_253 rfl ?_
          refine z_if_ne (tgt := 260) ok dL_agree_255 (by decide) (by omega) (fun c255 => ?_) (fun c => (by omega : False).elim)
          refine z_iload ok dL_agree_260 rfl ?_
          refine z_if_ne (tgt := 287) ok dL_agree_262 (by decide) (by omega) (fun c262 => ?_) (fun c => (by omega : False).elim)
          refine z_iload ok dL_agree_287 rfl ?_
          refine z_if_le (tgt := 316) ok dL_agree_289 (by decide) (by omega) (fun c => (by omega : False).elim) (fun c289 => ?_)
          refine z_iload ok dL_agree_292 rfl ?_
          refine z_aload_n ok dL_agree_294 rfl ?_
          refine z_iload ok dL_agree_295 rfl ?_
          refine z_iload ok dL_agree_297 rfl ?_
          refine l_apart (v := dist N (pk N i 3) (pk N i 1)) ok h79I hw (by assumption) (by assumption) (rfl) qm_RL_18 dL_agree_299 (by decide) ⟨by decide, by decide⟩ (Nat.le_of_ble_eq_true rfl) (fun h80 h80I => ?_)
          refine z_icmp_lt (tgt := 351) ok dL_agree_302 (by decide) (by omega) (by omega) (fun c => (by omega : False).elim) (fun c302 => ?_)
          refine z_aload_n ok dL_agree_305 rfl ?_
          refine z_iload ok dL_agree_306 rfl ?_
          refine z_bipush ok dL_agree_308 (by decide) ?_
          refine o_ofPacket (v := fsV N i) ok h80I hw (by omega) (by decide) (v_fs (hq)) qm_RL_14 dL_agree_310 (by decide) ⟨by decide, by decide⟩ (Nat.le_of_ble_eq_true rfl) (fun h81 h81I => ?_)
          refine z_if_lt (tgt := 351) ok dL_agree_313 (by decide) (by omega) (fun c => (by omega : False).elim) (fun c313 => ?_)
          refine z_iload ok dL_agree_316 rfl ?_
          refine z_if_ge (tgt := 334) ok dL_agree_318 (by decide) (by omega) (fun c318 => ?_) (fun c => (by omega : False).elim)
          refine z_iload ok dL_agree_334 rfl ?_
          refine z_iconst ok dL_agree_336 ?_
          refine z_icmp_eq (tgt := 353) ok dL_agree_337 (by decide) (by omega) (by decide) (fun c337 => ?_) (fun c => (by omega : False).elim)
          refine z_aload_n ok dL_agree_353 rfl ?_
          refine z_aload_n ok dL_agree_354 rfl ?_
          refine z_iload ok dL_agree_355 rfl ?_
          refine z_iconst ok dL_agree_357 ?_
          refine o_ofPacket (v := pk N i 0) ok h81I hw (by omega) (by decide) (v_pk (hq) (by decide)) qm_RL_14 dL_agree_358 (by decide) ⟨by decide, by decide⟩ (Nat.le_of_ble_eq_true rfl) (fun h82 h82I => ?_)
          refine z_iload ok dL_agree_361 rfl ?_
          refine l_apart (v := dist N (pk N i 0) (pk N i 1)) ok h82I hw (by assumption) (by assumption) (rfl) qm_RL_18 dL_agree_363 (by decide) ⟨by decide, by decide⟩ (Nat.le_of_ble_eq_true rfl) (fun h83 h83I => ?_)
          refine z_aload_n ok dL_agree_366 rfl ?_
          refine z_iload ok dL_agree_367 rfl ?_
          refine z_iload ok dL_agree_369 rfl ?_
          refine l_apart (v := dist N (pk N i 3) (pk N i 1)) ok h83I hw (by assumption) (by assumption) (rfl) qm_RL_18 dL_agree_371 (by decide) ⟨by decide, by decide⟩ (Nat.le_of_ble_eq_true rfl) (fun h84 h84I => ?_)
          refine z_isub ok dL_agree_374 ?_
          refine z_aload_n ok dL_agree_375 rfl ?_
          refine z_iload ok dL_agree_376 rfl ?_
          refine z_iconst ok dL_agree_378 ?_
          refine o_ofPacket (v := pk N i 4) ok h84I hw (by omega) (by decide) (v_pk (hq) (by decide)) qm_RL_14 dL_agree_379 (by decide) ⟨by decide, by decide⟩ (Nat.le_of_ble_eq_true rfl) (fun h85 h85I => ?_)
          refine z_iconst ok dL_agree_382 ?_
          refine z_aload_n ok dL_agree_383 rfl ?_
          refine z_iload ok dL_agree_384 rfl ?_
          refine z_iconst ok dL_agree_386 ?_
          refine o_ofPacket (v := pk N i 5) ok h85I hw (by omega) (by decide) (v_pk (hq) (by decide)) qm_RL_14 dL_agree_387 (by decide) ⟨by decide, by decide⟩ (Nat.le_of_ble_eq_true rfl) (fun h86 h86I => ?_)
          refine z_imul ok dL_agree_390 ?_
          refine z_isub ok dL_agree_391 ?_
          refine z_icmp_eq (tgt := 397) ok dL_agree_392 (by decide) (by omega) (by omega) (fun c392 => ?_) (fun c => (by omega : False).elim)
          refine z_iinc (lv' := [(8, .int (iI (i + 1))), (12, .int (iI (pk N i 1))), (11, .int (iI (frP N i))), (7, .int (iI (s7 + (zb (stk N i))))), (6, .int (iI (s6 + (pk N i 6)))), (5, .int (iI (s5 + (pk N i 5)))), (4, .int (iI (s4 + (pk N i 4)))), (10, .int (iI (pk N i 3))), (9, .int (iI (pk N i 2))), (3, .ref q3), (2, .ref q2), (1, .ref q1), (0, .ref (obX ad))]) ok dL_agree_397 8 rfl (by decide) rfl ?_
          refine z_goto (tgt := 30) ok dL_agree_400 (by decide) ?_
          refine z_lsub ok (lv' := [(8, .int (iI (i + 1))), (7, .int (iI (s7 + (zb (stk N i))))), (6, .int (iI (s6 + (pk N i 6)))), (5, .int (iI (s5 + (pk N i 5)))), (4, .int (iI (s4 + (pk N i 4)))), (3, .ref q3), (2, .ref q2), (1, .ref q1), (0, .ref (obX ad))]) [0, 3, 4, 5, 6, 9, 10, 11, 12] rfl ?_
          exact ih (i + 1) (zu f1 (pk N i 3) ((f1 (pk N i 3)) + 0)) (zu f2 (pk N i 3) ((f2 (pk N i 3)) + 1)) (zu f3 (pk N i 3) ((f3 (pk N i 3)) + 0)) (s4 + (pk N i 4)) (s5 + (pk N i 5)) (s6 + (pk N i 6)) (s7 + (zb (stk N i))) h86 (by omega) (by omega) (cnt_inc i0 r1 x0) (cnt_inc i0 r2 x1) (cnt_inc i0 r3 x2) (by rw [zS_s i0, ← e4]) (by rw [zS_s i0, ← e5]) (by rw [zS_s i0, ← e6]) (by rw [zS_s i0, ← e7]) h86I (by omega)
  refine z_lsub ok (lv' := [(0, .ref (obX ad))]) [0] rfl ?_
  refine z_eq (ws' := ([] : va_W) ++ (obW Z ad N h ++ ([] : va_W))) o_in ?_
  refine z_bipush ok dL_agree_0 (by decide) ?_
  refine z_newai ok 25 qa__int dL_agree_2 rfl (by decide) (by decide) (by decide) (fun _ => rfl) (fun q1 => ?_)
  refine z_perm (ws' := [aW Z q1 25 (fun _ => 0)] ++ (obW Z ad N h ++ ([] : va_W))) List.perm_append_comm ?_
  refine z_astore_n (lv' := [(1, .ref q1), (0, .ref (obX ad))]) ok dL_agree_4 (by decide) rfl ?_
  refine z_bipush ok dL_agree_5 (by decide) ?_
  refine z_newai ok 25 qa__int dL_agree_7 rfl (by decide) (by decide) (by decide) (fun _ => rfl) (fun q2 => ?_)
  refine z_perm (ws' := [aW Z q2 25 (fun _ => 0), aW Z q1 25 (fun _ => 0)] ++ (obW Z ad N h ++ ([] : va_W))) List.perm_append_comm ?_
  refine z_astore_n (lv' := [(2, .ref q2), (1, .ref q1), (0, .ref (obX ad))]) ok dL_agree_9 (by decide) rfl ?_
  refine z_bipush ok dL_agree_10 (by decide) ?_
  refine z_newai ok 25 qa__int dL_agree_12 rfl (by decide) (by decide) (by decide) (fun _ => rfl) (fun q3 => ?_)
  refine z_perm (ws' := [aW Z q3 25 (fun _ => 0), aW Z q2 25 (fun _ => 0), aW Z q1 25 (fun _ => 0)] ++ (obW Z ad N h ++ ([] : va_W))) List.perm_append_comm ?_
  refine z_astore_n (lv' := [(3, .ref q3), (2, .ref q2), (1, .ref q1), (0, .ref (obX ad))]) ok dL_agree_14 (by decide) rfl ?_
  refine z_iconst ok dL_agree_15 ?_
  refine z_istore (lv' := [(4, .int (iI 0)), (3, .ref q3), (2, .ref q2), (1, .ref q1), (0, .ref (obX ad))]) ok dL_agree_16 (by decide) rfl ?_
  refine z_iconst ok dL_agree_18 ?_
  refine z_istore (lv' := [(5, .int (iI 0)), (4, .int (iI 0)), (3, .ref q3), (2, .ref q2), (1, .ref q1), (0, .ref (obX ad))]) ok dL_agree_19 (by decide) rfl ?_
  refine z_iconst ok dL_agree_21 ?_
  refine z_istore (lv' := [(6, .int (iI 0)), (5, .int (iI 0)), (4, .int (iI 0)), (3, .ref q3), (2, .ref q2), (1, .ref q1), (0, .ref (obX ad))]) ok dL_agree_22 (by decide) rfl ?_
  refine z_iconst ok dL_agree_24 ?_
  refine z_istore (lv' := [(7, .int (iI 0)), (6, .int (iI 0)), (5, .int (iI 0)), (4, .int (iI 0)), (3, .ref q3), (2, .ref q2), (1, .ref q1), (0, .ref (obX ad))]) ok dL_agree_25 (by decide) rfl ?_
  refine z_iconst ok dL_agree_27 ?_
  refine z_istore (lv' := [(8, .int (iI 0)), (7, .int (iI 0)), (6, .int (iI 0)), (5, .int (iI 0)), (4, .int (iI 0)), (3, .ref q3), (2, .ref q2), (1, .ref q1), (0, .ref (obX ad))]) ok dL_agree_28 (by decide) rfl ?_
  refine z_lsub ok (lv' := [(8, .int (iI 0)), (7, .int (iI 0)), (6, .int (iI 0)), (5, .int (iI 0)), (4, .int (iI 0)), (3, .ref q3), (2, .ref q2), (1, .ref q1), (0, .ref (obX ad))]) [0, 1, 2, 3, 4, 5, 6, 7, 8] rfl ?_
  exact L30 q1 q2 q3 _ 0 (fun _ => 0) (fun _ => 0) (fun _ => 0) 0 0 0 0 h (Int.le_refl 0) (by omega) (fun b b0 b1 => rfl) (fun b b0 b1 => rfl) (fun b b0 b1 => rfl) rfl rfl rfl rfl hI (Nat.lt_succ_self _)
