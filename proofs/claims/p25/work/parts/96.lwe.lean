/-! the law: a packet alone -/
set_option maxHeartbeats 4000000 in
set_option maxRecDepth 20000 in
theorem c_L_isAlone {l : Launch} {Z : zZ} {bs L : Nat} {xs : Nat → Int32} {ad : zAd} {N : Int → Int} {h : zHd} {B f t : Int} (hI : obI N h) (hV : INV B N) (hf : isB N f) (ht : isB N t) : zJ (T := zHd) l yL_isAlone (Cond.code yL_isAlone cL_isAlone 11 (some .boolean) :: wsL_law) ({ frames := 9, cells := 181, slots := 8621, locals := 216 } : Room) Z bs L xs [.ref (obX ad), .int (iI f), .int (iI t)] (obW Z ad N h) (fun u => obW Z ad N u) (fun ρ u => ρ = 1 ∧ obI N u) := by
  refine zJ_of (C := RL) (by decide +kernel) rfl (Nat.le_of_ble_eq_true rfl) (fun ρ => ρ = 0 ∨ ρ = 1) znZ (fun X ok hnx hsc fin => ?_)
  have hw := hV.1.1
  have hcr := wf_cr hw
  have hc4 := hw.2.2.2.1
  have hr5 := hw.2.2.2.2.1
  have hw0 := hw.1
  have hw1 := hw.2.1
  have hfb := id hf
  have htb := id ht
  unfold isB at hfb htb
  have hdl := dist_le hw hfb htb
  have hbd := fr_bd (to := t) (s := 10 * f) hw htb (by omega)
  rw [show 10 * f / 10 = f by omega, show 10 * f % 5 = 0 by omega] at hbd
  have e5 : N 4 * N 5 / N 4 = N 5 := Int.mul_ediv_cancel_left _ (by omega)
  have hmn : mn N t (10 * f) ≤ 1073741824 := by
    rcases fr_cs N t (10 * f) with ⟨-, -, e⟩ | ⟨k, -, -, e⟩
    · omega
    · rw [e]; exact (wk_rng hw htb k (by omega)).2
  have L273 : f ≠ t → 1 ≤ fr N t (10 * f) → ∀ (aq : zAd) (fuel : Nat) (k : Int) (M : Int → Int) (g u : zHd), (0 ≤ k) → ((1 ≤ k ∧ AL (1 + (fr N t (10 * f) - k)) M f t (fr N t (10 * f)) k) ∨ (k = 0 ∧ ARR (1 + (fr N t (10 * f) - k)) M f t (fr N t (10 * f)))) → (M 4 = N 4 ∧ M 5 = N 5 ∧ M 1 = N 1) → (obI M g) → (obI N u) → (k ≤ fr N t (10 * f)) → k.toNat < fuel → zV X 181 8621 (([] : va_W) ++ (obW Z aq M g ++ (obW Z ad N u ++ ([] : va_W)))) 273 [(7, .int (iI k)), (6, .int (iI (dist N f t))), (5, .int (iI 0)), (4, .int (iI (fr N t (10 * f)))), (3, .ref (obX aq)), (2, .int (iI t)), (1, .int (iI f)), (0, .ref (obX ad))] [] := by
    intro hne hL1 aq fuel
    induction fuel with
    | zero => intro k M g u k0 hA hM gI uI kL hfu; exact absurd hfu (Nat.not_lt_zero _)
    | succ fuel ih =>
      intro k M g u k0 hA hM gI uI kL hfu
      obtain ⟨hM4, hM5, hM1⟩ := hM
      refine z_iload ok dL_isAlone_273 rfl ?_
      refine z_if_le (tgt := 432) ok dL_isAlone_275 (by decide) (by omega) (fun c275 => ?_) (fun c275 => ?_)
      · -- t
        have hA2 : ARR (1 + (fr N t (10 * f) - k)) M f t (fr N t (10 * f)) := by rcases hA with ⟨a, _⟩ | ⟨_, b⟩; omega; exact b
        obtain ⟨aI, a6, a0, a1, a2, a6p, a4, a3⟩ := id hA2
        have hwM := aI.1.1
        have hq : (0 : Int) ≤ 0 ∧ 0 < M 6 := ⟨Int.le_refl 0, by omega⟩
        have had := arr_d hA2
        rw [dist_4 hM4] at had
        have wpp := hwM.2.2.2.2.2.2.2 0 hq.1 hq.2
        refine z_aload_n ok dL_isAlone_432 rfl ?_
        refine z_iconst ok dL_isAlone_433 ?_
        refine z_iconst ok dL_isAlone_434 ?_
        refine o_ofPacket (v := pk M 0 2) ok gI hwM (by decide) (by decide) (v_pk (hq) (by decide)) qm_RL_14 dL_isAlone_435 (by decide) ⟨by decide, by decide⟩ (Nat.le_of_ble_eq_true rfl) (fun h1 h1I => ?_)
        refine z_iconst ok dL_isAlone_438 ?_
        refine z_icmp_ne (tgt := 487) ok dL_isAlone_439 (by decide) (by omega) (by decide) (fun c => (by omega : False).elim) (fun c439 => ?_)
        refine z_aload_n ok dL_isAlone_442 rfl ?_
        refine z_iconst ok dL_isAlone_443 ?_
        refine z_bipush ok dL_isAlone_444 (by decide) ?_
        refine o_ofPacket (v := pk M 0 6) ok h1I hwM (by decide) (by decide) (v_pk (hq) (by decide)) qm_RL_14 dL_isAlone_446 (by decide) ⟨by decide, by decide⟩ (Nat.le_of_ble_eq_true rfl) (fun h2 h2I => ?_)
        refine z_if_ne (tgt := 487) ok dL_isAlone_449 (by decide) (by omega) (fun c => (by omega : False).elim) (fun c449 => ?_)
        refine z_aload_n ok dL_isAlone_452 rfl ?_
        refine z_iconst ok dL_isAlone_453 ?_
        refine z_iconst ok dL_isAlone_454 ?_
        refine o_ofPacket (v := pk M 0 5) ok h2I hwM (by decide) (by decide) (v_pk (hq) (by decide)) qm_RL_14 dL_isAlone_455 (by decide) ⟨by decide, by decide⟩ (Nat.le_of_ble_eq_true rfl) (fun h3 h3I => ?_)
        refine z_iload ok dL_isAlone_458 rfl ?_
        refine z_iload ok dL_isAlone_460 rfl ?_
        refine z_isub ok dL_isAlone_462 ?_
        refine z_iconst ok dL_isAlone_463 ?_
        refine z_idiv ok dL_isAlone_464 (by omega) (by omega) ?_
        refine z_icmp_ne (tgt := 487) ok dL_isAlone_465 (by decide) (by omega) (by omega) (fun c => (by omega : False).elim) (fun c465 => ?_)
        refine z_aload_n ok dL_isAlone_468 rfl ?_
        refine z_iconst ok dL_isAlone_469 ?_
        refine z_iconst ok dL_isAlone_470 ?_
        refine o_ofPacket (v := pk M 0 5) ok h3I hwM (by decide) (by decide) (v_pk (hq) (by decide)) qm_RL_14 dL_isAlone_471 (by decide) ⟨by decide, by decide⟩ (Nat.le_of_ble_eq_true rfl) (fun h4 h4I => ?_)
        refine z_aload_n ok dL_isAlone_474 rfl ?_
        refine z_bipush ok dL_isAlone_475 (by decide) ?_
        refine o_count (v := M 1) ok h4I hwM (by decide) (v_c15) qm_RL_8 dL_isAlone_477 (by decide) ⟨by decide, by decide⟩ (Nat.le_of_ble_eq_true rfl) (fun h5 h5I => ?_)
        refine z_icmp_gt (tgt := 487) ok dL_isAlone_480 (by decide) (by omega) (by omega) (fun c => (by omega : False).elim) (fun c480 => ?_)
        refine z_iconst ok dL_isAlone_483 ?_
        refine z_goto (tgt := 488) ok dL_isAlone_484 (by decide) ?_
        refine z_drop ?_
        refine z_drop ?_
        refine z_eq (ws' := obW Z ad N u) (List.append_nil _) ?_
        exact fin 1 u 488 _ _ _ dL_isAlone_488 (by decide) ⟨rfl, uI⟩ (by decide) (by decide)
      · -- f
        have hA2 : AL (1 + (fr N t (10 * f) - k)) M f t (fr N t (10 * f)) k := by rcases hA with ⟨_, b⟩ | ⟨a, _⟩; exact b; omega
        obtain ⟨s1, s2, s3, s4, s5, s6, s7, s8⟩ := al_step hA2
        obtain ⟨aI, a6, a0, a1, a2, a6p, a4, aF, a1k⟩ := id hA2
        have hwM := aI.1.1
        have hq : (0 : Int) ≤ 0 ∧ 0 < M 6 := ⟨Int.le_refl 0, by omega⟩
        have wpp := hwM.2.2.2.2.2.2.2 0 hq.1 hq.2
        have hcrM := wf_cr hwM
        have hM0r := hwM.1
        have hfv : fsV M 0 = fsN M 0 := if_neg (by omega)
        have hfp : frP M 0 = k := by unfold frP; rw [a1]; exact aF
        have h3M := aI.1.2.1
        have hI2 := INV_pas aI
        have hw2 := hI2.1.1
        have hlo := (wf_pas hwM).2
        have e6 : pasN M 6 = M 6 := hlo 6 (by decide) (by decide)
        have e4 : pasN M 4 = M 4 := hlo 4 (by decide) (by decide)
        have eq5 : pasN M 5 = M 5 := hlo 5 (by decide) (by decide)
        have e1 : pasN M 1 = M 1 := hlo 1 (by decide) (by decide)
        have hq2 : (0 : Int) ≤ 0 ∧ 0 < pasN M 6 := ⟨Int.le_refl 0, by omega⟩
        have hbM : isB M (pk M 0 3) := by unfold isB; omega
        have hb2 : isB (pasN M) (pk M 0 3) := by unfold isB; rw [e4, eq5]; omega
        have hlk : lkV M (pk M 0 3) (fsN M 0) = 1 := by unfold lkV; rw [if_neg (by omega)]; exact zb_t s2
        have wpp2 := hw2.2.2.2.2.2.2.2 0 hq2.1 hq2.2
        have hmr := hI2.1.2.2.1 (4 * pk M 0 3 + fsN M 0) (by omega) (by omega)
        rw [show 60 + (4 * pk M 0 3 + fsN M 0) = 60 + 4 * pk M 0 3 + fsN M 0 by omega] at hmr
        have h32 := hI2.1.2.1
        rcases (show (pk M 0 9 = 1 ∧ fsN M 0 = 0 ∧ M 0 ≠ 1) ∨ (pk M 0 9 = 1 ∧ fsN M 0 ≠ 0 ∧ M 0 = 1) ∨ (pk M 0 9 = 1 ∧ fsN M 0 ≠ 0 ∧ M 0 ≠ 1) ∨ (pk M 0 9 ≠ 1 ∧ fsN M 0 = 0 ∧ M 0 = 1) ∨ (pk M 0 9 ≠ 1 ∧ fsN M 0 = 0 ∧ M 0 ≠ 1) ∨ (pk M 0 9 ≠ 1 ∧ fsN M 0 ≠ 0 ∧ M 0 = 1) ∨ (pk M 0 9 ≠ 1 ∧ fsN M 0 ≠ 0 ∧ M 0 ≠ 1) by omega) with c | c | c | c | c | c | c
        · -- 100
          rw [if_pos c.2.1] at s7
          refine z_aload_n ok dL_isAlone_278 rfl ?_
          refine z_iconst ok dL_isAlone_279 ?_
          refine z_iconst ok dL_isAlone_280 ?_
          refine o_ofPacket (v := pk M 0 3) ok gI hwM (by decide) (by decide) (v_pk (hq) (by decide)) qm_RL_14 dL_isAlone_281 (by decide) ⟨by decide, by decide⟩ (Nat.le_of_ble_eq_true rfl) (fun h6 h6I => ?_)
          refine z_istore (lv' := [(8, .int (iI (pk M 0 3))), (7, .int (iI k)), (6, .int (iI (dist N f t))), (5, .int (iI 0)), (4, .int (iI (fr N t (10 * f)))), (3, .ref (obX aq)), (2, .int (iI t)), (1, .int (iI f)), (0, .ref (obX ad))]) ok dL_isAlone_284 (by decide) rfl ?_
          refine z_aload_n ok dL_isAlone_286 rfl ?_
          refine z_iconst ok dL_isAlone_287 ?_
          refine z_bipush ok dL_isAlone_288 (by decide) ?_
          refine o_ofPacket (v := fsN M 0) ok h6I hwM (by decide) (by decide) ((v_fs hq).trans hfv) qm_RL_14 dL_isAlone_290 (by decide) ⟨by decide, by decide⟩ (Nat.le_of_ble_eq_true rfl) (fun h7 h7I => ?_)
          refine z_istore (lv' := [(9, .int (iI (fsN M 0))), (8, .int (iI (pk M 0 3))), (7, .int (iI k)), (6, .int (iI (dist N f t))), (5, .int (iI 0)), (4, .int (iI (fr N t (10 * f)))), (3, .ref (obX aq)), (2, .int (iI t)), (1, .int (iI f)), (0, .ref (obX ad))]) ok dL_isAlone_293 (by decide) rfl ?_
          refine z_aload_n ok dL_isAlone_295 rfl ?_
          refine z_iconst ok dL_isAlone_296 ?_
          refine z_bipush ok dL_isAlone_297 (by decide) ?_
          refine o_ofPacket (v := pk M 0 9) ok h7I hwM (by decide) (by decide) (v_pk (hq) (by decide)) qm_RL_14 dL_isAlone_299 (by decide) ⟨by decide, by decide⟩ (Nat.le_of_ble_eq_true rfl) (fun h8 h8I => ?_)
          refine z_iconst ok dL_isAlone_302 ?_
          refine z_icmp_ne (tgt := 310) ok dL_isAlone_303 (by decide) (by omega) (by decide) (fun c => (by omega : False).elim) (fun c303 => ?_)
          refine z_iconst ok dL_isAlone_306 ?_
          refine z_goto (tgt := 311) ok dL_isAlone_307 (by decide) ?_
          refine z_istore (lv' := [(10, .int (iI 1)), (9, .int (iI (fsN M 0))), (8, .int (iI (pk M 0 3))), (7, .int (iI k)), (6, .int (iI (dist N f t))), (5, .int (iI 0)), (4, .int (iI (fr N t (10 * f)))), (3, .ref (obX aq)), (2, .int (iI t)), (1, .int (iI f)), (0, .ref (obX ad))]) ok dL_isAlone_311 (by decide) rfl ?_
          refine z_aload_n ok dL_isAlone_313 rfl ?_
          refine z_iconst ok dL_isAlone_314 ?_
          refine z_bipush ok dL_isAlone_315 (by decide) ?_
          refine o_ofPacket (v := frP M 0) ok h8I hwM (by decide) (by decide) (v_fr (hq)) qm_RL_14 dL_isAlone_317 (by decide) ⟨by decide, by decide⟩ (Nat.le_of_ble_eq_true rfl) (fun h9 h9I => ?_)
          refine z_iload ok dL_isAlone_320 rfl ?_
          refine z_icmp_ne (tgt := 359) ok dL_isAlone_322 (by decide) (by omega) (by omega) (fun c => (by omega : False).elim) (fun c322 => ?_)
          refine z_aload_n ok dL_isAlone_325 rfl ?_
          refine z_iload ok dL_isAlone_326 rfl ?_
          refine z_iconst ok dL_isAlone_328 ?_
          refine z_iload ok dL_isAlone_329 rfl ?_
          refine z_iadd ok dL_isAlone_331 ?_
          refine o_ofBox (v := lkV M (pk M 0 3) (fsN M 0)) ok h9I hwM (by omega) (by omega) (v_bl (hbM) (by omega) rfl) qm_RL_24 dL_isAlone_332 (by decide) ⟨by decide, by decide⟩ (Nat.le_of_ble_eq_true rfl) ?_
          refine z_iconst ok dL_isAlone_335 ?_
          refine z_icmp_ne (tgt := 359) ok dL_isAlone_336 (by decide) (by omega) (by decide) (fun c => (by omega : False).elim) (fun c336 => ?_)
          refine z_aload_n ok dL_isAlone_339 rfl ?_
          refine z_bipush ok dL_isAlone_340 (by decide) ?_
          refine o_count (v := M 0) ok h9I hwM (by decide) (v_c14) qm_RL_8 dL_isAlone_342 (by decide) ⟨by decide, by decide⟩ (Nat.le_of_ble_eq_true rfl) (fun h10 h10I => ?_)
          refine z_iconst ok dL_isAlone_345 ?_
          refine z_icmp_ne (tgt := 361) ok dL_isAlone_346 (by decide) (by omega) (by decide) (fun c346 => ?_) (fun c => (by omega : False).elim)
          refine z_aload_n ok dL_isAlone_361 rfl ?_
          refine z_iconst ok dL_isAlone_362 ?_
          refine o_ticks ok h10I hwM (by decide) qm_RL_30 dL_isAlone_363 (by decide) ⟨by decide, by decide⟩ (Nat.le_of_ble_eq_true rfl) (fun r13 N12 h11 h11I h11c => ?_)
          obtain ⟨q2, q3⟩ : r13 = M 3 + 1 ∧ N12 = pasN M := by rcases h11c with ⟨a, _, _⟩ | ⟨_, a, b⟩; exact absurd ⟨by decide, by decide⟩ a; exact ⟨a, b⟩
          rw [q3] at h11I
          rw [q2, q3]
          refine z_pop ok dL_isAlone_366 rfl ?_
          refine z_aload_n ok dL_isAlone_367 rfl ?_
          refine z_iconst ok dL_isAlone_368 ?_
          refine z_iconst ok dL_isAlone_369 ?_
          refine o_ofPacket (v := pk (pasN M) 0 3) ok h11I hw2 (by decide) (by decide) (v_pk (hq2) (by decide)) qm_RL_14 dL_isAlone_370 (by decide) ⟨by decide, by decide⟩ (Nat.le_of_ble_eq_true rfl) (fun h14 h14I => ?_)
          refine z_aload_n ok dL_isAlone_373 rfl ?_
          refine z_iload ok dL_isAlone_374 rfl ?_
          refine z_iload ok dL_isAlone_376 rfl ?_
          refine l_beside (v := nb M (pk M 0 3) (fsN M 0)) ok h14I hw2 (hb2) (by omega) (nb_45 e4 eq5) qm_RL_27 dL_isAlone_378 (by decide) ⟨by decide, by decide⟩ (Nat.le_of_ble_eq_true rfl) (fun h15 h15I => ?_)
          refine z_icmp_ne (tgt := 424) ok dL_isAlone_381 (by decide) (by omega) (by omega) (fun c => (by omega : False).elim) (fun c381 => ?_)
          refine z_aload_n ok dL_isAlone_384 rfl ?_
          refine z_iload ok dL_isAlone_385 rfl ?_
          refine z_bipush ok dL_isAlone_387 (by decide) ?_
          refine z_iload ok dL_isAlone_389 rfl ?_
          refine z_iadd ok dL_isAlone_391 ?_
          refine o_ofBox (v := (pasN M) (60 + 4 * (pk M 0 3) + (fsN M 0))) ok h15I hw2 (by omega) (by omega) (v_bm (hb2) (by omega) rfl) qm_RL_24 dL_isAlone_392 (by decide) ⟨by decide, by decide⟩ (Nat.le_of_ble_eq_true rfl) ?_
          refine z_iconst ok dL_isAlone_395 ?_
          refine z_icmp_lt (tgt := 424) ok dL_isAlone_396 (by decide) (by omega) (by decide) (fun c => (by omega : False).elim) (fun c396 => ?_)
          refine z_aload_n ok dL_isAlone_399 rfl ?_
          refine z_iconst ok dL_isAlone_400 ?_
          refine z_bipush ok dL_isAlone_401 (by decide) ?_
          refine o_ofPacket (v := pk (pasN M) 0 9) ok h15I hw2 (by decide) (by decide) (v_pk (hq2) (by decide)) qm_RL_14 dL_isAlone_403 (by decide) ⟨by decide, by decide⟩ (Nat.le_of_ble_eq_true rfl) (fun h16 h16I => ?_)
          refine z_iload ok dL_isAlone_406 rfl ?_
          refine z_if_ne (tgt := 416) ok dL_isAlone_408 (by decide) (by decide) (fun c408 => ?_) (fun c => absurd c (by decide))
          refine z_iconst ok dL_isAlone_416 ?_
          refine z_goto (tgt := 421) ok dL_isAlone_417 (by decide) ?_
          refine z_icmp_eq (tgt := 426) ok dL_isAlone_421 (by decide) (by omega) (by decide) (fun c421 => ?_) (fun c => (by omega : False).elim)
          refine z_iinc (lv' := [(7, .int (iI (k + (-1)))), (10, .int (iI 1)), (9, .int (iI (fsN M 0))), (8, .int (iI (pk M 0 3))), (6, .int (iI (dist N f t))), (5, .int (iI 0)), (4, .int (iI (fr N t (10 * f)))), (3, .ref (obX aq)), (2, .int (iI t)), (1, .int (iI f)), (0, .ref (obX ad))]) ok dL_isAlone_426 3 rfl (by decide) rfl ?_
          refine z_goto (tgt := 273) ok dL_isAlone_429 (by decide) ?_
          refine z_lsub ok (lv' := [(7, .int (iI (k + (-1)))), (6, .int (iI (dist N f t))), (5, .int (iI 0)), (4, .int (iI (fr N t (10 * f)))), (3, .ref (obX aq)), (2, .int (iI t)), (1, .int (iI f)), (0, .ref (obX ad))]) [0, 4, 5, 6, 7, 8, 9, 10] rfl ?_
          have hnx : (1 ≤ k + (-1) ∧ AL (1 + (fr N t (10 * f) - (k + (-1)))) (pasN M) f t (fr N t (10 * f)) (k + (-1))) ∨ (k + (-1) = 0 ∧ ARR (1 + (fr N t (10 * f) - (k + (-1)))) (pasN M) f t (fr N t (10 * f))) := by
            rw [show 1 + (fr N t (10 * f) - (k + (-1))) = 1 + (fr N t (10 * f) - k) + 1 by omega]
            rcases s8 with ⟨a, b⟩ | ⟨a, b⟩
            · exact Or.inr ⟨by omega, b⟩
            · exact Or.inl ⟨by omega, b⟩
          exact ih (k + (-1)) (pasN M) h16 u (by omega) hnx ⟨by omega, by omega, by omega⟩ h16I uI (by omega) (by omega)
        · -- 111
          rw [if_neg c.2.1] at s7
          refine z_aload_n ok dL_isAlone_278 rfl ?_
          refine z_iconst ok dL_isAlone_279 ?_
          refine z_iconst ok dL_isAlone_280 ?_
          refine o_ofPacket (v := pk M 0 3) ok gI hwM (by decide) (by decide) (v_pk (hq) (by decide)) qm_RL_14 dL_isAlone_281 (by decide) ⟨by decide, by decide⟩ (Nat.le_of_ble_eq_true rfl) (fun h17 h17I => ?_)
          refine z_istore (lv' := [(8, .int (iI (pk M 0 3))), (7, .int (iI k)), (6, .int (iI (dist N f t))), (5, .int (iI 0)), (4, .int (iI (fr N t (10 * f)))), (3, .ref (obX aq)), (2, .int (iI t)), (1, .int (iI f)), (0, .ref (obX ad))]) ok dL_isAlone_284 (by decide) rfl ?_
          refine z_aload_n ok dL_isAlone_286 rfl ?_
          refine z_iconst ok dL_isAlone_287 ?_
          refine z_bipush ok dL_isAlone_288 (by decide) ?_
          refine o_ofPacket (v := fsN M 0) ok h17I hwM (by decide) (by decide) ((v_fs hq).trans hfv) qm_RL_14 dL_isAlone_290 (by decide) ⟨by decide, by decide⟩ (Nat.le_of_ble_eq_true rfl) (fun h18 h18I => ?_)
          refine z_istore (lv' := [(9, .int (iI (fsN M 0))), (8, .int (iI (pk M 0 3))), (7, .int (iI k)), (6, .int (iI (dist N f t))), (5, .int (iI 0)), (4, .int (iI (fr N t (10 * f)))), (3, .ref (obX aq)), (2, .int (iI t)), (1, .int (iI f)), (0, .ref (obX ad))]) ok dL_isAlone_293 (by decide) rfl ?_
          refine z_aload_n ok dL_isAlone_295 rfl ?_
          refine z_iconst ok dL_isAlone_296 ?_
          refine z_bipush ok dL_isAlone_297 (by decide) ?_
          refine o_ofPacket (v := pk M 0 9) ok h18I hwM (by decide) (by decide) (v_pk (hq) (by decide)) qm_RL_14 dL_isAlone_299 (by decide) ⟨by decide, by decide⟩ (Nat.le_of_ble_eq_true rfl) (fun h19 h19I => ?_)
          refine z_iconst ok dL_isAlone_302 ?_
          refine z_icmp_ne (tgt := 310) ok dL_isAlone_303 (by decide) (by omega) (by decide) (fun c => (by omega : False).elim) (fun c303 => ?_)
          refine z_iconst ok dL_isAlone_306 ?_
          refine z_goto (tgt := 311) ok dL_isAlone_307 (by decide) ?_
          refine z_istore (lv' := [(10, .int (iI 1)), (9, .int (iI (fsN M 0))), (8, .int (iI (pk M 0 3))), (7, .int (iI k)), (6, .int (iI (dist N f t))), (5, .int (iI 0)), (4, .int (iI (fr N t (10 * f)))), (3, .ref (obX aq)), (2, .int (iI t)), (1, .int (iI f)), (0, .ref (obX ad))]) ok dL_isAlone_311 (by decide) rfl ?_
          refine z_aload_n ok dL_isAlone_313 rfl ?_
          refine z_iconst ok dL_isAlone_314 ?_
          refine z_bipush ok dL_isAlone_315 (by decide) ?_
          refine o_ofPacket (v := frP M 0) ok h19I hwM (by decide) (by decide) (v_fr (hq)) qm_RL_14 dL_isAlone_317 (by decide) ⟨by decide, by decide⟩ (Nat.le_of_ble_eq_true rfl) (fun h20 h20I => ?_)
          refine z_iload ok dL_isAlone_320 rfl ?_
          refine z_icmp_ne (tgt := 359) ok dL_isAlone_322 (by decide) (by omega) (by omega) (fun c => (by omega : False).elim) (fun c322 => ?_)
          refine z_aload_n ok dL_isAlone_325 rfl ?_
          refine z_iload ok dL_isAlone_326 rfl ?_
          refine z_iconst ok dL_isAlone_328 ?_
          refine z_iload ok dL_isAlone_329 rfl ?_
          refine z_iadd ok dL_isAlone_331 ?_
          refine o_ofBox (v := lkV M (pk M 0 3) (fsN M 0)) ok h20I hwM (by omega) (by omega) (v_bl (hbM) (by omega) rfl) qm_RL_24 dL_isAlone_332 (by decide) ⟨by decide, by decide⟩ (Nat.le_of_ble_eq_true rfl) ?_
          refine z_iconst ok dL_isAlone_335 ?_
          refine z_icmp_ne (tgt := 359) ok dL_isAlone_336 (by decide) (by omega) (by decide) (fun c => (by omega : False).elim) (fun c336 => ?_)
          refine z_aload_n ok dL_isAlone_339 rfl ?_
          refine z_bipush ok dL_isAlone_340 (by decide) ?_
          refine o_count (v := M 0) ok h20I hwM (by decide) (v_c14) qm_RL_8 dL_isAlone_342 (by decide) ⟨by decide, by decide⟩ (Nat.le_of_ble_eq_true rfl) (fun h21 h21I => ?_)
          refine z_iconst ok dL_isAlone_345 ?_
          refine z_icmp_ne (tgt := 361) ok dL_isAlone_346 (by decide) (by omega) (by decide) (fun c => (by omega : False).elim) (fun c346 => ?_)
          refine z_iload ok dL_isAlone_349 rfl ?_
          refine z_if_eq (tgt := 361) ok dL_isAlone_351 (by decide) (by decide) (fun c => absurd c (by decide)) (fun c351 => ?_)
          refine z_iload ok dL_isAlone_354 rfl ?_
          refine z_if_ne (tgt := 361) ok dL_isAlone_356 (by decide) (by omega) (fun c356 => ?_) (fun c => (by omega : False).elim)
          refine z_aload_n ok dL_isAlone_361 rfl ?_
          refine z_iconst ok dL_isAlone_362 ?_
          refine o_ticks ok h21I hwM (by decide) qm_RL_30 dL_isAlone_363 (by decide) ⟨by decide, by decide⟩ (Nat.le_of_ble_eq_true rfl) (fun r24 N23 h22 h22I h22c => ?_)
          obtain ⟨q2, q3⟩ : r24 = M 3 + 1 ∧ N23 = pasN M := by rcases h22c with ⟨a, _, _⟩ | ⟨_, a, b⟩; exact absurd ⟨by decide, by decide⟩ a; exact ⟨a, b⟩
          rw [q3] at h22I
          rw [q2, q3]
          refine z_pop ok dL_isAlone_366 rfl ?_
          refine z_aload_n ok dL_isAlone_367 rfl ?_
          refine z_iconst ok dL_isAlone_368 ?_
          refine z_iconst ok dL_isAlone_369 ?_
          refine o_ofPacket (v := pk (pasN M) 0 3) ok h22I hw2 (by decide) (by decide) (v_pk (hq2) (by decide)) qm_RL_14 dL_isAlone_370 (by decide) ⟨by decide, by decide⟩ (Nat.le_of_ble_eq_true rfl) (fun h25 h25I => ?_)
          refine z_aload_n ok dL_isAlone_373 rfl ?_
          refine z_iload ok dL_isAlone_374 rfl ?_
          refine z_iload ok dL_isAlone_376 rfl ?_
          refine l_beside (v := nb M (pk M 0 3) (fsN M 0)) ok h25I hw2 (hb2) (by omega) (nb_45 e4 eq5) qm_RL_27 dL_isAlone_378 (by decide) ⟨by decide, by decide⟩ (Nat.le_of_ble_eq_true rfl) (fun h26 h26I => ?_)
          refine z_icmp_ne (tgt := 424) ok dL_isAlone_381 (by decide) (by omega) (by omega) (fun c => (by omega : False).elim) (fun c381 => ?_)
          refine z_aload_n ok dL_isAlone_384 rfl ?_
          refine z_iload ok dL_isAlone_385 rfl ?_
          refine z_bipush ok dL_isAlone_387 (by decide) ?_
          refine z_iload ok dL_isAlone_389 rfl ?_
          refine z_iadd ok dL_isAlone_391 ?_
          refine o_ofBox (v := (pasN M) (60 + 4 * (pk M 0 3) + (fsN M 0))) ok h26I hw2 (by omega) (by omega) (v_bm (hb2) (by omega) rfl) qm_RL_24 dL_isAlone_392 (by decide) ⟨by decide, by decide⟩ (Nat.le_of_ble_eq_true rfl) ?_
          refine z_iconst ok dL_isAlone_395 ?_
          refine z_icmp_lt (tgt := 424) ok dL_isAlone_396 (by decide) (by omega) (by decide) (fun c => (by omega : False).elim) (fun c396 => ?_)
          refine z_aload_n ok dL_isAlone_399 rfl ?_
          refine z_iconst ok dL_isAlone_400 ?_
          refine z_bipush ok dL_isAlone_401 (by decide) ?_
          refine o_ofPacket (v := pk (pasN M) 0 9) ok h26I hw2 (by decide) (by decide) (v_pk (hq2) (by decide)) qm_RL_14 dL_isAlone_403 (by decide) ⟨by decide, by decide⟩ (Nat.le_of_ble_eq_true rfl) (fun h27 h27I => ?_)
          refine z_iload ok dL_isAlone_406 rfl ?_
          refine z_if_ne (tgt := 416) ok dL_isAlone_408 (by decide) (by decide) (fun c408 => ?_) (fun c => absurd c (by decide))
          refine z_iconst ok dL_isAlone_416 ?_
          refine z_goto (tgt := 421) ok dL_isAlone_417 (by decide) ?_
          refine z_icmp_eq (tgt := 426) ok dL_isAlone_421 (by decide) (by omega) (by decide) (fun c421 => ?_) (fun c => (by omega : False).elim)
          refine z_iinc (lv' := [(7, .int (iI (k + (-1)))), (10, .int (iI 1)), (9, .int (iI (fsN M 0))), (8, .int (iI (pk M 0 3))), (6, .int (iI (dist N f t))), (5, .int (iI 0)), (4, .int (iI (fr N t (10 * f)))), (3, .ref (obX aq)), (2, .int (iI t)), (1, .int (iI f)), (0, .ref (obX ad))]) ok dL_isAlone_426 3 rfl (by decide) rfl ?_
          refine z_goto (tgt := 273) ok dL_isAlone_429 (by decide) ?_
          refine z_lsub ok (lv' := [(7, .int (iI (k + (-1)))), (6, .int (iI (dist N f t))), (5, .int (iI 0)), (4, .int (iI (fr N t (10 * f)))), (3, .ref (obX aq)), (2, .int (iI t)), (1, .int (iI f)), (0, .ref (obX ad))]) [0, 4, 5, 6, 7, 8, 9, 10] rfl ?_
          have hnx : (1 ≤ k + (-1) ∧ AL (1 + (fr N t (10 * f) - (k + (-1)))) (pasN M) f t (fr N t (10 * f)) (k + (-1))) ∨ (k + (-1) = 0 ∧ ARR (1 + (fr N t (10 * f) - (k + (-1)))) (pasN M) f t (fr N t (10 * f))) := by
            rw [show 1 + (fr N t (10 * f) - (k + (-1))) = 1 + (fr N t (10 * f) - k) + 1 by omega]
            rcases s8 with ⟨a, b⟩ | ⟨a, b⟩
            · exact Or.inr ⟨by omega, b⟩
            · exact Or.inl ⟨by omega, b⟩
          exact ih (k + (-1)) (pasN M) h27 u (by omega) hnx ⟨by omega, by omega, by omega⟩ h27I uI (by omega) (by omega)
        · -- 110
          rw [if_neg c.2.1] at s7
          refine z_aload_n ok dL_isAlone_278 rfl ?_
          refine z_iconst ok dL_isAlone_279 ?_
          refine z_iconst ok dL_isAlone_280 ?_
          refine o_ofPacket (v := pk M 0 3) ok gI hwM (by decide) (by decide) (v_pk (hq) (by decide)) qm_RL_14 dL_isAlone_281 (by decide) ⟨by decide, by decide⟩ (Nat.le_of_ble_eq_true rfl) (fun h28 h28I => ?_)
          refine z_istore (lv' := [(8, .int (iI (pk M 0 3))), (7, .int (iI k)), (6, .int (iI (dist N f t))), (5, .int (iI 0)), (4, .int (iI (fr N t (10 * f)))), (3, .ref (obX aq)), (2, .int (iI t)), (1, .int (iI f)), (0, .ref (obX ad))]) ok dL_isAlone_284 (by decide) rfl ?_
          refine z_aload_n ok dL_isAlone_286 rfl ?_
          refine z_iconst ok dL_isAlone_287 ?_
          refine z_bipush ok dL_isAlone_288 (by decide) ?_
          refine o_ofPacket (v := fsN M 0) ok h28I hwM (by decide) (by decide) ((v_fs hq).trans hfv) qm_RL_14 dL_isAlone_290 (by decide) ⟨by decide, by decide⟩ (Nat.le_of_ble_eq_true rfl) (fun h29 h29I => ?_)
          refine z_istore (lv' := [(9, .int (iI (fsN M 0))), (8, .int (iI (pk M 0 3))), (7, .int (iI k)), (6, .int (iI (dist N f t))), (5, .int (iI 0)), (4, .int (iI (fr N t (10 * f)))), (3, .ref (obX aq)), (2, .int (iI t)), (1, .int (iI f)), (0, .ref (obX ad))]) ok dL_isAlone_293 (by decide) rfl ?_
          refine z_aload_n ok dL_isAlone_295 rfl ?_
          refine z_iconst ok dL_isAlone_296 ?_
          refine z_bipush ok dL_isAlone_297 (by decide) ?_
          refine o_ofPacket (v := pk M 0 9) ok h29I hwM (by decide) (by decide) (v_pk (hq) (by decide)) qm_RL_14 dL_isAlone_299 (by decide) ⟨by decide, by decide⟩ (Nat.le_of_ble_eq_true rfl) (fun h30 h30I => ?_)
          refine z_iconst ok dL_isAlone_302 ?_
          refine z_icmp_ne (tgt := 310) ok dL_isAlone_303 (by decide) (by omega) (by decide) (fun c => (by omega : False).elim) (fun c303 => ?_)
          refine z_iconst ok dL_isAlone_306 ?_
          refine z_goto (tgt := 311) ok dL_isAlone_307 (by decide) ?_
          refine z_istore (lv' := [(10, .int (iI 1)), (9, .int (iI (fsN M 0))), (8, .int (iI (pk M 0 3))), (7, .int (iI k)), (6, .int (iI (dist N f t))), (5, .int (iI 0)), (4, .int (iI (fr N t (10 * f)))), (3, .ref (obX aq)), (2, .int (iI t)), (1, .int (iI f)), (0, .ref (obX ad))]) ok dL_isAlone_311 (by decide) rfl ?_
          refine z_aload_n ok dL_isAlone_313 rfl ?_
          refine z_iconst ok dL_isAlone_314 ?_
          refine z_bipush ok dL_isAlone_315 (by decide) ?_
          refine o_ofPacket (v := frP M 0) ok h30I hwM (by decide) (by decide) (v_fr (hq)) qm_RL_14 dL_isAlone_317 (by decide) ⟨by decide, by decide⟩ (Nat.le_of_ble_eq_true rfl) (fun h31 h31I => ?_)
          refine z_iload ok dL_isAlone_320 rfl ?_
          refine z_icmp_ne (tgt := 359) ok dL_isAlone_322 (by decide) (by omega) (by omega) (fun c => (by omega : False).elim) (fun c322 => ?_)
          refine z_aload_n ok dL_isAlone_325 rfl ?_
          refine z_iload ok dL_isAlone_326 rfl ?_
          refine z_iconst ok dL_isAlone_328 ?_
          refine z_iload ok dL_isAlone_329 rfl ?_
          refine z_iadd ok dL_isAlone_331 ?_
          refine o_ofBox (v := lkV M (pk M 0 3) (fsN M 0)) ok h31I hwM (by omega) (by omega) (v_bl (hbM) (by omega) rfl) qm_RL_24 dL_isAlone_332 (by decide) ⟨by decide, by decide⟩ (Nat.le_of_ble_eq_true rfl) ?_
          refine z_iconst ok dL_isAlone_335 ?_
          refine z_icmp_ne (tgt := 359) ok dL_isAlone_336 (by decide) (by omega) (by decide) (fun c => (by omega : False).elim) (fun c336 => ?_)
          refine z_aload_n ok dL_isAlone_339 rfl ?_
          refine z_bipush ok dL_isAlone_340 (by decide) ?_
          refine o_count (v := M 0) ok h31I hwM (by decide) (v_c14) qm_RL_8 dL_isAlone_342 (by decide) ⟨by decide, by decide⟩ (Nat.le_of_ble_eq_true rfl) (fun h32 h32I => ?_)
          refine z_iconst ok dL_isAlone_345 ?_
          refine z_icmp_ne (tgt := 361) ok dL_isAlone_346 (by decide) (by omega) (by decide) (fun c346 => ?_) (fun c => (by omega : False).elim)
          refine z_aload_n ok dL_isAlone_361 rfl ?_
          refine z_iconst ok dL_isAlone_362 ?_
          refine o_ticks ok h32I hwM (by decide) qm_RL_30 dL_isAlone_363 (by decide) ⟨by decide, by decide⟩ (Nat.le_of_ble_eq_true rfl) (fun r35 N34 h33 h33I h33c => ?_)
          obtain ⟨q2, q3⟩ : r35 = M 3 + 1 ∧ N34 = pasN M := by rcases h33c with ⟨a, _, _⟩ | ⟨_, a, b⟩; exact absurd ⟨by decide, by decide⟩ a; exact ⟨a, b⟩
          rw [q3] at h33I
          rw [q2, q3]
          refine z_pop ok dL_isAlone_366 rfl ?_
          refine z_aload_n ok dL_isAlone_367 rfl ?_
          refine z_iconst ok dL_isAlone_368 ?_
          refine z_iconst ok dL_isAlone_369 ?_
          refine o_ofPacket (v := pk (pasN M) 0 3) ok h33I hw2 (by decide) (by decide) (v_pk (hq2) (by decide)) qm_RL_14 dL_isAlone_370 (by decide) ⟨by decide, by decide⟩ (Nat.le_of_ble_eq_true rfl) (fun h36 h36I => ?_)
          refine z_aload_n ok dL_isAlone_373 rfl ?_
          refine z_iload ok dL_isAlone_374 rfl ?_
          refine z_iload ok dL_isAlone_376 rfl ?_
          refine l_beside (v := nb M (pk M 0 3) (fsN M 0)) ok h36I hw2 (hb2) (by omega) (nb_45 e4 eq5) qm_RL_27 dL_isAlone_378 (by decide) ⟨by decide, by decide⟩ (Nat.le_of_ble_eq_true rfl) (fun h37 h37I => ?_)
          refine z_icmp_ne (tgt := 424) ok dL_isAlone_381 (by decide) (by omega) (by omega) (fun c => (by omega : False).elim) (fun c381 => ?_)
          refine z_aload_n ok dL_isAlone_384 rfl ?_
          refine z_iload ok dL_isAlone_385 rfl ?_
          refine z_bipush ok dL_isAlone_387 (by decide) ?_
          refine z_iload ok dL_isAlone_389 rfl ?_
          refine z_iadd ok dL_isAlone_391 ?_
          refine o_ofBox (v := (pasN M) (60 + 4 * (pk M 0 3) + (fsN M 0))) ok h37I hw2 (by omega) (by omega) (v_bm (hb2) (by omega) rfl) qm_RL_24 dL_isAlone_392 (by decide) ⟨by decide, by decide⟩ (Nat.le_of_ble_eq_true rfl) ?_
          refine z_iconst ok dL_isAlone_395 ?_
          refine z_icmp_lt (tgt := 424) ok dL_isAlone_396 (by decide) (by omega) (by decide) (fun c => (by omega : False).elim) (fun c396 => ?_)
          refine z_aload_n ok dL_isAlone_399 rfl ?_
          refine z_iconst ok dL_isAlone_400 ?_
          refine z_bipush ok dL_isAlone_401 (by decide) ?_
          refine o_ofPacket (v := pk (pasN M) 0 9) ok h37I hw2 (by decide) (by decide) (v_pk (hq2) (by decide)) qm_RL_14 dL_isAlone_403 (by decide) ⟨by decide, by decide⟩ (Nat.le_of_ble_eq_true rfl) (fun h38 h38I => ?_)
          refine z_iload ok dL_isAlone_406 rfl ?_
          refine z_if_ne (tgt := 416) ok dL_isAlone_408 (by decide) (by decide) (fun c408 => ?_) (fun c => absurd c (by decide))
          refine z_iconst ok dL_isAlone_416 ?_
          refine z_goto (tgt := 421) ok dL_isAlone_417 (by decide) ?_
          refine z_icmp_eq (tgt := 426) ok dL_isAlone_421 (by decide) (by omega) (by decide) (fun c421 => ?_) (fun c => (by omega : False).elim)
          refine z_iinc (lv' := [(7, .int (iI (k + (-1)))), (10, .int (iI 1)), (9, .int (iI (fsN M 0))), (8, .int (iI (pk M 0 3))), (6, .int (iI (dist N f t))), (5, .int (iI 0)), (4, .int (iI (fr N t (10 * f)))), (3, .ref (obX aq)), (2, .int (iI t)), (1, .int (iI f)), (0, .ref (obX ad))]) ok dL_isAlone_426 3 rfl (by decide) rfl ?_
          refine z_goto (tgt := 273) ok dL_isAlone_429 (by decide) ?_
          refine z_lsub ok (lv' := [(7, .int (iI (k + (-1)))), (6, .int (iI (dist N f t))), (5, .int (iI 0)), (4, .int (iI (fr N t (10 * f)))), (3, .ref (obX aq)), (2, .int (iI t)), (1, .int (iI f)), (0, .ref (obX ad))]) [0, 4, 5, 6, 7, 8, 9, 10] rfl ?_
          have hnx : (1 ≤ k + (-1) ∧ AL (1 + (fr N t (10 * f) - (k + (-1)))) (pasN M) f t (fr N t (10 * f)) (k + (-1))) ∨ (k + (-1) = 0 ∧ ARR (1 + (fr N t (10 * f) - (k + (-1)))) (pasN M) f t (fr N t (10 * f))) := by
            rw [show 1 + (fr N t (10 * f) - (k + (-1))) = 1 + (fr N t (10 * f) - k) + 1 by omega]
            rcases s8 with ⟨a, b⟩ | ⟨a, b⟩
            · exact Or.inr ⟨by omega, b⟩
            · exact Or.inl ⟨by omega, b⟩
          exact ih (k + (-1)) (pasN M) h38 u (by omega) hnx ⟨by omega, by omega, by omega⟩ h38I uI (by omega) (by omega)
        · -- 001
          rw [if_pos c.2.1] at s7
          refine z_aload_n ok dL_isAlone_278 rfl ?_
          refine z_iconst ok dL_isAlone_279 ?_
          refine z_iconst ok dL_isAlone_280 ?_
          refine o_ofPacket (v := pk M 0 3) ok gI hwM (by decide) (by decide) (v_pk (hq) (by decide)) qm_RL_14 dL_isAlone_281 (by decide) ⟨by decide, by decide⟩ (Nat.le_of_ble_eq_true rfl) (fun h39 h39I => ?_)
          refine z_istore (lv' := [(8, .int (iI (pk M 0 3))), (7, .int (iI k)), (6, .int (iI (dist N f t))), (5, .int (iI 0)), (4, .int (iI (fr N t (10 * f)))), (3, .ref (obX aq)), (2, .int (iI t)), (1, .int (iI f)), (0, .ref (obX ad))]) ok dL_isAlone_284 (by decide) rfl ?_
          refine z_aload_n ok dL_isAlone_286 rfl ?_
          refine z_iconst ok dL_isAlone_287 ?_
          refine z_bipush ok dL_isAlone_288 (by decide) ?_
          refine o_ofPacket (v := fsN M 0) ok h39I hwM (by decide) (by decide) ((v_fs hq).trans hfv) qm_RL_14 dL_isAlone_290 (by decide) ⟨by decide, by decide⟩ (Nat.le_of_ble_eq_true rfl) (fun h40 h40I => ?_)
          refine z_istore (lv' := [(9, .int (iI (fsN M 0))), (8, .int (iI (pk M 0 3))), (7, .int (iI k)), (6, .int (iI (dist N f t))), (5, .int (iI 0)), (4, .int (iI (fr N t (10 * f)))), (3, .ref (obX aq)), (2, .int (iI t)), (1, .int (iI f)), (0, .ref (obX ad))]) ok dL_isAlone_293 (by decide) rfl ?_
          refine z_aload_n ok dL_isAlone_295 rfl ?_
          refine z_iconst ok dL_isAlone_296 ?_
          refine z_bipush ok dL_isAlone_297 (by decide) ?_
          refine o_ofPacket (v := pk M 0 9) ok h40I hwM (by decide) (by decide) (v_pk (hq) (by decide)) qm_RL_14 dL_isAlone_299 (by decide) ⟨by decide, by decide⟩ (Nat.le_of_ble_eq_true rfl) (fun h41 h41I => ?_)
          refine z_iconst ok dL_isAlone_302 ?_
          refine z_icmp_ne (tgt := 310) ok dL_isAlone_303 (by decide) (by omega) (by decide) (fun c303 => ?_) (fun c => (by omega : False).elim)
          refine z_iconst ok dL_isAlone_310 ?_
          refine z_istore (lv' := [(10, .int (iI 0)), (9, .int (iI (fsN M 0))), (8, .int (iI (pk M 0 3))), (7, .int (iI k)), (6, .int (iI (dist N f t))), (5, .int (iI 0)), (4, .int (iI (fr N t (10 * f)))), (3, .ref (obX aq)), (2, .int (iI t)), (1, .int (iI f)), (0, .ref (obX ad))]) ok dL_isAlone_311 (by decide) rfl ?_
          refine z_aload_n ok dL_isAlone_313 rfl ?_
          refine z_iconst ok dL_isAlone_314 ?_
          refine z_bipush ok dL_isAlone_315 (by decide) ?_
          refine o_ofPacket (v := frP M 0) ok h41I hwM (by decide) (by decide) (v_fr (hq)) qm_RL_14 dL_isAlone_317 (by decide) ⟨by decide, by decide⟩ (Nat.le_of_ble_eq_true rfl) (fun h42 h42I => ?_)
          refine z_iload ok dL_isAlone_320 rfl ?_
          refine z_icmp_ne (tgt := 359) ok dL_isAlone_322 (by decide) (by omega) (by omega) (fun c => (by omega : False).elim) (fun c322 => ?_)
          refine z_aload_n ok dL_isAlone_325 rfl ?_
          refine z_iload ok dL_isAlone_326 rfl ?_
          refine z_iconst ok dL_isAlone_328 ?_
          refine z_iload ok dL_isAlone_329 rfl ?_
          refine z_iadd ok dL_isAlone_331 ?_
          refine o_ofBox (v := lkV M (pk M 0 3) (fsN M 0)) ok h42I hwM (by omega) (by omega) (v_bl (hbM) (by omega) rfl) qm_RL_24 dL_isAlone_332 (by decide) ⟨by decide, by decide⟩ (Nat.le_of_ble_eq_true rfl) ?_
          refine z_iconst ok dL_isAlone_335 ?_
          refine z_icmp_ne (tgt := 359) ok dL_isAlone_336 (by decide) (by omega) (by decide) (fun c => (by omega : False).elim) (fun c336 => ?_)
          refine z_aload_n ok dL_isAlone_339 rfl ?_
          refine z_bipush ok dL_isAlone_340 (by decide) ?_
          refine o_count (v := M 0) ok h42I hwM (by decide) (v_c14) qm_RL_8 dL_isAlone_342 (by decide) ⟨by decide, by decide⟩ (Nat.le_of_ble_eq_true rfl) (fun h43 h43I => ?_)
          refine z_iconst ok dL_isAlone_345 ?_
          refine z_icmp_ne (tgt := 361) ok dL_isAlone_346 (by decide) (by omega) (by decide) (fun c => (by omega : False).elim) (fun c346 => ?_)
          refine z_iload ok dL_isAlone_349 rfl ?_
          refine z_if_eq (tgt := 361) ok dL_isAlone_351 (by decide) (by decide) (fun c351 => ?_) (fun c => absurd c (by decide))
          refine z_aload_n ok dL_isAlone_361 rfl ?_
          refine z_iconst ok dL_isAlone_362 ?_
          refine o_ticks ok h43I hwM (by decide) qm_RL_30 dL_isAlone_363 (by decide) ⟨by decide, by decide⟩ (Nat.le_of_ble_eq_true rfl) (fun r46 N45 h44 h44I h44c => ?_)
          obtain ⟨q2, q3⟩ : r46 = M 3 + 1 ∧ N45 = pasN M := by rcases h44c with ⟨a, _, _⟩ | ⟨_, a, b⟩; exact absurd ⟨by decide, by decide⟩ a; exact ⟨a, b⟩
          rw [q3] at h44I
          rw [q2, q3]
          refine z_pop ok dL_isAlone_366 rfl ?_
          refine z_aload_n ok dL_isAlone_367 rfl ?_
          refine z_iconst ok dL_isAlone_368 ?_
          refine z_iconst ok dL_isAlone_369 ?_
          refine o_ofPacket (v := pk (pasN M) 0 3) ok h44I hw2 (by decide) (by decide) (v_pk (hq2) (by decide)) qm_RL_14 dL_isAlone_370 (by decide) ⟨by decide, by decide⟩ (Nat.le_of_ble_eq_true rfl) (fun h47 h47I => ?_)
          refine z_aload_n ok dL_isAlone_373 rfl ?_
          refine z_iload ok dL_isAlone_374 rfl ?_
          refine z_iload ok dL_isAlone_376 rfl ?_
          refine l_beside (v := nb M (pk M 0 3) (fsN M 0)) ok h47I hw2 (hb2) (by omega) (nb_45 e4 eq5) qm_RL_27 dL_isAlone_378 (by decide) ⟨by decide, by decide⟩ (Nat.le_of_ble_eq_true rfl) (fun h48 h48I => ?_)
          refine z_icmp_ne (tgt := 424) ok dL_isAlone_381 (by decide) (by omega) (by omega) (fun c => (by omega : False).elim) (fun c381 => ?_)
          refine z_aload_n ok dL_isAlone_384 rfl ?_
          refine z_iload ok dL_isAlone_385 rfl ?_
          refine z_bipush ok dL_isAlone_387 (by decide) ?_
          refine z_iload ok dL_isAlone_389 rfl ?_
          refine z_iadd ok dL_isAlone_391 ?_
          refine o_ofBox (v := (pasN M) (60 + 4 * (pk M 0 3) + (fsN M 0))) ok h48I hw2 (by omega) (by omega) (v_bm (hb2) (by omega) rfl) qm_RL_24 dL_isAlone_392 (by decide) ⟨by decide, by decide⟩ (Nat.le_of_ble_eq_true rfl) ?_
          refine z_iconst ok dL_isAlone_395 ?_
          refine z_icmp_lt (tgt := 424) ok dL_isAlone_396 (by decide) (by omega) (by decide) (fun c => (by omega : False).elim) (fun c396 => ?_)
          refine z_aload_n ok dL_isAlone_399 rfl ?_
          refine z_iconst ok dL_isAlone_400 ?_
          refine z_bipush ok dL_isAlone_401 (by decide) ?_
          refine o_ofPacket (v := pk (pasN M) 0 9) ok h48I hw2 (by decide) (by decide) (v_pk (hq2) (by decide)) qm_RL_14 dL_isAlone_403 (by decide) ⟨by decide, by decide⟩ (Nat.le_of_ble_eq_true rfl) (fun h49 h49I => ?_)
          refine z_iload ok dL_isAlone_406 rfl ?_
          refine z_if_ne (tgt := 416) ok dL_isAlone_408 (by decide) (by decide) (fun c => absurd c (by decide)) (fun c408 => ?_)
          refine z_iload ok dL_isAlone_411 rfl ?_
          refine z_if_eq (tgt := 420) ok dL_isAlone_413 (by decide) (by omega) (fun c413 => ?_) (fun c => (by omega : False).elim)
          refine z_iconst ok dL_isAlone_420 ?_
          refine z_icmp_eq (tgt := 426) ok dL_isAlone_421 (by decide) (by omega) (by decide) (fun c421 => ?_) (fun c => (by omega : False).elim)
          refine z_iinc (lv' := [(7, .int (iI (k + (-1)))), (10, .int (iI 0)), (9, .int (iI (fsN M 0))), (8, .int (iI (pk M 0 3))), (6, .int (iI (dist N f t))), (5, .int (iI 0)), (4, .int (iI (fr N t (10 * f)))), (3, .ref (obX aq)), (2, .int (iI t)), (1, .int (iI f)), (0, .ref (obX ad))]) ok dL_isAlone_426 3 rfl (by decide) rfl ?_
          refine z_goto (tgt := 273) ok dL_isAlone_429 (by decide) ?_
          refine z_lsub ok (lv' := [(7, .int (iI (k + (-1)))), (6, .int (iI (dist N f t))), (5, .int (iI 0)), (4, .int (iI (fr N t (10 * f)))), (3, .ref (obX aq)), (2, .int (iI t)), (1, .int (iI f)), (0, .ref (obX ad))]) [0, 4, 5, 6, 7, 8, 9, 10] rfl ?_
          have hnx : (1 ≤ k + (-1) ∧ AL (1 + (fr N t (10 * f) - (k + (-1)))) (pasN M) f t (fr N t (10 * f)) (k + (-1))) ∨ (k + (-1) = 0 ∧ ARR (1 + (fr N t (10 * f) - (k + (-1)))) (pasN M) f t (fr N t (10 * f))) := by
            rw [show 1 + (fr N t (10 * f) - (k + (-1))) = 1 + (fr N t (10 * f) - k) + 1 by omega]
            rcases s8 with ⟨a, b⟩ | ⟨a, b⟩
            · exact Or.inr ⟨by omega, b⟩
            · exact Or.inl ⟨by omega, b⟩
          exact ih (k + (-1)) (pasN M) h49 u (by omega) hnx ⟨by omega, by omega, by omega⟩ h49I uI (by omega) (by omega)
        · -- 000
          rw [if_pos c.2.1] at s7
          refine z_aload_n ok dL_isAlone_278 rfl ?_
          refine z_iconst ok dL_isAlone_279 ?_
          refine z_iconst ok dL_isAlone_280 ?_
          refine o_ofPacket (v := pk M 0 3) ok gI hwM (by decide) (by decide) (v_pk (hq) (by decide)) qm_RL_14 dL_isAlone_281 (by decide) ⟨by decide, by decide⟩ (Nat.le_of_ble_eq_true rfl) (fun h50 h50I => ?_)
          refine z_istore (lv' := [(8, .int (iI (pk M 0 3))), (7, .int (iI k)), (6, .int (iI (dist N f t))), (5, .int (iI 0)), (4, .int (iI (fr N t (10 * f)))), (3, .ref (obX aq)), (2, .int (iI t)), (1, .int (iI f)), (0, .ref (obX ad))]) ok dL_isAlone_284 (by decide) rfl ?_
          refine z_aload_n ok dL_isAlone_286 rfl ?_
          refine z_iconst ok dL_isAlone_287 ?_
          refine z_bipush ok dL_isAlone_288 (by decide) ?_
          refine o_ofPacket (v := fsN M 0) ok h50I hwM (by decide) (by decide) ((v_fs hq).trans hfv) qm_RL_14 dL_isAlone_290 (by decide) ⟨by decide, by decide⟩ (Nat.le_of_ble_eq_true rfl) (fun h51 h51I => ?_)
          refine z_istore (lv' := [(9, .int (iI (fsN M 0))), (8, .int (iI (pk M 0 3))), (7, .int (iI k)), (6, .int (iI (dist N f t))), (5, .int (iI 0)), (4, .int (iI (fr N t (10 * f)))), (3, .ref (obX aq)), (2, .int (iI t)), (1, .int (iI f)), (0, .ref (obX ad))]) ok dL_isAlone_293 (by decide) rfl ?_
          refine z_aload_n ok dL_isAlone_295 rfl ?_
          refine z_iconst ok dL_isAlone_296 ?_
          refine z_bipush ok dL_isAlone_297 (by decide) ?_
          refine o_ofPacket (v := pk M 0 9) ok h51I hwM (by decide) (by decide) (v_pk (hq) (by decide)) qm_RL_14 dL_isAlone_299 (by decide) ⟨by decide, by decide⟩ (Nat.le_of_ble_eq_true rfl) (fun h52 h52I => ?_)
          refine z_iconst ok dL_isAlone_302 ?_
          refine z_icmp_ne (tgt := 310) ok dL_isAlone_303 (by decide) (by omega) (by decide) (fun c303 => ?_) (fun c => (by omega : False).elim)
          refine z_iconst ok dL_isAlone_310 ?_
          refine z_istore (lv' := [(10, .int (iI 0)), (9, .int (iI (fsN M 0))), (8, .int (iI (pk M 0 3))), (7, .int (iI k)), (6, .int (iI (dist N f t))), (5, .int (iI 0)), (4, .int (iI (fr N t (10 * f)))), (3, .ref (obX aq)), (2, .int (iI t)), (1, .int (iI f)), (0, .ref (obX ad))]) ok dL_isAlone_311 (by decide) rfl ?_
          refine z_aload_n ok dL_isAlone_313 rfl ?_
          refine z_iconst ok dL_isAlone_314 ?_
          refine z_bipush ok dL_isAlone_315 (by decide) ?_
          refine o_ofPacket (v := frP M 0) ok h52I hwM (by decide) (by decide) (v_fr (hq)) qm_RL_14 dL_isAlone_317 (by decide) ⟨by decide, by decide⟩ (Nat.le_of_ble_eq_true rfl) (fun h53 h53I => ?_)
          refine z_iload ok dL_isAlone_320 rfl ?_
          refine z_icmp_ne (tgt := 359) ok dL_isAlone_322 (by decide) (by omega) (by omega) (fun c => (by omega : False).elim) (fun c322 => ?_)
          refine z_aload_n ok dL_isAlone_325 rfl ?_
          refine z_iload ok dL_isAlone_326 rfl ?_
          refine z_iconst ok dL_isAlone_328 ?_
          refine z_iload ok dL_isAlone_329 rfl ?_
          refine z_iadd ok dL_isAlone_331 ?_
          refine o_ofBox (v := lkV M (pk M 0 3) (fsN M 0)) ok h53I hwM (by omega) (by omega) (v_bl (hbM) (by omega) rfl) qm_RL_24 dL_isAlone_332 (by decide) ⟨by decide, by decide⟩ (Nat.le_of_ble_eq_true rfl) ?_
          refine z_iconst ok dL_isAlone_335 ?_
          refine z_icmp_ne (tgt := 359) ok dL_isAlone_336 (by decide) (by omega) (by decide) (fun c => (by omega : False).elim) (fun c336 => ?_)
          refine z_aload_n ok dL_isAlone_339 rfl ?_
          refine z_bipush ok dL_isAlone_340 (by decide) ?_
          refine o_count (v := M 0) ok h53I hwM (by decide) (v_c14) qm_RL_8 dL_isAlone_342 (by decide) ⟨by decide, by decide⟩ (Nat.le_of_ble_eq_true rfl) (fun h54 h54I => ?_)
          refine z_iconst ok dL_isAlone_345 ?_
          refine z_icmp_ne (tgt := 361) ok dL_isAlone_346 (by decide) (by omega) (by decide) (fun c346 => ?_) (fun c => (by omega : False).elim)
          refine z_aload_n ok dL_isAlone_361 rfl ?_
          refine z_iconst ok dL_isAlone_362 ?_
          refine o_ticks ok h54I hwM (by decide) qm_RL_30 dL_isAlone_363 (by decide) ⟨by decide, by decide⟩ (Nat.le_of_ble_eq_true rfl) (fun r57 N56 h55 h55I h55c => ?_)
          obtain ⟨q2, q3⟩ : r57 = M 3 + 1 ∧ N56 = pasN M := by rcases h55c with ⟨a, _, _⟩ | ⟨_, a, b⟩; exact absurd ⟨by decide, by decide⟩ a; exact ⟨a, b⟩
          rw [q3] at h55I
          rw [q2, q3]
          refine z_pop ok dL_isAlone_366 rfl ?_
          refine z_aload_n ok dL_isAlone_367 rfl ?_
          refine z_iconst ok dL_isAlone_368 ?_
          refine z_iconst ok dL_isAlone_369 ?_
          refine o_ofPacket (v := pk (pasN M) 0 3) ok h55I hw2 (by decide) (by decide) (v_pk (hq2) (by decide)) qm_RL_14 dL_isAlone_370 (by decide) ⟨by decide, by decide⟩ (Nat.le_of_ble_eq_true rfl) (fun h58 h58I => ?_)
          refine z_aload_n ok dL_isAlone_373 rfl ?_
          refine z_iload ok dL_isAlone_374 rfl ?_
          refine z_iload ok dL_isAlone_376 rfl ?_
          refine l_beside (v := nb M (pk M 0 3) (fsN M 0)) ok h58I hw2 (hb2) (by omega) (nb_45 e4 eq5) qm_RL_27 dL_isAlone_378 (by decide) ⟨by decide, by decide⟩ (Nat.le_of_ble_eq_true rfl) (fun h59 h59I => ?_)
          refine z_icmp_ne (tgt := 424) ok dL_isAlone_381 (by decide) (by omega) (by omega) (fun c => (by omega : False).elim) (fun c381 => ?_)
          refine z_aload_n ok dL_isAlone_384 rfl ?_
          refine z_iload ok dL_isAlone_385 rfl ?_
          refine z_bipush ok dL_isAlone_387 (by decide) ?_
          refine z_iload ok dL_isAlone_389 rfl ?_
          refine z_iadd ok dL_isAlone_391 ?_
          refine o_ofBox (v := (pasN M) (60 + 4 * (pk M 0 3) + (fsN M 0))) ok h59I hw2 (by omega) (by omega) (v_bm (hb2) (by omega) rfl) qm_RL_24 dL_isAlone_392 (by decide) ⟨by decide, by decide⟩ (Nat.le_of_ble_eq_true rfl) ?_
          refine z_iconst ok dL_isAlone_395 ?_
          refine z_icmp_lt (tgt := 424) ok dL_isAlone_396 (by decide) (by omega) (by decide) (fun c => (by omega : False).elim) (fun c396 => ?_)
          refine z_aload_n ok dL_isAlone_399 rfl ?_
          refine z_iconst ok dL_isAlone_400 ?_
          refine z_bipush ok dL_isAlone_401 (by decide) ?_
          refine o_ofPacket (v := pk (pasN M) 0 9) ok h59I hw2 (by decide) (by decide) (v_pk (hq2) (by decide)) qm_RL_14 dL_isAlone_403 (by decide) ⟨by decide, by decide⟩ (Nat.le_of_ble_eq_true rfl) (fun h60 h60I => ?_)
          refine z_iload ok dL_isAlone_406 rfl ?_
          refine z_if_ne (tgt := 416) ok dL_isAlone_408 (by decide) (by decide) (fun c => absurd c (by decide)) (fun c408 => ?_)
          refine z_iload ok dL_isAlone_411 rfl ?_
          refine z_if_eq (tgt := 420) ok dL_isAlone_413 (by decide) (by omega) (fun c413 => ?_) (fun c => (by omega : False).elim)
          refine z_iconst ok dL_isAlone_420 ?_
          refine z_icmp_eq (tgt := 426) ok dL_isAlone_421 (by decide) (by omega) (by decide) (fun c421 => ?_) (fun c => (by omega : False).elim)
          refine z_iinc (lv' := [(7, .int (iI (k + (-1)))), (10, .int (iI 0)), (9, .int (iI (fsN M 0))), (8, .int (iI (pk M 0 3))), (6, .int (iI (dist N f t))), (5, .int (iI 0)), (4, .int (iI (fr N t (10 * f)))), (3, .ref (obX aq)), (2, .int (iI t)), (1, .int (iI f)), (0, .ref (obX ad))]) ok dL_isAlone_426 3 rfl (by decide) rfl ?_
          refine z_goto (tgt := 273) ok dL_isAlone_429 (by decide) ?_
          refine z_lsub ok (lv' := [(7, .int (iI (k + (-1)))), (6, .int (iI (dist N f t))), (5, .int (iI 0)), (4, .int (iI (fr N t (10 * f)))), (3, .ref (obX aq)), (2, .int (iI t)), (1, .int (iI f)), (0, .ref (obX ad))]) [0, 4, 5, 6, 7, 8, 9, 10] rfl ?_
          have hnx : (1 ≤ k + (-1) ∧ AL (1 + (fr N t (10 * f) - (k + (-1)))) (pasN M) f t (fr N t (10 * f)) (k + (-1))) ∨ (k + (-1) = 0 ∧ ARR (1 + (fr N t (10 * f) - (k + (-1)))) (pasN M) f t (fr N t (10 * f))) := by
            rw [show 1 + (fr N t (10 * f) - (k + (-1))) = 1 + (fr N t (10 * f) - k) + 1 by omega]
            rcases s8 with ⟨a, b⟩ | ⟨a, b⟩
            · exact Or.inr ⟨by omega, b⟩
            · exact Or.inl ⟨by omega, b⟩
          exact ih (k + (-1)) (pasN M) h60 u (by omega) hnx ⟨by omega, by omega, by omega⟩ h60I uI (by omega) (by omega)
        · -- 011
          rw [if_neg c.2.1] at s7
          refine z_aload_n ok dL_isAlone_278 rfl ?_
          refine z_iconst ok dL_isAlone_279 ?_
          refine z_iconst ok dL_isAlone_280 ?_
          refine o_ofPacket (v := pk M 0 3) ok gI hwM (by decide) (by decide) (v_pk (hq) (by decide)) qm_RL_14 dL_isAlone_281 (by decide) ⟨by decide, by decide⟩ (Nat.le_of_ble_eq_true rfl) (fun h61 h61I => ?_)
          refine z_istore (lv' := [(8, .int (iI (pk M 0 3))), (7, .int (iI k)), (6, .int (iI (dist N f t))), (5, .int (iI 0)), (4, .int (iI (fr N t (10 * f)))), (3, .ref (obX aq)), (2, .int (iI t)), (1, .int (iI f)), (0, .ref (obX ad))]) ok dL_isAlone_284 (by decide) rfl ?_
          refine z_aload_n ok dL_isAlone_286 rfl ?_
          refine z_iconst ok dL_isAlone_287 ?_
          refine z_bipush ok dL_isAlone_288 (by decide) ?_
          refine o_ofPacket (v := fsN M 0) ok h61I hwM (by decide) (by decide) ((v_fs hq).trans hfv) qm_RL_14 dL_isAlone_290 (by decide) ⟨by decide, by decide⟩ (Nat.le_of_ble_eq_true rfl) (fun h62 h62I => ?_)
          refine z_istore (lv' := [(9, .int (iI (fsN M 0))), (8, .int (iI (pk M 0 3))), (7, .int (iI k)), (6, .int (iI (dist N f t))), (5, .int (iI 0)), (4, .int (iI (fr N t (10 * f)))), (3, .ref (obX aq)), (2, .int (iI t)), (1, .int (iI f)), (0, .ref (obX ad))]) ok dL_isAlone_293 (by decide) rfl ?_
          refine z_aload_n ok dL_isAlone_295 rfl ?_
          refine z_iconst ok dL_isAlone_296 ?_
          refine z_bipush ok dL_isAlone_297 (by decide) ?_
          refine o_ofPacket (v := pk M 0 9) ok h62I hwM (by decide) (by decide) (v_pk (hq) (by decide)) qm_RL_14 dL_isAlone_299 (by decide) ⟨by decide, by decide⟩ (Nat.le_of_ble_eq_true rfl) (fun h63 h63I => ?_)
          refine z_iconst ok dL_isAlone_302 ?_
          refine z_icmp_ne (tgt := 310) ok dL_isAlone_303 (by decide) (by omega) (by decide) (fun c303 => ?_) (fun c => (by omega : False).elim)
          refine z_iconst ok dL_isAlone_310 ?_
          refine z_istore (lv' := [(10, .int (iI 0)), (9, .int (iI (fsN M 0))), (8, .int (iI (pk M 0 3))), (7, .int (iI k)), (6, .int (iI (dist N f t))), (5, .int (iI 0)), (4, .int (iI (fr N t (10 * f)))), (3, .ref (obX aq)), (2, .int (iI t)), (1, .int (iI f)), (0, .ref (obX ad))]) ok dL_isAlone_311 (by decide) rfl ?_
          refine z_aload_n ok dL_isAlone_313 rfl ?_
          refine z_iconst ok dL_isAlone_314 ?_
          refine z_bipush ok dL_isAlone_315 (by decide) ?_
          refine o_ofPacket (v := frP M 0) ok h63I hwM (by decide) (by decide) (v_fr (hq)) qm_RL_14 dL_isAlone_317 (by decide) ⟨by decide, by decide⟩ (Nat.le_of_ble_eq_true rfl) (fun h64 h64I => ?_)
          refine z_iload ok dL_isAlone_320 rfl ?_
          refine z_icmp_ne (tgt := 359) ok dL_isAlone_322 (by decide) (by omega) (by omega) (fun c => (by omega : False).elim) (fun c322 => ?_)
          refine z_aload_n ok dL_isAlone_325 rfl ?_
          refine z_iload ok dL_isAlone_326 rfl ?_
          refine z_iconst ok dL_isAlone_328 ?_
          refine z_iload ok dL_isAlone_329 rfl ?_
          refine z_iadd ok dL_isAlone_331 ?_
          refine o_ofBox (v := lkV M (pk M 0 3) (fsN M 0)) ok h64I hwM (by omega) (by omega) (v_bl (hbM) (by omega) rfl) qm_RL_24 dL_isAlone_332 (by decide) ⟨by decide, by decide⟩ (Nat.le_of_ble_eq_true rfl) ?_
          refine z_iconst ok dL_isAlone_335 ?_
          refine z_icmp_ne (tgt := 359) ok dL_isAlone_336 (by decide) (by omega) (by decide) (fun c => (by omega : False).elim) (fun c336 => ?_)
          refine z_aload_n ok dL_isAlone_339 rfl ?_
          refine z_bipush ok dL_isAlone_340 (by decide) ?_
          refine o_count (v := M 0) ok h64I hwM (by decide) (v_c14) qm_RL_8 dL_isAlone_342 (by decide) ⟨by decide, by decide⟩ (Nat.le_of_ble_eq_true rfl) (fun h65 h65I => ?_)
          refine z_iconst ok dL_isAlone_345 ?_
          refine z_icmp_ne (tgt := 361) ok dL_isAlone_346 (by decide) (by omega) (by decide) (fun c => (by omega : False).elim) (fun c346 => ?_)
          refine z_iload ok dL_isAlone_349 rfl ?_
          refine z_if_eq (tgt := 361) ok dL_isAlone_351 (by decide) (by decide) (fun c351 => ?_) (fun c => absurd c (by decide))
          refine z_aload_n ok dL_isAlone_361 rfl ?_
          refine z_iconst ok dL_isAlone_362 ?_
          refine o_ticks ok h65I hwM (by decide) qm_RL_30 dL_isAlone_363 (by decide) ⟨by decide, by decide⟩ (Nat.le_of_ble_eq_true rfl) (fun r68 N67 h66 h66I h66c => ?_)
          obtain ⟨q2, q3⟩ : r68 = M 3 + 1 ∧ N67 = pasN M := by rcases h66c with ⟨a, _, _⟩ | ⟨_, a, b⟩; exact absurd ⟨by decide, by decide⟩ a; exact ⟨a, b⟩
          rw [q3] at h66I
          rw [q2, q3]
          refine z_pop ok dL_isAlone_366 rfl ?_
          refine z_aload_n ok dL_isAlone_367 rfl ?_
          refine z_iconst ok dL_isAlone_368 ?_
          refine z_iconst ok dL_isAlone_369 ?_
          refine o_ofPacket (v := pk (pasN M) 0 3) ok h66I hw2 (by decide) (by decide) (v_pk (hq2) (by decide)) qm_RL_14 dL_isAlone_370 (by decide) ⟨by decide, by decide⟩ (Nat.le_of_ble_eq_true rfl) (fun h69 h69I => ?_)
          refine z_aload_n ok dL_isAlone_373 rfl ?_
          refine z_iload ok dL_isAlone_374 rfl ?_
          refine z_iload ok dL_isAlone_376 rfl ?_
          refine l_beside (v := nb M (pk M 0 3) (fsN M 0)) ok h69I hw2 (hb2) (by omega) (nb_45 e4 eq5) qm_RL_27 dL_isAlone_378 (by decide) ⟨by decide, by decide⟩ (Nat.le_of_ble_eq_true rfl) (fun h70 h70I => ?_)
          refine z_icmp_ne (tgt := 424) ok dL_isAlone_381 (by decide) (by omega) (by omega) (fun c => (by omega : False).elim) (fun c381 => ?_)
          refine z_aload_n ok dL_isAlone_384 rfl ?_
          refine z_iload ok dL_isAlone_385 rfl ?_
          refine z_bipush ok dL_isAlone_387 (by decide) ?_
          refine z_iload ok dL_isAlone_389 rfl ?_
          refine z_iadd ok dL_isAlone_391 ?_
          refine o_ofBox (v := (pasN M) (60 + 4 * (pk M 0 3) + (fsN M 0))) ok h70I hw2 (by omega) (by omega) (v_bm (hb2) (by omega) rfl) qm_RL_24 dL_isAlone_392 (by decide) ⟨by decide, by decide⟩ (Nat.le_of_ble_eq_true rfl) ?_
          refine z_iconst ok dL_isAlone_395 ?_
          refine z_icmp_lt (tgt := 424) ok dL_isAlone_396 (by decide) (by omega) (by decide) (fun c => (by omega : False).elim) (fun c396 => ?_)
          refine z_aload_n ok dL_isAlone_399 rfl ?_
          refine z_iconst ok dL_isAlone_400 ?_
          refine z_bipush ok dL_isAlone_401 (by decide) ?_
          refine o_ofPacket (v := pk (pasN M) 0 9) ok h70I hw2 (by decide) (by decide) (v_pk (hq2) (by decide)) qm_RL_14 dL_isAlone_403 (by decide) ⟨by decide, by decide⟩ (Nat.le_of_ble_eq_true rfl) (fun h71 h71I => ?_)
          refine z_iload ok dL_isAlone_406 rfl ?_
          refine z_if_ne (tgt := 416) ok dL_isAlone_408 (by decide) (by decide) (fun c => absurd c (by decide)) (fun c408 => ?_)
          refine z_iload ok dL_isAlone_411 rfl ?_
          refine z_if_eq (tgt := 420) ok dL_isAlone_413 (by decide) (by omega) (fun c => (by omega : False).elim) (fun c413 => ?_)
          refine z_iconst ok dL_isAlone_416 ?_
          refine z_goto (tgt := 421) ok dL_isAlone_417 (by decide) ?_
          refine z_icmp_eq (tgt := 426) ok dL_isAlone_421 (by decide) (by omega) (by decide) (fun c421 => ?_) (fun c => (by omega : False).elim)
          refine z_iinc (lv' := [(7, .int (iI (k + (-1)))), (10, .int (iI 0)), (9, .int (iI (fsN M 0))), (8, .int (iI (pk M 0 3))), (6, .int (iI (dist N f t))), (5, .int (iI 0)), (4, .int (iI (fr N t (10 * f)))), (3, .ref (obX aq)), (2, .int (iI t)), (1, .int (iI f)), (0, .ref (obX ad))]) ok dL_isAlone_426 3 rfl (by decide) rfl ?_
          refine z_goto (tgt := 273) ok dL_isAlone_429 (by decide) ?_
          refine z_lsub ok (lv' := [(7, .int (iI (k + (-1)))), (6, .int (iI (dist N f t))), (5, .int (iI 0)), (4, .int (iI (fr N t (10 * f)))), (3, .ref (obX aq)), (2, .int (iI t)), (1, .int (iI f)), (0, .ref (obX ad))]) [0, 4, 5, 6, 7, 8, 9, 10] rfl ?_
          have hnx : (1 ≤ k + (-1) ∧ AL (1 + (fr N t (10 * f) - (k + (-1)))) (pasN M) f t (fr N t (10 * f)) (k + (-1))) ∨ (k + (-1) = 0 ∧ ARR (1 + (fr N t (10 * f) - (k + (-1)))) (pasN M) f t (fr N t (10 * f))) := by
            rw [show 1 + (fr N t (10 * f) - (k + (-1))) = 1 + (fr N t (10 * f) - k) + 1 by omega]
            rcases s8 with ⟨a, b⟩ | ⟨a, b⟩
            · exact Or.inr ⟨by omega, b⟩
            · exact Or.inl ⟨by omega, b⟩
          exact ih (k + (-1)) (pasN M) h71 u (by omega) hnx ⟨by omega, by omega, by omega⟩ h71I uI (by omega) (by omega)
        · -- 010
          rw [if_neg c.2.1] at s7
          refine z_aload_n ok dL_isAlone_278 rfl ?_
          refine z_iconst ok dL_isAlone_279 ?_
          refine z_iconst ok dL_isAlone_280 ?_
          refine o_ofPacket (v := pk M 0 3) ok gI hwM (by decide) (by decide) (v_pk (hq) (by decide)) qm_RL_14 dL_isAlone_281 (by decide) ⟨by decide, by decide⟩ (Nat.le_of_ble_eq_true rfl) (fun h72 h72I => ?_)
          refine z_istore (lv' := [(8, .int (iI (pk M 0 3))), (7, .int (iI k)), (6, .int (iI (dist N f t))), (5, .int (iI 0)), (4, .int (iI (fr N t (10 * f)))), (3, .ref (obX aq)), (2, .int (iI t)), (1, .int (iI f)), (0, .ref (obX ad))]) ok dL_isAlone_284 (by decide) rfl ?_
          refine z_aload_n ok dL_isAlone_286 rfl ?_
          refine z_iconst ok dL_isAlone_287 ?_
          refine z_bipush ok dL_isAlone_288 (by decide) ?_
          refine o_ofPacket (v := fsN M 0) ok h72I hwM (by decide) (by decide) ((v_fs hq).trans hfv) qm_RL_14 dL_isAlone_290 (by decide) ⟨by decide, by decide⟩ (Nat.le_of_ble_eq_true rfl) (fun h73 h73I => ?_)
          refine z_istore (lv' := [(9, .int (iI (fsN M 0))), (8, .int (iI (pk M 0 3))), (7, .int (iI k)), (6, .int (iI (dist N f t))), (5, .int (iI 0)), (4, .int (iI (fr N t (10 * f)))), (3, .ref (obX aq)), (2, .int (iI t)), (1, .int (iI f)), (0, .ref (obX ad))]) ok dL_isAlone_293 (by decide) rfl ?_
          refine z_aload_n ok dL_isAlone_295 rfl ?_
          refine z_iconst ok dL_isAlone_296 ?_
          refine z_bipush ok dL_isAlone_297 (by decide) ?_
          refine o_ofPacket (v := pk M 0 9) ok h73I hwM (by decide) (by decide) (v_pk (hq) (by decide)) qm_RL_14 dL_isAlone_299 (by decide) ⟨by decide, by decide⟩ (Nat.le_of_ble_eq_true rfl) (fun h74 h74I => ?_)
          refine z_iconst ok dL_isAlone_302 ?_
          refine z_icmp_ne (tgt := 310) ok dL_isAlone_303 (by decide) (by omega) (by decide) (fun c303 => ?_) (fun c => (by omega : False).elim)
          refine z_iconst ok dL_isAlone_310 ?_
          refine z_istore (lv' := [(10, .int (iI 0)), (9, .int (iI (fsN M 0))), (8, .int (iI (pk M 0 3))), (7, .int (iI k)), (6, .int (iI (dist N f t))), (5, .int (iI 0)), (4, .int (iI (fr N t (10 * f)))), (3, .ref (obX aq)), (2, .int (iI t)), (1, .int (iI f)), (0, .ref (obX ad))]) ok dL_isAlone_311 (by decide) rfl ?_
          refine z_aload_n ok dL_isAlone_313 rfl ?_
          refine z_iconst ok dL_isAlone_314 ?_
          refine z_bipush ok dL_isAlone_315 (by decide) ?_
          refine o_ofPacket (v := frP M 0) ok h74I hwM (by decide) (by decide) (v_fr (hq)) qm_RL_14 dL_isAlone_317 (by decide) ⟨by decide, by decide⟩ (Nat.le_of_ble_eq_true rfl) (fun h75 h75I => ?_)
          refine z_iload ok dL_isAlone_320 rfl ?_
          refine z_icmp_ne (tgt := 359) ok dL_isAlone_322 (by decide) (by omega) (by omega) (fun c => (by omega : False).elim) (fun c322 => ?_)
          refine z_aload_n ok dL_isAlone_325 rfl ?_
          refine z_iload ok dL_isAlone_326 rfl ?_
          refine z_iconst ok dL_isAlone_328 ?_
          refine z_iload ok dL_isAlone_329 rfl ?_
          refine z_iadd ok dL_isAlone_331 ?_
          refine o_ofBox (v := lkV M (pk M 0 3) (fsN M 0)) ok h75I hwM (by omega) (by omega) (v_bl (hbM) (by omega) rfl) qm_RL_24 dL_isAlone_332 (by decide) ⟨by decide, by decide⟩ (Nat.le_of_ble_eq_true rfl) ?_
          refine z_iconst ok dL_isAlone_335 ?_
          refine z_icmp_ne (tgt := 359) ok dL_isAlone_336 (by decide) (by omega) (by decide) (fun c => (by omega : False).elim) (fun c336 => ?_)
          refine z_aload_n ok dL_isAlone_339 rfl ?_
          refine z_bipush ok dL_isAlone_340 (by decide) ?_
          refine o_count (v := M 0) ok h75I hwM (by decide) (v_c14) qm_RL_8 dL_isAlone_342 (by decide) ⟨by decide, by decide⟩ (Nat.le_of_ble_eq_true rfl) (fun h76 h76I => ?_)
          refine z_iconst ok dL_isAlone_345 ?_
          refine z_icmp_ne (tgt := 361) ok dL_isAlone_346 (by decide) (by omega) (by decide) (fun c346 => ?_) (fun c => (by omega : False).elim)
          refine z_aload_n ok dL_isAlone_361 rfl ?_
          refine z_iconst ok dL_isAlone_362 ?_
          refine o_ticks ok h76I hwM (by decide) qm_RL_30 dL_isAlone_363 (by decide) ⟨by decide, by decide⟩ (Nat.le_of_ble_eq_true rfl) (fun r79 N78 h77 h77I h77c => ?_)
          obtain ⟨q2, q3⟩ : r79 = M 3 + 1 ∧ N78 = pasN M := by rcases h77c with ⟨a, _, _⟩ | ⟨_, a, b⟩; exact absurd ⟨by decide, by decide⟩ a; exact ⟨a, b⟩
          rw [q3] at h77I
          rw [q2, q3]
          refine z_pop ok dL_isAlone_366 rfl ?_
          refine z_aload_n ok dL_isAlone_367 rfl ?_
          refine z_iconst ok dL_isAlone_368 ?_
          refine z_iconst ok dL_isAlone_369 ?_
          refine o_ofPacket (v := pk (pasN M) 0 3) ok h77I hw2 (by decide) (by decide) (v_pk (hq2) (by decide)) qm_RL_14 dL_isAlone_370 (by decide) ⟨by decide, by decide⟩ (Nat.le_of_ble_eq_true rfl) (fun h80 h80I => ?_)
          refine z_aload_n ok dL_isAlone_373 rfl ?_
          refine z_iload ok dL_isAlone_374 rfl ?_
          refine z_iload ok dL_isAlone_376 rfl ?_
          refine l_beside (v := nb M (pk M 0 3) (fsN M 0)) ok h80I hw2 (hb2) (by omega) (nb_45 e4 eq5) qm_RL_27 dL_isAlone_378 (by decide) ⟨by decide, by decide⟩ (Nat.le_of_ble_eq_true rfl) (fun h81 h81I => ?_)
          refine z_icmp_ne (tgt := 424) ok dL_isAlone_381 (by decide) (by omega) (by omega) (fun c => (by omega : False).elim) (fun c381 => ?_)
          refine z_aload_n ok dL_isAlone_384 rfl ?_
          refine z_iload ok dL_isAlone_385 rfl ?_
          refine z_bipush ok dL_isAlone_387 (by decide) ?_
          refine z_iload ok dL_isAlone_389 rfl ?_
          refine z_iadd ok dL_isAlone_391 ?_
          refine o_ofBox (v := (pasN M) (60 + 4 * (pk M 0 3) + (fsN M 0))) ok h81I hw2 (by omega) (by omega) (v_bm (hb2) (by omega) rfl) qm_RL_24 dL_isAlone_392 (by decide) ⟨by decide, by decide⟩ (Nat.le_of_ble_eq_true rfl) ?_
          refine z_iconst ok dL_isAlone_395 ?_
          refine z_icmp_lt (tgt := 424) ok dL_isAlone_396 (by decide) (by omega) (by decide) (fun c => (by omega : False).elim) (fun c396 => ?_)
          refine z_aload_n ok dL_isAlone_399 rfl ?_
          refine z_iconst ok dL_isAlone_400 ?_
          refine z_bipush ok dL_isAlone_401 (by decide) ?_
          refine o_ofPacket (v := pk (pasN M) 0 9) ok h81I hw2 (by decide) (by decide) (v_pk (hq2) (by decide)) qm_RL_14 dL_isAlone_403 (by decide) ⟨by decide, by decide⟩ (Nat.le_of_ble_eq_true rfl) (fun h82 h82I => ?_)
          refine z_iload ok dL_isAlone_406 rfl ?_
          refine z_if_ne (tgt := 416) ok dL_isAlone_408 (by decide) (by decide) (fun c => absurd c (by decide)) (fun c408 => ?_)
          refine z_iload ok dL_isAlone_411 rfl ?_
          refine z_if_eq (tgt := 420) ok dL_isAlone_413 (by decide) (by omega) (fun c => (by omega : False).elim) (fun c413 => ?_)
          refine z_iconst ok dL_isAlone_416 ?_
          refine z_goto (tgt := 421) ok dL_isAlone_417 (by decide) ?_
          refine z_icmp_eq (tgt := 426) ok dL_isAlone_421 (by decide) (by omega) (by decide) (fun c421 => ?_) (fun c => (by omega : False).elim)
          refine z_iinc (lv' := [(7, .int (iI (k + (-1)))), (10, .int (iI 0)), (9, .int (iI (fsN M 0))), (8, .int (iI (pk M 0 3))), (6, .int (iI (dist N f t))), (5, .int (iI 0)), (4, .int (iI (fr N t (10 * f)))), (3, .ref (obX aq)), (2, .int (iI t)), (1, .int (iI f)), (0, .ref (obX ad))]) ok dL_isAlone_426 3 rfl (by decide) rfl ?_
          refine z_goto (tgt := 273) ok dL_isAlone_429 (by decide) ?_
          refine z_lsub ok (lv' := [(7, .int (iI (k + (-1)))), (6, .int (iI (dist N f t))), (5, .int (iI 0)), (4, .int (iI (fr N t (10 * f)))), (3, .ref (obX aq)), (2, .int (iI t)), (1, .int (iI f)), (0, .ref (obX ad))]) [0, 4, 5, 6, 7, 8, 9, 10] rfl ?_
          have hnx : (1 ≤ k + (-1) ∧ AL (1 + (fr N t (10 * f) - (k + (-1)))) (pasN M) f t (fr N t (10 * f)) (k + (-1))) ∨ (k + (-1) = 0 ∧ ARR (1 + (fr N t (10 * f) - (k + (-1)))) (pasN M) f t (fr N t (10 * f))) := by
            rw [show 1 + (fr N t (10 * f) - (k + (-1))) = 1 + (fr N t (10 * f) - k) + 1 by omega]
            rcases s8 with ⟨a, b⟩ | ⟨a, b⟩
            · exact Or.inr ⟨by omega, b⟩
            · exact Or.inl ⟨by omega, b⟩
          exact ih (k + (-1)) (pasN M) h82 u (by omega) hnx ⟨by omega, by omega, by omega⟩ h82I uI (by omega) (by omega)
  have K115 : ∀ (aq : zAd) (M : Int → Int) (g u : zHd), BAS N M (2 * (N 4 * N 5)) → obI M g → obI N u → zV X 181 8621 (([] : va_W) ++ (obW Z aq M g ++ (obW Z ad N u ++ ([] : va_W)))) 115 [(3, .ref (obX aq)), (2, .int (iI t)), (1, .int (iI f)), (0, .ref (obX ad))] [] := by
    intro aq M g u hM gI uI
    have hsm := bas_end hV hM
    obtain ⟨mI, m6, m0, m1, m4, m5, -⟩ := id hM
    have hwM := mI.1.1
    have hfM : isB M f := by unfold isB; rw [m4, m5]; exact hfb
    have htM : isB M t := by unfold isB; rw [m4, m5]; exact htb
    have hfe : fr M t (10 * f) = fr N t (10 * f) := fr_same hw hsm (by omega)
    obtain ⟨v1, v2, v3, v4⟩ := sndE_v hfM htM
    rw [hfe] at v3 v4
    rcases (show f = t ∨ (f ≠ t ∧ fr N t (10 * f) < 0) ∨ (f ≠ t ∧ 0 ≤ fr N t (10 * f)) by omega) with c | c | c
    · -- case 0
      have hh := fr_here (N := N) (to := t) (s := 10 * f) (by omega)
      refine z_aload_n ok dL_isAlone_115 rfl ?_
      refine z_iload_n ok dL_isAlone_116 rfl ?_
      refine z_iload_n ok dL_isAlone_117 rfl ?_
      refine z_perm (ws' := ([] : va_W) ++ (obW Z ad N u ++ (obW Z aq M g ++ ([] : va_W)))) o_sw ?_
      refine o_leastWay (v := fr N t (10 * f)) ok uI hw (by omega) (by omega) (v_lw (by assumption) (by assumption)) qm_RL_44 dL_isAlone_118 (by decide) ⟨by decide, by decide⟩ (Nat.le_of_ble_eq_true rfl) ?_
      refine z_istore (lv' := [(4, .int (iI (fr N t (10 * f)))), (3, .ref (obX aq)), (2, .int (iI t)), (1, .int (iI f)), (0, .ref (obX ad))]) ok dL_isAlone_121 (by decide) rfl ?_
      refine z_aload_n ok dL_isAlone_123 rfl ?_
      refine z_iload_n ok dL_isAlone_124 rfl ?_
      refine z_iload_n ok dL_isAlone_125 rfl ?_
      refine z_perm (ws' := ([] : va_W) ++ (obW Z aq M g ++ (obW Z ad N u ++ ([] : va_W)))) o_sw ?_
      refine o_send ok gI hwM (by omega) (by omega) qm_RL_47 dL_isAlone_126 (by decide) ⟨by decide, by decide⟩ (Nat.le_of_ble_eq_true rfl) (fun r3 N2 h1 h1I h1c => ?_)
      have hE := v1 c
      obtain ⟨q2, q3⟩ : r3 = sndE M f t ∧ N2 = M := by rcases h1c with ⟨_, a, b⟩ | ⟨a, _, _⟩; exact ⟨a, b⟩; omega
      rw [hE] at q2
      rw [q3] at h1I
      rw [q2, q3]
      refine z_istore (lv' := [(5, .int (iI (-1))), (4, .int (iI (fr N t (10 * f)))), (3, .ref (obX aq)), (2, .int (iI t)), (1, .int (iI f)), (0, .ref (obX ad))]) ok dL_isAlone_129 (by decide) rfl ?_
      refine z_iload_n ok dL_isAlone_131 rfl ?_
      refine z_iload_n ok dL_isAlone_132 rfl ?_
      refine z_icmp_ne (tgt := 163) ok dL_isAlone_133 (by decide) (by omega) (by omega) (fun c => (by omega : False).elim) (fun c133 => ?_)
      refine z_iload ok dL_isAlone_136 rfl ?_
      refine z_if_ne (tgt := 161) ok dL_isAlone_138 (by decide) (by omega) (fun c => (by omega : False).elim) (fun c138 => ?_)
      refine z_iload ok dL_isAlone_141 rfl ?_
      refine z_iconst ok dL_isAlone_143 ?_
      refine z_icmp_ne (tgt := 161) ok dL_isAlone_144 (by decide) (by decide) (by decide) (fun c => absurd c (by decide)) (fun c144 => ?_)
      refine z_aload_n ok dL_isAlone_147 rfl ?_
      refine z_iload_n ok dL_isAlone_148 rfl ?_
      refine z_iload_n ok dL_isAlone_149 rfl ?_
      refine z_perm (ws' := ([] : va_W) ++ (obW Z ad N u ++ (obW Z aq M h1 ++ ([] : va_W)))) o_sw ?_
      refine o_ways (v := mn N t (10 * f)) ok uI hw (by omega) (by omega) (v_wy (by assumption) (by assumption)) qm_RL_50 dL_isAlone_150 (by decide) ⟨by decide, by decide⟩ (Nat.le_of_ble_eq_true rfl) (fun h4 h4I => ?_)
      refine z_iconst ok dL_isAlone_153 ?_
      refine z_icmp_ne (tgt := 161) ok dL_isAlone_154 (by decide) (by omega) (by decide) (fun c => (by omega : False).elim) (fun c154 => ?_)
      refine z_iconst ok dL_isAlone_157 ?_
      refine z_goto (tgt := 162) ok dL_isAlone_158 (by decide) ?_
      refine z_perm (ws' := ([] : va_W) ++ (obW Z aq M h1 ++ (obW Z ad N h4 ++ ([] : va_W)))) o_sw ?_
      refine z_drop ?_
      refine z_drop ?_
      refine z_eq (ws' := obW Z ad N h4) (List.append_nil _) ?_
      exact fin 1 h4 162 _ _ _ dL_isAlone_162 (by decide) ⟨rfl, h4I⟩ (by decide) (by decide)
    · -- case 1
      refine z_aload_n ok dL_isAlone_115 rfl ?_
      refine z_iload_n ok dL_isAlone_116 rfl ?_
      refine z_iload_n ok dL_isAlone_117 rfl ?_
      refine z_perm (ws' := ([] : va_W) ++ (obW Z ad N u ++ (obW Z aq M g ++ ([] : va_W)))) o_sw ?_
      refine o_leastWay (v := fr N t (10 * f)) ok uI hw (by omega) (by omega) (v_lw (by assumption) (by assumption)) qm_RL_44 dL_isAlone_118 (by decide) ⟨by decide, by decide⟩ (Nat.le_of_ble_eq_true rfl) ?_
      refine z_istore (lv' := [(4, .int (iI (fr N t (10 * f)))), (3, .ref (obX aq)), (2, .int (iI t)), (1, .int (iI f)), (0, .ref (obX ad))]) ok dL_isAlone_121 (by decide) rfl ?_
      refine z_aload_n ok dL_isAlone_123 rfl ?_
      refine z_iload_n ok dL_isAlone_124 rfl ?_
      refine z_iload_n ok dL_isAlone_125 rfl ?_
      refine z_perm (ws' := ([] : va_W) ++ (obW Z aq M g ++ (obW Z ad N u ++ ([] : va_W)))) o_sw ?_
      refine o_send ok gI hwM (by omega) (by omega) qm_RL_47 dL_isAlone_126 (by decide) ⟨by decide, by decide⟩ (Nat.le_of_ble_eq_true rfl) (fun r3 N2 h1 h1I h1c => ?_)
      have hE := v3 c.1 (by omega) c.2
      obtain ⟨q2, q3⟩ : r3 = sndE M f t ∧ N2 = M := by rcases h1c with ⟨_, a, b⟩ | ⟨a, _, _⟩; exact ⟨a, b⟩; omega
      rw [hE] at q2
      rw [q3] at h1I
      rw [q2, q3]
      refine z_istore (lv' := [(5, .int (iI (-5))), (4, .int (iI (fr N t (10 * f)))), (3, .ref (obX aq)), (2, .int (iI t)), (1, .int (iI f)), (0, .ref (obX ad))]) ok dL_isAlone_129 (by decide) rfl ?_
      refine z_iload_n ok dL_isAlone_131 rfl ?_
      refine z_iload_n ok dL_isAlone_132 rfl ?_
      refine z_icmp_ne (tgt := 163) ok dL_isAlone_133 (by decide) (by omega) (by omega) (fun c133 => ?_) (fun c => (by omega : False).elim)
      refine z_iload ok dL_isAlone_163 rfl ?_
      refine z_if_ge (tgt := 197) ok dL_isAlone_165 (by decide) (by omega) (fun c => (by omega : False).elim) (fun c165 => ?_)
      refine z_iload ok dL_isAlone_168 rfl ?_
      refine z_bipush ok dL_isAlone_170 (by decide) ?_
      refine z_icmp_ne (tgt := 195) ok dL_isAlone_172 (by decide) (by omega) (by decide) (fun c => (by omega : False).elim) (fun c172 => ?_)
      refine z_iload ok dL_isAlone_175 rfl ?_
      refine z_bipush ok dL_isAlone_177 (by decide) ?_
      refine z_icmp_ne (tgt := 195) ok dL_isAlone_179 (by decide) (by decide) (by decide) (fun c => absurd c (by decide)) (fun c179 => ?_)
      refine z_aload_n ok dL_isAlone_182 rfl ?_
      refine z_iload_n ok dL_isAlone_183 rfl ?_
      refine z_iload_n ok dL_isAlone_184 rfl ?_
      refine z_perm (ws' := ([] : va_W) ++ (obW Z ad N u ++ (obW Z aq M h1 ++ ([] : va_W)))) o_sw ?_
      refine o_ways (v := mn N t (10 * f)) ok uI hw (by omega) (by omega) (v_wy (by assumption) (by assumption)) qm_RL_50 dL_isAlone_185 (by decide) ⟨by decide, by decide⟩ (Nat.le_of_ble_eq_true rfl) (fun h4 h4I => ?_)
      refine z_if_ne (tgt := 195) ok dL_isAlone_188 (by decide) (by omega) (fun c => (by omega : False).elim) (fun c188 => ?_)
      refine z_iconst ok dL_isAlone_191 ?_
      refine z_goto (tgt := 196) ok dL_isAlone_192 (by decide) ?_
      refine z_perm (ws' := ([] : va_W) ++ (obW Z aq M h1 ++ (obW Z ad N h4 ++ ([] : va_W)))) o_sw ?_
      refine z_drop ?_
      refine z_drop ?_
      refine z_eq (ws' := obW Z ad N h4) (List.append_nil _) ?_
      exact fin 1 h4 196 _ _ _ dL_isAlone_196 (by decide) ⟨rfl, h4I⟩ (by decide) (by decide)
    · -- case 2
      obtain ⟨hs0, hOU⟩ := snd_OUT mI hw m6 hsm hf ht c.1 c.2
      have hL1 : 1 ≤ fr N t (10 * f) := hOU.2.2.2.2.2.2.2.2
      obtain ⟨bI, b6, b0, b1, b2, b6p, b4, bF, -⟩ := id hOU
      have hw2 := bI.1.1
      have hq : (0 : Int) ≤ 0 ∧ 0 < sndN M f t 6 := ⟨Int.le_refl 0, by omega⟩
      have hfp : frP (sndN M f t) 0 = fr N t (10 * f) := by unfold frP; rw [b1]; exact bF
      have har := arr_L hOU
      have h3b := bI.1.2.1
      have hI3 := INV_pas bI
      have hw3 := hI3.1.1
      have hAL := out_in hOU
      have w6M := hwM.2.2.2.2.2.1
      have lo4 : pasN (sndN M f t) 4 = N 4 := by rw [(wf_pas hw2).2 4 (by decide) (by decide), snd_lo w6M.1 (by decide) (by decide)]; exact m4
      have lo5 : pasN (sndN M f t) 5 = N 5 := by rw [(wf_pas hw2).2 5 (by decide) (by decide), snd_lo w6M.1 (by decide) (by decide)]; exact m5
      have lo1 : pasN (sndN M f t) 1 = N 1 := by rw [(wf_pas hw2).2 1 (by decide) (by decide), snd_lo w6M.1 (by decide) (by decide)]; exact m1
      refine z_aload_n ok dL_isAlone_115 rfl ?_
      refine z_iload_n ok dL_isAlone_116 rfl ?_
      refine z_iload_n ok dL_isAlone_117 rfl ?_
      refine z_perm (ws' := ([] : va_W) ++ (obW Z ad N u ++ (obW Z aq M g ++ ([] : va_W)))) o_sw ?_
      refine o_leastWay (v := fr N t (10 * f)) ok uI hw (by omega) (by omega) (v_lw (by assumption) (by assumption)) qm_RL_44 dL_isAlone_118 (by decide) ⟨by decide, by decide⟩ (Nat.le_of_ble_eq_true rfl) ?_
      refine z_istore (lv' := [(4, .int (iI (fr N t (10 * f)))), (3, .ref (obX aq)), (2, .int (iI t)), (1, .int (iI f)), (0, .ref (obX ad))]) ok dL_isAlone_121 (by decide) rfl ?_
      refine z_aload_n ok dL_isAlone_123 rfl ?_
      refine z_iload_n ok dL_isAlone_124 rfl ?_
      refine z_iload_n ok dL_isAlone_125 rfl ?_
      refine z_perm (ws' := ([] : va_W) ++ (obW Z aq M g ++ (obW Z ad N u ++ ([] : va_W)))) o_sw ?_
      refine o_send ok gI hwM (by omega) (by omega) qm_RL_47 dL_isAlone_126 (by decide) ⟨by decide, by decide⟩ (Nat.le_of_ble_eq_true rfl) (fun r3 N2 h1 h1I h1c => ?_)
      have hE := v4 c.1 (by omega) c.2
      obtain ⟨q2, q3⟩ : r3 = 0 ∧ N2 = sndN M f t := by rcases h1c with ⟨a, _, _⟩ | ⟨_, a, b⟩; exact absurd hE a; exact ⟨by omega, b⟩
      rw [q3] at h1I
      rw [q2, q3]
      refine z_istore (lv' := [(5, .int (iI 0)), (4, .int (iI (fr N t (10 * f)))), (3, .ref (obX aq)), (2, .int (iI t)), (1, .int (iI f)), (0, .ref (obX ad))]) ok dL_isAlone_129 (by decide) rfl ?_
      refine z_iload_n ok dL_isAlone_131 rfl ?_
      refine z_iload_n ok dL_isAlone_132 rfl ?_
      refine z_icmp_ne (tgt := 163) ok dL_isAlone_133 (by decide) (by omega) (by omega) (fun c133 => ?_) (fun c => (by omega : False).elim)
      refine z_iload ok dL_isAlone_163 rfl ?_
      refine z_if_ge (tgt := 197) ok dL_isAlone_165 (by decide) (by omega) (fun c165 => ?_) (fun c => (by omega : False).elim)
      refine z_aload_n ok dL_isAlone_197 rfl ?_
      refine z_iload_n ok dL_isAlone_198 rfl ?_
      refine z_iload_n ok dL_isAlone_199 rfl ?_
      refine z_perm (ws' := ([] : va_W) ++ (obW Z ad N u ++ (obW Z aq (sndN M f t) h1 ++ ([] : va_W)))) o_sw ?_
      refine l_apart (v := dist N f t) ok uI hw (hf) (ht) (rfl) qm_RL_18 dL_isAlone_200 (by decide) ⟨by decide, by decide⟩ (Nat.le_of_ble_eq_true rfl) (fun h4 h4I => ?_)
      refine z_istore (lv' := [(6, .int (iI (dist N f t))), (5, .int (iI 0)), (4, .int (iI (fr N t (10 * f)))), (3, .ref (obX aq)), (2, .int (iI t)), (1, .int (iI f)), (0, .ref (obX ad))]) ok dL_isAlone_203 (by decide) rfl ?_
      refine z_iload ok dL_isAlone_205 rfl ?_
      refine z_if_ne (tgt := 261) ok dL_isAlone_207 (by decide) (by decide) (fun c => absurd c (by decide)) (fun c207 => ?_)
      refine z_aload_n ok dL_isAlone_210 rfl ?_
      refine z_iload_n ok dL_isAlone_211 rfl ?_
      refine z_iload_n ok dL_isAlone_212 rfl ?_
      refine o_ways (v := mn N t (10 * f)) ok h4I hw (by omega) (by omega) (v_wy (by assumption) (by assumption)) qm_RL_50 dL_isAlone_213 (by decide) ⟨by decide, by decide⟩ (Nat.le_of_ble_eq_true rfl) (fun h5 h5I => ?_)
      refine z_iconst ok dL_isAlone_216 ?_
      refine z_icmp_lt (tgt := 261) ok dL_isAlone_217 (by decide) (by omega) (by decide) (fun c => (by omega : False).elim) (fun c217 => ?_)
      refine z_iload ok dL_isAlone_220 rfl ?_
      refine z_iload ok dL_isAlone_222 rfl ?_
      refine z_icmp_lt (tgt := 261) ok dL_isAlone_224 (by decide) (by omega) (by omega) (fun c => (by omega : False).elim) (fun c224 => ?_)
      refine z_iload ok dL_isAlone_227 rfl ?_
      refine z_iload ok dL_isAlone_229 rfl ?_
      refine z_isub ok dL_isAlone_231 ?_
      refine z_iconst ok dL_isAlone_232 ?_
      refine z_irem ok dL_isAlone_233 (by omega) (by omega) ?_
      refine z_if_ne (tgt := 261) ok dL_isAlone_234 (by decide) (by omega) (fun c => (by omega : False).elim) (fun c234 => ?_)
      refine z_aload_n ok dL_isAlone_237 rfl ?_
      refine z_iconst ok dL_isAlone_238 ?_
      refine z_bipush ok dL_isAlone_239 (by decide) ?_
      refine z_perm (ws' := ([] : va_W) ++ (obW Z aq (sndN M f t) h1 ++ (obW Z ad N h5 ++ ([] : va_W)))) o_sw ?_
      refine o_ofPacket (v := frP (sndN M f t) 0) ok h1I hw2 (by decide) (by decide) (v_fr (hq)) qm_RL_14 dL_isAlone_241 (by decide) ⟨by decide, by decide⟩ (Nat.le_of_ble_eq_true rfl) (fun h6 h6I => ?_)
      refine z_iload ok dL_isAlone_244 rfl ?_
      refine z_icmp_ne (tgt := 261) ok dL_isAlone_246 (by decide) (by omega) (by omega) (fun c => (by omega : False).elim) (fun c246 => ?_)
      refine z_aload_n ok dL_isAlone_249 rfl ?_
      refine z_iconst ok dL_isAlone_250 ?_
      refine o_arrivesIn (v := arR (sndN M f t) 0) ok h6I hw2 (by decide) (rfl) qm_RL_53 dL_isAlone_251 (by decide) ⟨by decide, by decide⟩ (Nat.le_of_ble_eq_true rfl) (fun h7 h7I => ?_)
      refine z_iload ok dL_isAlone_254 rfl ?_
      refine z_iconst ok dL_isAlone_256 ?_
      refine z_iadd ok dL_isAlone_257 ?_
      refine z_icmp_eq (tgt := 263) ok dL_isAlone_258 (by decide) (by omega) (by omega) (fun c258 => ?_) (fun c => (by omega : False).elim)
      refine z_aload_n ok dL_isAlone_263 rfl ?_
      refine z_iconst ok dL_isAlone_264 ?_
      refine o_ticks ok h7I hw2 (by decide) qm_RL_30 dL_isAlone_265 (by decide) ⟨by decide, by decide⟩ (Nat.le_of_ble_eq_true rfl) (fun r10 N9 h8 h8I h8c => ?_)
      obtain ⟨q2, q3⟩ : r10 = sndN M f t 3 + 1 ∧ N9 = pasN (sndN M f t) := by rcases h8c with ⟨a, _, _⟩ | ⟨_, a, b⟩; exact absurd ⟨by decide, by decide⟩ a; exact ⟨a, b⟩
      rw [q3] at h8I
      rw [q2, q3]
      refine z_pop ok dL_isAlone_268 rfl ?_
      refine z_iload ok dL_isAlone_269 rfl ?_
      refine z_istore (lv' := [(7, .int (iI (fr N t (10 * f)))), (6, .int (iI (dist N f t))), (5, .int (iI 0)), (4, .int (iI (fr N t (10 * f)))), (3, .ref (obX aq)), (2, .int (iI t)), (1, .int (iI f)), (0, .ref (obX ad))]) ok dL_isAlone_271 (by decide) rfl ?_
      refine z_lsub ok (lv' := [(7, .int (iI (fr N t (10 * f)))), (6, .int (iI (dist N f t))), (5, .int (iI 0)), (4, .int (iI (fr N t (10 * f)))), (3, .ref (obX aq)), (2, .int (iI t)), (1, .int (iI f)), (0, .ref (obX ad))]) [0, 1, 2, 3, 4, 5, 6, 7] rfl ?_
      exact L273 c.1 hL1 aq _ (fr N t (10 * f)) (pasN (sndN M f t)) h8 h5 (by omega) (Or.inl ⟨hL1, by rw [show 1 + (fr N t (10 * f) - fr N t (10 * f)) = 0 + 1 by omega]; exact hAL⟩) ⟨lo4, lo5, lo1⟩ h8I h5I (Int.le_refl _) (Nat.lt_succ_self _)
  have L56 : ∀ (aq : zAd) (fuel : Nat) (b : Int) (M : Int → Int) (g u : zHd), 0 ≤ b → b ≤ N 4 * N 5 → BAS N M (2 * b) → obI M g → obI N u → (N 4 * N 5 - b).toNat < fuel → zV X 181 8621 (([] : va_W) ++ (obW Z aq M g ++ (obW Z ad N u ++ ([] : va_W)))) 56 [(4, .int (iI b)), (3, .ref (obX aq)), (2, .int (iI t)), (1, .int (iI f)), (0, .ref (obX ad))] [] := by
    intro aq fuel
    induction fuel with
    | zero => intro b M g u b0 b1 hM gI uI hfu; exact absurd hfu (Nat.not_lt_zero _)
    | succ fuel ih =>
      intro b M g u b0 b1 hM gI uI hfu
      have hwM := hM.1.1.1
      refine z_iload ok dL_isAlone_56 rfl ?_
      refine z_aload_n ok dL_isAlone_58 rfl ?_
      refine z_iconst ok dL_isAlone_59 ?_
      refine z_perm (ws' := ([] : va_W) ++ (obW Z ad N u ++ (obW Z aq M g ++ ([] : va_W)))) o_sw ?_
      refine o_count (v := N 4 * N 5) ok uI hw (by decide) (v_c1) qm_RL_8 dL_isAlone_60 (by decide) ⟨by decide, by decide⟩ (Nat.le_of_ble_eq_true rfl) (fun h1 h1I => ?_)
      refine z_icmp_ge (tgt := 115) ok dL_isAlone_63 (by decide) (by omega) (by omega) (fun c63 => ?_) (fun c63 => ?_)
      · -- t
        refine z_perm (ws' := ([] : va_W) ++ (obW Z aq M g ++ (obW Z ad N h1 ++ ([] : va_W)))) o_sw ?_
        refine z_lsub ok (lv' := [(3, .ref (obX aq)), (2, .int (iI t)), (1, .int (iI f)), (0, .ref (obX ad))]) [1, 2, 3, 4] rfl ?_
        have eb : b = N 4 * N 5 := by omega
        exact K115 aq M g h1 (by rw [← eb]; exact hM) gI h1I
      · -- f
        have hb : isB N b := by unfold isB; omega
        have hM0 := hM
        rw [show 2 * b = 2 * b + 0 by omega] at hM0
        refine z_iconst ok dL_isAlone_66 ?_
        refine z_istore (lv' := [(5, .int (iI 0)), (4, .int (iI b)), (3, .ref (obX aq)), (2, .int (iI t)), (1, .int (iI f)), (0, .ref (obX ad))]) ok dL_isAlone_67 (by decide) rfl ?_
        refine z_iload ok dL_isAlone_69 rfl ?_
        refine z_iconst ok dL_isAlone_71 ?_
        refine z_icmp_ge (tgt := 109) ok dL_isAlone_72 (by decide) (by decide) (by decide) (fun c => absurd c (by decide)) (fun c72 => ?_)
        refine z_aload_n ok dL_isAlone_75 rfl ?_
        refine z_iload ok dL_isAlone_76 rfl ?_
        refine z_iconst ok dL_isAlone_78 ?_
        refine z_iload ok dL_isAlone_79 rfl ?_
        refine z_iadd ok dL_isAlone_81 ?_
        refine o_ofBox (v := lkV N b 0) ok h1I hw (by omega) (by decide) (v_bl (hb) (by decide) (by decide)) qm_RL_24 dL_isAlone_82 (by decide) ⟨by decide, by decide⟩ (Nat.le_of_ble_eq_true rfl) ?_
        refine z_if_ne (tgt := 103) ok dL_isAlone_85 (by decide) (by first | (unfold lkV; split; decide; have := zb_rng (opn N b 0); omega) | (unfold lkV; split; decide; have := zb_rng (opn N b 2); omega)) (fun c85 => ?_) (fun c85 => ?_)
        · -- t
          have hB2 := bas_n (e := 0) hV hM0 hb (by omega) c85
          have hB3 := hB2
          rw [show 2 * b + 0 + 1 = 2 * b + 1 by omega] at hB3
          refine z_iinc (lv' := [(5, .int (iI 2)), (4, .int (iI b)), (3, .ref (obX aq)), (2, .int (iI t)), (1, .int (iI f)), (0, .ref (obX ad))]) ok dL_isAlone_103 0 rfl (by decide) rfl ?_
          refine z_goto (tgt := 69) ok dL_isAlone_106 (by decide) ?_
          refine z_iload ok dL_isAlone_69 rfl ?_
          refine z_iconst ok dL_isAlone_71 ?_
          refine z_icmp_ge (tgt := 109) ok dL_isAlone_72 (by decide) (by decide) (by decide) (fun c => absurd c (by decide)) (fun c72 => ?_)
          refine z_aload_n ok dL_isAlone_75 rfl ?_
          refine z_iload ok dL_isAlone_76 rfl ?_
          refine z_iconst ok dL_isAlone_78 ?_
          refine z_iload ok dL_isAlone_79 rfl ?_
          refine z_iadd ok dL_isAlone_81 ?_
          refine o_ofBox (v := lkV N b 2) ok h1I hw (by omega) (by decide) (v_bl (hb) (by decide) (by decide)) qm_RL_24 dL_isAlone_82 (by decide) ⟨by decide, by decide⟩ (Nat.le_of_ble_eq_true rfl) ?_
          refine z_if_ne (tgt := 103) ok dL_isAlone_85 (by decide) (by first | (unfold lkV; split; decide; have := zb_rng (opn N b 0); omega) | (unfold lkV; split; decide; have := zb_rng (opn N b 2); omega)) (fun c85 => ?_) (fun c85 => ?_)
          · -- t
            have hB4 := bas_n (e := 1) hV hB3 hb (by omega) c85
            refine z_iinc (lv' := [(5, .int (iI 4)), (4, .int (iI b)), (3, .ref (obX aq)), (2, .int (iI t)), (1, .int (iI f)), (0, .ref (obX ad))]) ok dL_isAlone_103 0 rfl (by decide) rfl ?_
            refine z_goto (tgt := 69) ok dL_isAlone_106 (by decide) ?_
            refine z_iload ok dL_isAlone_69 rfl ?_
            refine z_iconst ok dL_isAlone_71 ?_
            refine z_icmp_ge (tgt := 109) ok dL_isAlone_72 (by decide) (by decide) (by decide) (fun c72 => ?_) (fun c => absurd c (by decide))
            refine z_iinc (lv' := [(4, .int (iI (b + 1))), (5, .int (iI 4)), (3, .ref (obX aq)), (2, .int (iI t)), (1, .int (iI f)), (0, .ref (obX ad))]) ok dL_isAlone_109 1 rfl (by decide) rfl ?_
            refine z_goto (tgt := 56) ok dL_isAlone_112 (by decide) ?_
            refine z_perm (ws' := ([] : va_W) ++ (obW Z aq M g ++ (obW Z ad N h1 ++ ([] : va_W)))) o_sw ?_
            refine z_lsub ok (lv' := [(4, .int (iI (b + 1))), (3, .ref (obX aq)), (2, .int (iI t)), (1, .int (iI f)), (0, .ref (obX ad))]) [0, 2, 3, 4, 5] rfl ?_
            exact ih (b + 1) M g h1 (by omega) (by omega) (by rw [show 2 * (b + 1) = 2 * b + 1 + 1 by omega]; exact hB4) gI h1I (by omega)
          · -- f
            refine z_aload_n ok dL_isAlone_88 rfl ?_
            refine z_iload ok dL_isAlone_89 rfl ?_
            refine z_iload ok dL_isAlone_91 rfl ?_
            refine z_iconst ok dL_isAlone_93 ?_
            refine z_perm (ws' := ([] : va_W) ++ (obW Z aq M g ++ (obW Z ad N h1 ++ ([] : va_W)))) o_sw ?_
            refine o_link ok gI hwM (by omega) (by decide) (by decide) qm_RL_40 dL_isAlone_94 (by decide) ⟨by decide, by decide⟩ (Nat.le_of_ble_eq_true rfl) (fun r8 N7 h6 h6I h6c => ?_)
            obtain ⟨y1, y2, y3, y4⟩ := bas_y (e := 1) hw hB3 hb (by omega) c85
            obtain ⟨q2, q3⟩ : r8 = 1 ∧ N7 = (zu M (lkm M b 2) (1 - 0)) := by rcases h6c with ⟨a, _, _⟩ | ⟨_, a, b⟩; exact absurd y2 a; exact ⟨a.trans y3, b⟩
            rw [q3] at h6I
            rw [q2, q3]
            have hB9 := y4
            have hwMhB9 := hB9.1.1.1
            refine z_iconst ok dL_isAlone_97 ?_
            refine z_icmp_eq (tgt := 103) ok dL_isAlone_98 (by decide) (by decide) (by decide) (fun c98 => ?_) (fun c => absurd c (by decide))
            refine z_iinc (lv' := [(5, .int (iI 4)), (4, .int (iI b)), (3, .ref (obX aq)), (2, .int (iI t)), (1, .int (iI f)), (0, .ref (obX ad))]) ok dL_isAlone_103 0 rfl (by decide) rfl ?_
            refine z_goto (tgt := 69) ok dL_isAlone_106 (by decide) ?_
            refine z_iload ok dL_isAlone_69 rfl ?_
            refine z_iconst ok dL_isAlone_71 ?_
            refine z_icmp_ge (tgt := 109) ok dL_isAlone_72 (by decide) (by decide) (by decide) (fun c72 => ?_) (fun c => absurd c (by decide))
            refine z_iinc (lv' := [(4, .int (iI (b + 1))), (5, .int (iI 4)), (3, .ref (obX aq)), (2, .int (iI t)), (1, .int (iI f)), (0, .ref (obX ad))]) ok dL_isAlone_109 1 rfl (by decide) rfl ?_
            refine z_goto (tgt := 56) ok dL_isAlone_112 (by decide) ?_
            refine z_lsub ok (lv' := [(4, .int (iI (b + 1))), (3, .ref (obX aq)), (2, .int (iI t)), (1, .int (iI f)), (0, .ref (obX ad))]) [0, 2, 3, 4, 5] rfl ?_
            exact ih (b + 1) (zu M (lkm M b 2) (1 - 0)) h6 h1 (by omega) (by omega) (by rw [show 2 * (b + 1) = 2 * b + 1 + 1 by omega]; exact hB9) h6I h1I (by omega)
        · -- f
          refine z_aload_n ok dL_isAlone_88 rfl ?_
          refine z_iload ok dL_isAlone_89 rfl ?_
          refine z_iload ok dL_isAlone_91 rfl ?_
          refine z_iconst ok dL_isAlone_93 ?_
          refine z_perm (ws' := ([] : va_W) ++ (obW Z aq M g ++ (obW Z ad N h1 ++ ([] : va_W)))) o_sw ?_
          refine o_link ok gI hwM (by omega) (by decide) (by decide) qm_RL_40 dL_isAlone_94 (by decide) ⟨by decide, by decide⟩ (Nat.le_of_ble_eq_true rfl) (fun r13 N12 h11 h11I h11c => ?_)
          obtain ⟨y1, y2, y3, y4⟩ := bas_y (e := 0) hw hM0 hb (by omega) c85
          obtain ⟨q2, q3⟩ : r13 = 1 ∧ N12 = (zu M (lkm M b 0) (1 - 0)) := by rcases h11c with ⟨a, _, _⟩ | ⟨_, a, b⟩; exact absurd y2 a; exact ⟨a.trans y3, b⟩
          rw [q3] at h11I
          rw [q2, q3]
          have hB14 := y4
          have hwMhB14 := hB14.1.1.1
          refine z_iconst ok dL_isAlone_97 ?_
          refine z_icmp_eq (tgt := 103) ok dL_isAlone_98 (by decide) (by decide) (by decide) (fun c98 => ?_) (fun c => absurd c (by decide))
          have hB15 := hB14
          rw [show 2 * b + 0 + 1 = 2 * b + 1 by omega] at hB15
          refine z_iinc (lv' := [(5, .int (iI 2)), (4, .int (iI b)), (3, .ref (obX aq)), (2, .int (iI t)), (1, .int (iI f)), (0, .ref (obX ad))]) ok dL_isAlone_103 0 rfl (by decide) rfl ?_
          refine z_goto (tgt := 69) ok dL_isAlone_106 (by decide) ?_
          refine z_iload ok dL_isAlone_69 rfl ?_
          refine z_iconst ok dL_isAlone_71 ?_
          refine z_icmp_ge (tgt := 109) ok dL_isAlone_72 (by decide) (by decide) (by decide) (fun c => absurd c (by decide)) (fun c72 => ?_)
          refine z_aload_n ok dL_isAlone_75 rfl ?_
          refine z_iload ok dL_isAlone_76 rfl ?_
          refine z_iconst ok dL_isAlone_78 ?_
          refine z_iload ok dL_isAlone_79 rfl ?_
          refine z_iadd ok dL_isAlone_81 ?_
          refine z_perm (ws' := ([] : va_W) ++ (obW Z ad N h1 ++ (obW Z aq (zu M (lkm M b 0) (1 - 0)) h11 ++ ([] : va_W)))) o_sw ?_
          refine o_ofBox (v := lkV N b 2) ok h1I hw (by omega) (by decide) (v_bl (hb) (by decide) (by decide)) qm_RL_24 dL_isAlone_82 (by decide) ⟨by decide, by decide⟩ (Nat.le_of_ble_eq_true rfl) ?_
          refine z_if_ne (tgt := 103) ok dL_isAlone_85 (by decide) (by first | (unfold lkV; split; decide; have := zb_rng (opn N b 0); omega) | (unfold lkV; split; decide; have := zb_rng (opn N b 2); omega)) (fun c85 => ?_) (fun c85 => ?_)
          · -- t
            have hB16 := bas_n (e := 1) hV hB15 hb (by omega) c85
            refine z_iinc (lv' := [(5, .int (iI 4)), (4, .int (iI b)), (3, .ref (obX aq)), (2, .int (iI t)), (1, .int (iI f)), (0, .ref (obX ad))]) ok dL_isAlone_103 0 rfl (by decide) rfl ?_
            refine z_goto (tgt := 69) ok dL_isAlone_106 (by decide) ?_
            refine z_iload ok dL_isAlone_69 rfl ?_
            refine z_iconst ok dL_isAlone_71 ?_
            refine z_icmp_ge (tgt := 109) ok dL_isAlone_72 (by decide) (by decide) (by decide) (fun c72 => ?_) (fun c => absurd c (by decide))
            refine z_iinc (lv' := [(4, .int (iI (b + 1))), (5, .int (iI 4)), (3, .ref (obX aq)), (2, .int (iI t)), (1, .int (iI f)), (0, .ref (obX ad))]) ok dL_isAlone_109 1 rfl (by decide) rfl ?_
            refine z_goto (tgt := 56) ok dL_isAlone_112 (by decide) ?_
            refine z_perm (ws' := ([] : va_W) ++ (obW Z aq (zu M (lkm M b 0) (1 - 0)) h11 ++ (obW Z ad N h1 ++ ([] : va_W)))) o_sw ?_
            refine z_lsub ok (lv' := [(4, .int (iI (b + 1))), (3, .ref (obX aq)), (2, .int (iI t)), (1, .int (iI f)), (0, .ref (obX ad))]) [0, 2, 3, 4, 5] rfl ?_
            exact ih (b + 1) (zu M (lkm M b 0) (1 - 0)) h11 h1 (by omega) (by omega) (by rw [show 2 * (b + 1) = 2 * b + 1 + 1 by omega]; exact hB16) h11I h1I (by omega)
          · -- f
            refine z_aload_n ok dL_isAlone_88 rfl ?_
            refine z_iload ok dL_isAlone_89 rfl ?_
            refine z_iload ok dL_isAlone_91 rfl ?_
            refine z_iconst ok dL_isAlone_93 ?_
            refine z_perm (ws' := ([] : va_W) ++ (obW Z aq (zu M (lkm M b 0) (1 - 0)) h11 ++ (obW Z ad N h1 ++ ([] : va_W)))) o_sw ?_
            refine o_link ok h11I hwMhB14 (by omega) (by decide) (by decide) qm_RL_40 dL_isAlone_94 (by decide) ⟨by decide, by decide⟩ (Nat.le_of_ble_eq_true rfl) (fun r20 N19 h18 h18I h18c => ?_)
            obtain ⟨y1, y2, y3, y4⟩ := bas_y (e := 1) hw hB15 hb (by omega) c85
            obtain ⟨q2, q3⟩ : r20 = 1 ∧ N19 = (zu (zu M (lkm M b 0) (1 - 0)) (lkm (zu M (lkm M b 0) (1 - 0)) b 2) (1 - 0)) := by rcases h18c with ⟨a, _, _⟩ | ⟨_, a, b⟩; exact absurd y2 a; exact ⟨a.trans y3, b⟩
            rw [q3] at h18I
            rw [q2, q3]
            have hB21 := y4
            have hwMhB21 := hB21.1.1.1
            refine z_iconst ok dL_isAlone_97 ?_
            refine z_icmp_eq (tgt := 103) ok dL_isAlone_98 (by decide) (by decide) (by decide) (fun c98 => ?_) (fun c => absurd c (by decide))
            refine z_iinc (lv' := [(5, .int (iI 4)), (4, .int (iI b)), (3, .ref (obX aq)), (2, .int (iI t)), (1, .int (iI f)), (0, .ref (obX ad))]) ok dL_isAlone_103 0 rfl (by decide) rfl ?_
            refine z_goto (tgt := 69) ok dL_isAlone_106 (by decide) ?_
            refine z_iload ok dL_isAlone_69 rfl ?_
            refine z_iconst ok dL_isAlone_71 ?_
            refine z_icmp_ge (tgt := 109) ok dL_isAlone_72 (by decide) (by decide) (by decide) (fun c72 => ?_) (fun c => absurd c (by decide))
            refine z_iinc (lv' := [(4, .int (iI (b + 1))), (5, .int (iI 4)), (3, .ref (obX aq)), (2, .int (iI t)), (1, .int (iI f)), (0, .ref (obX ad))]) ok dL_isAlone_109 1 rfl (by decide) rfl ?_
            refine z_goto (tgt := 56) ok dL_isAlone_112 (by decide) ?_
            refine z_lsub ok (lv' := [(4, .int (iI (b + 1))), (3, .ref (obX aq)), (2, .int (iI t)), (1, .int (iI f)), (0, .ref (obX ad))]) [0, 2, 3, 4, 5] rfl ?_
            exact ih (b + 1) (zu (zu M (lkm M b 0) (1 - 0)) (lkm (zu M (lkm M b 0) (1 - 0)) b 2) (1 - 0)) h18 h1 (by omega) (by omega) (by rw [show 2 * (b + 1) = 2 * b + 1 + 1 by omega]; exact hB21) h18I h1I (by omega)
  refine z_lsub ok (lv' := [(0, .ref (obX ad)), (1, .int (iI f)), (2, .int (iI t))]) [0, 1, 2] rfl ?_
  refine z_eq (ws' := ([] : va_W) ++ (obW Z ad N h ++ ([] : va_W))) o_in ?_
  refine o_new ok hnx qk_RL_9 dL_isAlone_0 dL_isAlone_3 qm_RL_33 dL_isAlone_4 (by decide) ⟨by decide, by decide⟩ (fun aq g gI => ?_)
  refine z_eq (ws' := ([] : va_W) ++ (obW Z aq inN g ++ (obW Z ad N h ++ ([] : va_W)))) rfl ?_
  refine z_astore_n (lv' := [(3, .ref (obX aq)), (0, .ref (obX ad)), (1, .int (iI f)), (2, .int (iI t))]) ok dL_isAlone_7 (by decide) rfl ?_
  refine z_aload_n ok dL_isAlone_8 rfl ?_
  refine z_aload_n ok dL_isAlone_9 rfl ?_
  refine z_iconst ok dL_isAlone_10 ?_
  refine z_perm (ws' := ([] : va_W) ++ (obW Z ad N h ++ (obW Z aq inN g ++ ([] : va_W)))) o_sw ?_
  refine o_count (v := N 4) ok hI hw (by decide) (v_c2) qm_RL_8 dL_isAlone_11 (by decide) ⟨by decide, by decide⟩ (Nat.le_of_ble_eq_true rfl) (fun h1 h1I => ?_)
  refine z_aload_n ok dL_isAlone_14 rfl ?_
  refine z_iconst ok dL_isAlone_15 ?_
  refine o_count (v := N 4 * N 5) ok h1I hw (by decide) (v_c1) qm_RL_8 dL_isAlone_16 (by decide) ⟨by decide, by decide⟩ (Nat.le_of_ble_eq_true rfl) (fun h2 h2I => ?_)
  refine z_aload_n ok dL_isAlone_19 rfl ?_
  refine z_iconst ok dL_isAlone_20 ?_
  refine o_count (v := N 4) ok h2I hw (by decide) (v_c2) qm_RL_8 dL_isAlone_21 (by decide) ⟨by decide, by decide⟩ (Nat.le_of_ble_eq_true rfl) (fun h3 h3I => ?_)
  refine z_idiv ok dL_isAlone_24 (by omega) (by omega) ?_
  refine z_perm (ws' := ([] : va_W) ++ (obW Z aq inN g ++ (obW Z ad N h3 ++ ([] : va_W)))) o_sw ?_
  refine o_mesh ok gI wf_inN (by omega) (by omega) qm_RL_34 dL_isAlone_25 (by decide) ⟨by decide, by decide⟩ (Nat.le_of_ble_eq_true rfl) (fun r6 N5 h4 h4I h4c => ?_)
  have i6 : inN 6 = 0 := inN_0 (by decide)
  have ok2 : okL (N 4) (N 4 * N 5 / N 4) := by rw [e5]; exact ⟨hc4, hr5⟩
  obtain ⟨q2, q3⟩ : r6 = N 4 * (N 4 * N 5 / N 4) ∧ N5 = mshN inN (N 4) (N 5) := by rcases h4c with ⟨a, _, _⟩ | ⟨a, _, _⟩ | ⟨_, a, b⟩; exact absurd ok2 a; omega; exact ⟨a, by rw [b, e5]⟩
  rw [q3] at h4I
  rw [q3]
  have w1 := (INV_msh INV_in ⟨hc4, hr5⟩ (by omega)).1.1
  refine z_pop ok dL_isAlone_28 rfl ?_
  refine z_aload_n ok dL_isAlone_29 rfl ?_
  refine z_iconst ok dL_isAlone_30 ?_
  refine z_aload_n ok dL_isAlone_31 rfl ?_
  refine z_bipush ok dL_isAlone_32 (by decide) ?_
  refine z_perm (ws' := ([] : va_W) ++ (obW Z ad N h3 ++ (obW Z aq (mshN inN (N 4) (N 5)) h4 ++ ([] : va_W)))) o_sw ?_
  refine o_count (v := N 0) ok h3I hw (by decide) (v_c14) qm_RL_8 dL_isAlone_34 (by decide) ⟨by decide, by decide⟩ (Nat.le_of_ble_eq_true rfl) (fun h7 h7I => ?_)
  refine z_perm (ws' := ([] : va_W) ++ (obW Z aq (mshN inN (N 4) (N 5)) h4 ++ (obW Z ad N h7 ++ ([] : va_W)))) o_sw ?_
  refine o_set ok h4I w1 (by decide) (by omega) qm_RL_37 dL_isAlone_37 (by decide) ⟨by decide, by decide⟩ (Nat.le_of_ble_eq_true rfl) (fun r10 N9 h8 h8I h8c => ?_)
  have os0 : okS 0 (N 0) := Or.inl ⟨rfl, hw0⟩
  have q3 : N9 = (zu (mshN inN (N 4) (N 5)) 0 (N 0)) := by rcases h8c with ⟨a, _, _⟩ | ⟨_, _, b⟩; exact absurd os0 a; exact b
  rw [q3] at h8I
  rw [q3]
  have w2 := (INV_set (INV_msh INV_in ⟨hc4, hr5⟩ (by omega)) os0).1.1
  refine z_pop ok dL_isAlone_40 rfl ?_
  refine z_aload_n ok dL_isAlone_41 rfl ?_
  refine z_iconst ok dL_isAlone_42 ?_
  refine z_aload_n ok dL_isAlone_43 rfl ?_
  refine z_bipush ok dL_isAlone_44 (by decide) ?_
  refine z_perm (ws' := ([] : va_W) ++ (obW Z ad N h7 ++ (obW Z aq (zu (mshN inN (N 4) (N 5)) 0 (N 0)) h8 ++ ([] : va_W)))) o_sw ?_
  refine o_count (v := N 1) ok h7I hw (by decide) (v_c15) qm_RL_8 dL_isAlone_46 (by decide) ⟨by decide, by decide⟩ (Nat.le_of_ble_eq_true rfl) (fun h11 h11I => ?_)
  refine z_perm (ws' := ([] : va_W) ++ (obW Z aq (zu (mshN inN (N 4) (N 5)) 0 (N 0)) h8 ++ (obW Z ad N h11 ++ ([] : va_W)))) o_sw ?_
  refine o_set ok h8I w2 (by decide) (by omega) qm_RL_37 dL_isAlone_49 (by decide) ⟨by decide, by decide⟩ (Nat.le_of_ble_eq_true rfl) (fun r14 N13 h12 h12I h12c => ?_)
  have os1 : okS 1 (N 1) := Or.inr (Or.inl ⟨rfl, hw1⟩)
  have q3 : N13 = (zu (zu (mshN inN (N 4) (N 5)) 0 (N 0)) 1 (N 1)) := by rcases h12c with ⟨a, _, _⟩ | ⟨_, _, b⟩; exact absurd os1 a; exact b
  rw [q3] at h12I
  rw [q3]
  refine z_pop ok dL_isAlone_52 rfl ?_
  refine z_iconst ok dL_isAlone_53 ?_
  refine z_istore (lv' := [(4, .int (iI 0)), (3, .ref (obX aq)), (0, .ref (obX ad)), (1, .int (iI f)), (2, .int (iI t))]) ok dL_isAlone_54 (by decide) rfl ?_
  refine z_lsub ok (lv' := [(4, .int (iI 0)), (3, .ref (obX aq)), (2, .int (iI t)), (1, .int (iI f)), (0, .ref (obX ad))]) [0, 1, 4, 3, 2] rfl ?_
  exact L56 aq _ 0 (zu (zu (mshN inN (N 4) (N 5)) 0 (N 0)) 1 (N 1)) h12 h11 (Int.le_refl 0) (by omega) (bas_0 hV) h12I h11I (Nat.lt_succ_self _)
