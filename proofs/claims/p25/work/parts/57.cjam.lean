set_option maxRecDepth 20000 in
theorem c_X1_hasFreePacket {l : Launch} {Z : zZ} {a : Nat → Nat} {N : Int → Int} {c : Nat → Nat} {sk : Int → Int} {bx : Int} (hw : wf N) (h01 : ∀ x : Int, 0 ≤ x → x < 40 → sk x = 0 ∨ sk x = 1) (hb : -2147483648 ≤ bx ∧ bx < 2147483648) : zI (T := Unit) l yX1_hasFreePacket (Cond.code yX1_hasFreePacket cX1_hasFreePacket 4 (some .boolean) :: wsL_law) ({ frames := 0, cells := 0, slots := 0, locals := 0 } : Room) Z [.ref (c 0), .ref (a 3), .int (iI bx)] (zf [jW Z c sk, pW Z a (N 6) (pkF N 0) (pkF N 1) (pkF N 2) (pkF N 3) (pkF N 4) (pkF N 5) (pkF N 6) (pkF N 7) (pkF N 8) (pkF N 9)]) (fun _ => zf [jW Z c sk, pW Z a (N 6) (pkF N 0) (pkF N 1) (pkF N 2) (pkF N 3) (pkF N 4) (pkF N 5) (pkF N 6) (pkF N 7) (pkF N 8) (pkF N 9)]) (fun ρ _ => ρ = zb (∃ x : Int, 0 ≤ x ∧ x < N 6 ∧ pk N x 2 = 1 ∧ pk N x 3 = bx ∧ ¬ stS N sk x)) := by
  refine zI_of (C := RX1) (by decide +kernel) rfl (Nat.le_of_ble_eq_true rfl) (fun ρ => ρ = 0 ∨ ρ = 1) znZ (fun X ok fin => ?_)
  obtain ⟨w0, w1, w2, hc, hr, w6, wl, wp⟩ := id hw
  have hcr := cr_rng hc hr
  refine z_lsub ok (lv' := [(0, .ref (c 0)), (1, .ref (a 3)), (2, .int (iI bx))]) [0, 1, 2] rfl ?_
  refine z_iconst ok dX1_hasFreePacket_0 ?_
  refine z_istore_n (lv' := [(3, .int (iI 0)), (0, .ref (c 0)), (1, .ref (a 3)), (2, .int (iI bx))]) ok dX1_hasFreePacket_1 (by decide) rfl ?_
  have L2 : ∀ (fuel : Nat) (p : Int), (0 ≤ p) → (p ≤ N 6) → (∀ x : Int, 0 ≤ x → x < p → ¬ (pk N x 2 = 1 ∧ pk N x 3 = bx ∧ ¬ stS N sk x)) → (N 6 - p).toNat < fuel → zV X 0 0 (zf [jW Z c sk, pW Z a (N 6) (pkF N 0) (pkF N 1) (pkF N 2) (pkF N 3) (pkF N 4) (pkF N 5) (pkF N 6) (pkF N 7) (pkF N 8) (pkF N 9)]) 2 [(0, .ref (c 0)), (1, .ref (a 3)), (2, .int (iI bx)), (3, .int (iI p))] [] := by
    intro fuel
    induction fuel with
    | zero => intro p h2_0 h2_1 h2_2 hf; exact absurd hf (Nat.not_lt_zero _)
    | succ fuel ih2 =>
      intro p h2_0 h2_1 h2_2 hf
      refine z_iload_n ok dX1_hasFreePacket_2 rfl ?_
      refine z_aload_n ok dX1_hasFreePacket_3 rfl ?_
      refine z_get (v := .int (iI (N 6))) ok zc2 2 rfl 0 (by decide) qf_RX1_31 rfl rfl dX1_hasFreePacket_4 ?_
      refine z_icmp_ge (tgt := 47) ok dX1_hasFreePacket_7 (by decide) (by omega) (by omega) (fun c7 => ?_) (fun c7 => ?_)
      · -- t
        refine z_iconst ok dX1_hasFreePacket_47 ?_
        exact fin 0 () 48 _ _ _ dX1_hasFreePacket_48 (by first | decide | exact zb_01 _ | omega) ((zb_f (fun z => by obtain ⟨x, z1, z2, z3, z4, z5⟩ := z; exact h2_2 x z1 (by omega) ⟨z3, z4, z5⟩)).symm) (by decide) (by decide)
      · -- f
        have wpp := wp p (by omega) (by omega)
        refine z_aload_n ok dX1_hasFreePacket_10 rfl ?_
        refine z_get (v := .ref (a 6)) ok zc2 2 rfl 3 (by decide) qf_RX1_35 rfl rfl dX1_hasFreePacket_11 ?_
        refine z_iload_n ok dX1_hasFreePacket_14 rfl ?_
        refine z_iale (f := pkF N 2) (v := pk N p 2) ok 5 rfl rfl dX1_hasFreePacket_15 (by omega) (by decide) ?_
        refine z_iconst ok dX1_hasFreePacket_16 ?_
        refine z_icmp_ne (tgt := 41) ok dX1_hasFreePacket_17 (by decide) (by omega) (by omega) (fun c17 => ?_) (fun c17 => ?_)
        · -- t
          refine z_iinc (lv' := [(3, .int (iI (p + 1))), (0, .ref (c 0)), (1, .ref (a 3)), (2, .int (iI bx))]) ok dX1_hasFreePacket_41 3 rfl (by decide) rfl ?_
          refine z_goto (tgt := 2) ok dX1_hasFreePacket_44 (by decide) ?_
          refine z_lsub ok (lv' := [(0, .ref (c 0)), (1, .ref (a 3)), (2, .int (iI bx)), (3, .int (iI (p + 1)))]) [1, 2, 3, 0] rfl ?_
          exact ih2 _ (by omega) (by omega) (zall h2_2 (fun z => by first | (have := z.1; omega) | (have := z.2.1; omega) | exact z.2.2 ⟨by omega, by omega, by omega⟩)) (by omega)
        · -- f
          refine z_aload_n ok dX1_hasFreePacket_20 rfl ?_
          refine z_get (v := .ref (a 7)) ok zc2 2 rfl 4 (by decide) qf_RX1_47 rfl rfl dX1_hasFreePacket_21 ?_
          refine z_iload_n ok dX1_hasFreePacket_24 rfl ?_
          refine z_iale (f := pkF N 3) (v := pk N p 3) ok 6 rfl rfl dX1_hasFreePacket_25 (by omega) (by decide) ?_
          refine z_iload_n ok dX1_hasFreePacket_26 rfl ?_
          refine z_icmp_ne (tgt := 41) ok dX1_hasFreePacket_27 (by decide) (by omega) (by omega) (fun c27 => ?_) (fun c27 => ?_)
          · -- t
            refine z_iinc (lv' := [(3, .int (iI (p + 1))), (0, .ref (c 0)), (1, .ref (a 3)), (2, .int (iI bx))]) ok dX1_hasFreePacket_41 3 rfl (by decide) rfl ?_
            refine z_goto (tgt := 2) ok dX1_hasFreePacket_44 (by decide) ?_
            refine z_lsub ok (lv' := [(0, .ref (c 0)), (1, .ref (a 3)), (2, .int (iI bx)), (3, .int (iI (p + 1)))]) [1, 2, 3, 0] rfl ?_
            exact ih2 _ (by omega) (by omega) (zall h2_2 (fun z => by first | (have := z.1; omega) | (have := z.2.1; omega) | exact z.2.2 ⟨by omega, by omega, by omega⟩)) (by omega)
          · -- f
            have h01p := h01 p (by omega) (by omega)
            refine z_aload_n ok dX1_hasFreePacket_30 rfl ?_
            refine z_get (v := .ref (c 1)) ok zc1 0 rfl 0 (by decide) qf_RX1_9 rfl rfl dX1_hasFreePacket_31 ?_
            refine z_iload_n ok dX1_hasFreePacket_34 rfl ?_
            refine z_zald (f := sk) ok 1 rfl dX1_hasFreePacket_35 (by omega) (by decide) ?_
            refine z_if_ne (tgt := 41) ok dX1_hasFreePacket_36 (by decide) (by omega) (fun c36 => ?_) (fun c36 => ?_)
            · -- t
              refine z_iinc (lv' := [(3, .int (iI (p + 1))), (0, .ref (c 0)), (1, .ref (a 3)), (2, .int (iI bx))]) ok dX1_hasFreePacket_41 3 rfl (by decide) rfl ?_
              refine z_goto (tgt := 2) ok dX1_hasFreePacket_44 (by decide) ?_
              refine z_lsub ok (lv' := [(0, .ref (c 0)), (1, .ref (a 3)), (2, .int (iI bx)), (3, .int (iI (p + 1)))]) [1, 2, 3, 0] rfl ?_
              exact ih2 _ (by omega) (by omega) (zall h2_2 (fun z => by first | (have := z.1; omega) | (have := z.2.1; omega) | exact z.2.2 ⟨by omega, by omega, by omega⟩)) (by omega)
            · -- f
              refine z_iconst ok dX1_hasFreePacket_39 ?_
              exact fin 1 () 40 _ _ _ dX1_hasFreePacket_40 (by first | decide | exact zb_01 _ | omega) ((zb_t ⟨p, by omega, by omega, by omega, by omega, fun z => by have := z.2.2; omega⟩).symm) (by decide) (by decide)
  refine z_lsub ok (lv' := [(0, .ref (c 0)), (1, .ref (a 3)), (2, .int (iI bx)), (3, .int (iI 0))]) [1, 2, 3, 0] rfl ?_
  exact L2 _ _ (by omega) (by omega) (fun x h0 h1 => absurd h1 (by omega)) (Nat.lt_succ_self _)
set_option maxRecDepth 20000 in
theorem c_X1_canGoOn {l : Launch} {Z : zZ} {a : Nat → Nat} {N : Int → Int} {b : Nat → Nat} {ef : Int} {op ln nm qu : Int → Int} {qd : Int} {c : Nat → Nat} {sk : Int → Int} {p : Int} (hw : wf N) (hok : rOK N ef op ln) (hp : 0 ≤ p ∧ p < N 6) (h01 : ∀ x : Int, 0 ≤ x → x < 40 → sk x = 0 ∨ sk x = 1) : zI (T := Unit) l yX1_canGoOn (Cond.code yX1_canGoOn cX1_canGoOn 6 (some .boolean) :: wsL_law) ({ frames := 4, cells := 0, slots := 0, locals := 93 } : Room) Z [.ref (c 0), .ref (a 0), .ref (b 0), .int (iI p)] (zf [jW Z c sk, soW Z a N (ins N) (mvF N) (N 3), gW Z a (N 4) (N 5) (bkL N), pW Z a (N 6) (pkF N 0) (pkF N 1) (pkF N 2) (pkF N 3) (pkF N 4) (pkF N 5) (pkF N 6) (pkF N 7) (pkF N 8) (pkF N 9), rW Z b ef op ln nm qu qd]) (fun _ => zf [jW Z c sk, soW Z a N (ins N) (mvF N) (N 3), gW Z a (N 4) (N 5) (bkL N), pW Z a (N 6) (pkF N 0) (pkF N 1) (pkF N 2) (pkF N 3) (pkF N 4) (pkF N 5) (pkF N 6) (pkF N 7) (pkF N 8) (pkF N 9), rW Z b ef op ln nm qu qd]) (fun ρ _ => ρ = zb (free N (stS N sk) p)) := by
  refine zI_of (C := RX1) (by decide +kernel) rfl (Nat.le_of_ble_eq_true rfl) (fun ρ => ρ = 0 ∨ ρ = 1) znZ (fun X ok fin => ?_)
  obtain ⟨w0, w1, w2, hc, hr, w6, wl, wp⟩ := id hw
  have hcr := cr_rng hc hr
  have wpp := wp p hp.1 hp.2
  refine z_lsub ok (lv' := [(0, .ref (c 0)), (1, .ref (a 0)), (2, .ref (b 0)), (3, .int (iI p))]) [0, 1, 2, 3] rfl ?_
  refine z_iconst ok dX1_canGoOn_0 ?_
  refine z_istore (lv' := [(4, .int (iI 0)), (0, .ref (c 0)), (1, .ref (a 0)), (2, .ref (b 0)), (3, .int (iI p))]) ok dX1_canGoOn_1 (by decide) rfl ?_
  have L3 : ∀ (fuel : Nat) (sd : Int), (0 ≤ sd) → (sd ≤ 4) → (∀ x : Int, 0 ≤ x → x < sd → ¬ (pss N (pk N p 1) (stg N p) x ∧ frq N (stS N sk) p x)) → (4 - sd).toNat < fuel → zV X 0 0 (zf [jW Z c sk, soW Z a N (ins N) (mvF N) (N 3), gW Z a (N 4) (N 5) (bkL N), pW Z a (N 6) (pkF N 0) (pkF N 1) (pkF N 2) (pkF N 3) (pkF N 4) (pkF N 5) (pkF N 6) (pkF N 7) (pkF N 8) (pkF N 9), rW Z b ef op ln nm qu qd]) 3 [(0, .ref (c 0)), (1, .ref (a 0)), (2, .ref (b 0)), (3, .int (iI p)), (4, .int (iI sd))] [] := by
    intro fuel
    induction fuel with
    | zero => intro sd h3_0 h3_1 h3_2 hf; exact absurd hf (Nat.not_lt_zero _)
    | succ fuel ih3 =>
      intro sd h3_0 h3_1 h3_2 hf
      refine z_iload ok dX1_canGoOn_3 rfl ?_
      refine z_iconst ok dX1_canGoOn_5 ?_
      refine z_icmp_ge (tgt := 68) ok dX1_canGoOn_6 (by decide) (by omega) (by omega) (fun c6 => ?_) (fun c6 => ?_)
      · -- t
        refine z_iconst ok dX1_canGoOn_68 ?_
        exact fin 0 () 69 _ _ _ dX1_canGoOn_69 (by first | decide | exact zb_01 _ | omega) ((zb_f (fun z => by obtain ⟨x, z1, z2, z3, z4⟩ := z; exact h3_2 x z1 (by omega) ⟨z3, z4⟩)).symm) (by decide) (by decide)
      · -- f
        refine z_aload_n ok dX1_canGoOn_9 rfl ?_
        refine z_aload_n ok dX1_canGoOn_10 rfl ?_
        refine z_iload_n ok dX1_canGoOn_11 rfl ?_
        refine z_iload ok dX1_canGoOn_12 rfl ?_
        refine z_callVif ok (fun l => c_X5_isPossible  (hw) (by omega) (by omega) (by omega)) zm_X5_isPossible zv_X5_isPossible qm_RX1_43 dX1_canGoOn_14 (by decide) (by decide) rfl rfl (Nat.le_of_ble_eq_true rfl) (q0 := 0) rfl rfl rfl (L := [jW Z c sk, soW Z a N (ins N) (mvF N) (N 3), gW Z a (N 4) (N 5) (bkL N), pW Z a (N 6) (pkF N 0) (pkF N 1) (pkF N 2) (pkF N 3) (pkF N 4) (pkF N 5) (pkF N 6) (pkF N 7) (pkF N 8) (pkF N 9), rW Z b ef op ln nm qu qd]) (Lr := [jW Z c sk]) [1, 2, 3, 4, 0] [4, 0, 1, 2, 3] rfl rfl (fun _ => rfl) (fun ρ _ hρ => ?_)
        subst hρ
        refine z_eq (ws' := zf [jW Z c sk, soW Z a N (ins N) (mvF N) (N 3), gW Z a (N 4) (N 5) (bkL N), pW Z a (N 6) (pkF N 0) (pkF N 1) (pkF N 2) (pkF N 3) (pkF N 4) (pkF N 5) (pkF N 6) (pkF N 7) (pkF N 8) (pkF N 9), rW Z b ef op ln nm qu qd]) rfl ?_
        refine z_ifb_eq (tgt := 62) ok dX1_canGoOn_17 (by decide) (fun c17 => ?_) (fun c17 => ?_)
        · -- t
          refine z_iinc (lv' := [(4, .int (iI (sd + 1))), (0, .ref (c 0)), (1, .ref (a 0)), (2, .ref (b 0)), (3, .int (iI p))]) ok dX1_canGoOn_62 4 rfl (by decide) rfl ?_
          refine z_goto (tgt := 3) ok dX1_canGoOn_65 (by decide) ?_
          refine z_lsub ok (lv' := [(0, .ref (c 0)), (1, .ref (a 0)), (2, .ref (b 0)), (3, .int (iI p)), (4, .int (iI (sd + 1)))]) [1, 2, 3, 4, 0] rfl ?_
          exact ih3 _ (by omega) (by omega) (zall h3_2 (fun z => by first | exact c17 z.1 | (rcases z.2 with y | y; (exact c44 (by unfold rmP at y; rw [hob]; exact y)); (exact c57 (by rw [hob]; exact y))))) (by omega)
        · -- f
          have hmm := mm_rng hw hp
          obtain ⟨hl1, hl2, hl3, hl4⟩ := pss_laf (d := sd) hw hok hp (by omega)
          have hov := hok.1.2 (pk N p 3) sd (by omega) (by omega) (by omega) (by omega)
          have hor := oq_rng (b := pk N p 3) (d := sd) hw (by omega) (by omega)
          obtain ⟨hob, hnb0⟩ := hl4 (by have := hl1.mpr c17; omega)
          have hnr := nb_rng (b := pk N p 3) (d := sd) hw (by omega) (by omega)
          refine z_aload_n ok dX1_canGoOn_20 rfl ?_
          refine z_aload_n ok dX1_canGoOn_21 rfl ?_
          refine z_get (v := .ref (a 3)) ok zc5 2 rfl 2 (by decide) qf_RX1_19 rfl rfl dX1_canGoOn_22 ?_
          refine z_get (v := .ref (a 7)) ok zc2 7 rfl 4 (by decide) qf_RX1_47 rfl rfl dX1_canGoOn_25 ?_
          refine z_iload_n ok dX1_canGoOn_28 rfl ?_
          refine z_iale (f := pkF N 3) (v := pk N p 3) ok 11 rfl rfl dX1_canGoOn_29 (by omega) (by decide) ?_
          refine z_iload ok dX1_canGoOn_30 rfl ?_
          refine z_callVif ok (fun l => c_X4_boxBehind  (by omega) (by omega)) zm_X4_boxBehind zv_X4_boxBehind qm_RX1_50 dX1_canGoOn_32 (by decide) (by decide) rfl rfl (Nat.le_of_ble_eq_true rfl) (q0 := 0) rfl rfl rfl (L := [jW Z c sk, soW Z a N (ins N) (mvF N) (N 3), gW Z a (N 4) (N 5) (bkL N), pW Z a (N 6) (pkF N 0) (pkF N 1) (pkF N 2) (pkF N 3) (pkF N 4) (pkF N 5) (pkF N 6) (pkF N 7) (pkF N 8) (pkF N 9), rW Z b ef op ln nm qu qd]) (Lr := [jW Z c sk, soW Z a N (ins N) (mvF N) (N 3), gW Z a (N 4) (N 5) (bkL N), pW Z a (N 6) (pkF N 0) (pkF N 1) (pkF N 2) (pkF N 3) (pkF N 4) (pkF N 5) (pkF N 6) (pkF N 7) (pkF N 8) (pkF N 9)]) [4, 0, 1, 2, 3] [1, 2, 3, 4, 0] rfl rfl (fun _ => rfl) (fun ρ _ hρ => ?_)
          subst hρ
          refine z_eq (ws' := zf [jW Z c sk, soW Z a N (ins N) (mvF N) (N 3), gW Z a (N 4) (N 5) (bkL N), pW Z a (N 6) (pkF N 0) (pkF N 1) (pkF N 2) (pkF N 3) (pkF N 4) (pkF N 5) (pkF N 6) (pkF N 7) (pkF N 8) (pkF N 9), rW Z b ef op ln nm qu qd]) rfl ?_
          refine z_istore (lv' := [(5, .int (iI (op ((pk N p 3) * 4 + sd)))), (0, .ref (c 0)), (1, .ref (a 0)), (2, .ref (b 0)), (3, .int (iI p)), (4, .int (iI sd))]) ok dX1_canGoOn_35 (by decide) rfl ?_
          refine z_aload_n ok dX1_canGoOn_37 rfl ?_
          refine z_iload_n ok dX1_canGoOn_38 rfl ?_
          refine z_iload ok dX1_canGoOn_39 rfl ?_
          refine z_callVif ok (fun l => c_X5_letsIn  (hw) (by omega) (by omega)) zm_X5_letsIn zv_X5_letsIn qm_RX1_56 dX1_canGoOn_41 (by decide) (by decide) rfl rfl (Nat.le_of_ble_eq_true rfl) (q0 := 0) rfl rfl rfl (L := [jW Z c sk, soW Z a N (ins N) (mvF N) (N 3), gW Z a (N 4) (N 5) (bkL N), pW Z a (N 6) (pkF N 0) (pkF N 1) (pkF N 2) (pkF N 3) (pkF N 4) (pkF N 5) (pkF N 6) (pkF N 7) (pkF N 8) (pkF N 9), rW Z b ef op ln nm qu qd]) (Lr := [jW Z c sk, gW Z a (N 4) (N 5) (bkL N), rW Z b ef op ln nm qu qd]) [1, 3, 0, 2, 4] [2, 0, 3, 1, 4] rfl rfl (fun _ => rfl) (fun ρ _ hρ => ?_)
          subst hρ
          refine z_eq (ws' := zf [jW Z c sk, soW Z a N (ins N) (mvF N) (N 3), gW Z a (N 4) (N 5) (bkL N), pW Z a (N 6) (pkF N 0) (pkF N 1) (pkF N 2) (pkF N 3) (pkF N 4) (pkF N 5) (pkF N 6) (pkF N 7) (pkF N 8) (pkF N 9), rW Z b ef op ln nm qu qd]) rfl ?_
          refine z_ifb_ne (tgt := 60) ok dX1_canGoOn_44 (by decide) (fun c44 => ?_) (fun c44 => ?_)
          · -- t
            refine z_iconst ok dX1_canGoOn_60 ?_
            exact fin 1 () 61 _ _ _ dX1_canGoOn_61 (by first | decide | exact zb_01 _ | omega) ((zb_t ⟨sd, by omega, by omega, c17, by first | exact Or.inl (by unfold rmP; rw [hob] at c44; exact c44) | exact Or.inr (by rw [hob] at c57; exact c57)⟩).symm) (by decide) (by decide)
          · -- f
            refine z_aload_n ok dX1_canGoOn_47 rfl ?_
            refine z_aload_n ok dX1_canGoOn_48 rfl ?_
            refine z_get (v := .ref (a 3)) ok zc5 2 rfl 2 (by decide) qf_RX1_19 rfl rfl dX1_canGoOn_49 ?_
            refine z_iload ok dX1_canGoOn_52 rfl ?_
            refine z_callVif ok (fun l => c_X1_hasFreePacket  (hw) (by omega) (by omega)) zm_X1_hasFreePacket zv_X1_hasFreePacket qm_RX1_60 dX1_canGoOn_54 (by decide) (by decide) rfl rfl (Nat.le_of_ble_eq_true rfl) (q0 := 0) rfl rfl rfl (L := [jW Z c sk, soW Z a N (ins N) (mvF N) (N 3), gW Z a (N 4) (N 5) (bkL N), pW Z a (N 6) (pkF N 0) (pkF N 1) (pkF N 2) (pkF N 3) (pkF N 4) (pkF N 5) (pkF N 6) (pkF N 7) (pkF N 8) (pkF N 9), rW Z b ef op ln nm qu qd]) (Lr := [soW Z a N (ins N) (mvF N) (N 3), gW Z a (N 4) (N 5) (bkL N), rW Z b ef op ln nm qu qd]) [0, 3, 1, 2, 4] [0, 2, 3, 1, 4] rfl rfl (fun _ => rfl) (fun ρ _ hρ => ?_)
            subst hρ
            refine z_eq (ws' := zf [jW Z c sk, soW Z a N (ins N) (mvF N) (N 3), gW Z a (N 4) (N 5) (bkL N), pW Z a (N 6) (pkF N 0) (pkF N 1) (pkF N 2) (pkF N 3) (pkF N 4) (pkF N 5) (pkF N 6) (pkF N 7) (pkF N 8) (pkF N 9), rW Z b ef op ln nm qu qd]) rfl ?_
            refine z_ifb_eq (tgt := 62) ok dX1_canGoOn_57 (by decide) (fun c57 => ?_) (fun c57 => ?_)
            · -- t
              refine z_iinc (lv' := [(4, .int (iI (sd + 1))), (5, .int (iI (op ((pk N p 3) * 4 + sd)))), (0, .ref (c 0)), (1, .ref (a 0)), (2, .ref (b 0)), (3, .int (iI p))]) ok dX1_canGoOn_62 5 rfl (by decide) rfl ?_
              refine z_goto (tgt := 3) ok dX1_canGoOn_65 (by decide) ?_
              refine z_lsub ok (lv' := [(0, .ref (c 0)), (1, .ref (a 0)), (2, .ref (b 0)), (3, .int (iI p)), (4, .int (iI (sd + 1)))]) [2, 3, 4, 5, 0] rfl ?_
              exact ih3 _ (by omega) (by omega) (zall h3_2 (fun z => by first | exact c17 z.1 | (rcases z.2 with y | y; (exact c44 (by unfold rmP at y; rw [hob]; exact y)); (exact c57 (by rw [hob]; exact y))))) (by omega)
            · -- f
              refine z_iconst ok dX1_canGoOn_60 ?_
              exact fin 1 () 61 _ _ _ dX1_canGoOn_61 (by first | decide | exact zb_01 _ | omega) ((zb_t ⟨sd, by omega, by omega, c17, by first | exact Or.inl (by unfold rmP; rw [hob] at c44; exact c44) | exact Or.inr (by rw [hob] at c57; exact c57)⟩).symm) (by decide) (by decide)
  refine z_lsub ok (lv' := [(0, .ref (c 0)), (1, .ref (a 0)), (2, .ref (b 0)), (3, .int (iI p)), (4, .int (iI 0))]) [1, 2, 3, 4, 0] rfl ?_
  exact L3 _ _ (by omega) (by omega) (fun x h0 h1 => absurd h1 (by omega)) (Nat.lt_succ_self _)
set_option maxHeartbeats 4000000 in
set_option maxRecDepth 20000 in
theorem c_X1_find {l : Launch} {Z : zZ} {a : Nat → Nat} {N : Int → Int} {b : Nat → Nat} {ef : Int} {op ln nm qu : Int → Int} {qd : Int} {c : Nat → Nat} {sk : Int → Int} (hw : wf N) (hok : rOK N ef op ln) (h01 : ∀ x : Int, 0 ≤ x → x < 40 → sk x = 0 ∨ sk x = 1) : zN (T := (Int → Int)) l yX1_find (Cond.code yX1_find cX1_find 7 none :: wsL_law) ({ frames := 5, cells := 0, slots := 0, locals := 118 } : Room) Z [.ref (c 0), .ref (a 0), .ref (b 0)] (zf [jW Z c sk, soW Z a N (ins N) (mvF N) (N 3), gW Z a (N 4) (N 5) (bkL N), pW Z a (N 6) (pkF N 0) (pkF N 1) (pkF N 2) (pkF N 3) (pkF N 4) (pkF N 5) (pkF N 6) (pkF N 7) (pkF N 8) (pkF N 9), rW Z b ef op ln nm qu qd]) (fun u => zf [jW Z c u, soW Z a N (ins N) (mvF N) (N 3), gW Z a (N 4) (N 5) (bkL N), pW Z a (N 6) (pkF N 0) (pkF N 1) (pkF N 2) (pkF N 3) (pkF N 4) (pkF N 5) (pkF N 6) (pkF N 7) (pkF N 8) (pkF N 9), rW Z b ef op ln nm qu qd]) (fun u => (∀ x : Int, 0 ≤ x → x < 40 → u x = 0 ∨ u x = 1) ∧ ∀ x : Int, 0 ≤ x → x < N 6 → u x = zb (stk N x)) := by
  refine zN_of (C := RX1) (by decide +kernel) rfl (Nat.le_of_ble_eq_true rfl) (fun X ok fin => ?_)
  obtain ⟨w0, w1, w2, hc, hr, w6, wl, wp⟩ := id hw
  have hcr := cr_rng hc hr
  refine z_lsub ok (lv' := [(0, .ref (c 0)), (1, .ref (a 0)), (2, .ref (b 0))]) [0, 1, 2] rfl ?_
  refine z_aload_n ok dX1_find_0 rfl ?_
  refine z_get (v := .ref (a 3)) ok zc5 2 rfl 2 (by decide) qf_RX1_19 rfl rfl dX1_find_1 ?_
  refine z_get (v := .int (iI (N 6))) ok zc2 7 rfl 0 (by decide) qf_RX1_31 rfl rfl dX1_find_4 ?_
  refine z_istore_n (lv' := [(3, .int (iI (N 6))), (0, .ref (c 0)), (1, .ref (a 0)), (2, .ref (b 0))]) ok dX1_find_7 (by decide) rfl ?_
  refine z_iconst ok dX1_find_8 ?_
  refine z_istore (lv' := [(4, .int (iI 0)), (3, .int (iI (N 6))), (0, .ref (c 0)), (1, .ref (a 0)), (2, .ref (b 0))]) ok dX1_find_9 (by decide) rfl ?_
  have L11 : ∀ (fuel : Nat) (i : Int) (k1 : Int → Int), (0 ≤ i) → (i ≤ N 6) → (∀ j : Int, 0 ≤ j → j < i → k1 j = zb (pk N j 2 = 1)) → (∀ x : Int, 0 ≤ x → x < 40 → k1 x = 0 ∨ k1 x = 1) → (N 6 - i).toNat < fuel → zV X 0 0 (zf [jW Z c k1, soW Z a N (ins N) (mvF N) (N 3), gW Z a (N 4) (N 5) (bkL N), pW Z a (N 6) (pkF N 0) (pkF N 1) (pkF N 2) (pkF N 3) (pkF N 4) (pkF N 5) (pkF N 6) (pkF N 7) (pkF N 8) (pkF N 9), rW Z b ef op ln nm qu qd]) 11 [(0, .ref (c 0)), (1, .ref (a 0)), (2, .ref (b 0)), (3, .int (iI (N 6))), (4, .int (iI i))] [] := by
    intro fuel
    induction fuel with
    | zero => intro i k1 h11_0 h11_1 h11_2 h11_3 hf; exact absurd hf (Nat.not_lt_zero _)
    | succ fuel ih11 =>
      intro i k1 h11_0 h11_1 h11_2 h11_3 hf
      refine z_iload ok dX1_find_11 rfl ?_
      refine z_iload_n ok dX1_find_13 rfl ?_
      refine z_icmp_ge (tgt := 49) ok dX1_find_14 (by decide) (by omega) (by omega) (fun c14 => ?_) (fun c14 => ?_)
      · -- t
        refine z_iconst ok dX1_find_49 ?_
        refine z_istore (lv' := [(4, .int (iI 1)), (0, .ref (c 0)), (1, .ref (a 0)), (2, .ref (b 0)), (3, .int (iI (N 6)))]) ok dX1_find_50 (by decide) rfl ?_
        refine z_iconst ok dX1_find_52 ?_
        refine z_istore (lv' := [(5, .int (iI 0)), (4, .int (iI 1)), (0, .ref (c 0)), (1, .ref (a 0)), (2, .ref (b 0)), (3, .int (iI (N 6)))]) ok dX1_find_53 (by decide) rfl ?_
        have L55 : ∀ (fuel : Nat) (mo rd : Int) (k1 : Int → Int), (mo = 0 ∨ mo = 1) → (0 ≤ rd) → (rd ≤ 41) → (∀ x : Int, 0 ≤ x → x < 40 → k1 x = 0 ∨ k1 x = 1) → (∀ x : Int, 0 ≤ x → x < N 6 → k1 x = 1 → pk N x 2 = 1) → (∀ x : Int, stk N x → k1 x = 1) → (mo = 0 → closed N (stS N k1)) → (mo = 1 → zS k1 (N 6).toNat + rd ≤ N 6) → (42 - rd).toNat < fuel → zV X 0 0 (zf [jW Z c k1, soW Z a N (ins N) (mvF N) (N 3), gW Z a (N 4) (N 5) (bkL N), pW Z a (N 6) (pkF N 0) (pkF N 1) (pkF N 2) (pkF N 3) (pkF N 4) (pkF N 5) (pkF N 6) (pkF N 7) (pkF N 8) (pkF N 9), rW Z b ef op ln nm qu qd]) 55 [(0, .ref (c 0)), (1, .ref (a 0)), (2, .ref (b 0)), (3, .int (iI (N 6))), (4, .int (iI mo)), (5, .int (iI rd))] [] := by
          intro fuel
          induction fuel with
          | zero => intro mo rd k1 h55_0 h55_1 h55_2 h55_3 h55_4 h55_5 h55_6 h55_7 hf; exact absurd hf (Nat.not_lt_zero _)
          | succ fuel ih55 =>
            intro mo rd k1 h55_0 h55_1 h55_2 h55_3 h55_4 h55_5 h55_6 h55_7 hf
            refine z_iload ok dX1_find_55 rfl ?_
            refine z_bipush ok dX1_find_57 (by decide) ?_
            refine z_icmp_gt (tgt := 123) ok dX1_find_59 (by decide) (by omega) (by omega) (fun c59 => ?_) (fun c59 => ?_)
            · -- t
              have hq3 := zS_nn (f := k1) (n := (N 6).toNat) (fun x h0 h1 => by have := h55_3 x h0 (by omega); omega)
              have hmo : mo = 0 := by rcases h55_0 with z | z; exact z; have := h55_7 z; omega
              have hcl := h55_6 hmo
              exact fin k1 123 _ _ _ dX1_find_123 (⟨h55_3, fun x h0 h1 => (h55_3 x h0 (by omega)).elim (fun z => by rw [z]; exact (zb_f (fun y => by have := h55_5 x y; omega)).symm) (fun z => by rw [z]; exact (zb_t ⟨_, hcl, ⟨h0, h1, z⟩⟩).symm)⟩) (by decide) (by decide)
            · -- f
              refine z_iload ok dX1_find_62 rfl ?_
              refine z_if_eq (tgt := 123) ok dX1_find_64 (by decide) (by omega) (fun c64 => ?_) (fun c64 => ?_)
              · -- t
                have hmo : mo = 0 := c64
                have hcl := h55_6 hmo
                exact fin k1 123 _ _ _ dX1_find_123 (⟨h55_3, fun x h0 h1 => (h55_3 x h0 (by omega)).elim (fun z => by rw [z]; exact (zb_f (fun y => by have := h55_5 x y; omega)).symm) (fun z => by rw [z]; exact (zb_t ⟨_, hcl, ⟨h0, h1, z⟩⟩).symm)⟩) (by decide) (by decide)
              · -- f
                refine z_iconst ok dX1_find_67 ?_
                refine z_istore (lv' := [(4, .int (iI 0)), (0, .ref (c 0)), (1, .ref (a 0)), (2, .ref (b 0)), (3, .int (iI (N 6))), (5, .int (iI rd))]) ok dX1_find_68 (by decide) rfl ?_
                refine z_iconst ok dX1_find_70 ?_
                refine z_istore (lv' := [(6, .int (iI 0)), (4, .int (iI 0)), (0, .ref (c 0)), (1, .ref (a 0)), (2, .ref (b 0)), (3, .int (iI (N 6))), (5, .int (iI rd))]) ok dX1_find_71 (by decide) rfl ?_
                have L73 : ∀ (fuel : Nat) (i mo2 : Int) (k2 : Int → Int), (0 ≤ i) → (i ≤ N 6) → (mo2 = 0 ∨ mo2 = 1) → (∀ x : Int, 0 ≤ x → x < 40 → k2 x = 0 ∨ k2 x = 1) → (∀ x : Int, 0 ≤ x → x < N 6 → k2 x = 1 → pk N x 2 = 1) → (∀ x : Int, stk N x → k2 x = 1) → (mo2 = 0 → k2 = k1 ∧ ∀ x : Int, 0 ≤ x → x < i → k1 x = 1 → ¬ free N (stS N k1) x) → (mo2 = 1 → zS k2 (N 6).toNat + 1 ≤ zS k1 (N 6).toNat) → (N 6 - i).toNat < fuel → zV X 0 0 (zf [jW Z c k2, soW Z a N (ins N) (mvF N) (N 3), gW Z a (N 4) (N 5) (bkL N), pW Z a (N 6) (pkF N 0) (pkF N 1) (pkF N 2) (pkF N 3) (pkF N 4) (pkF N 5) (pkF N 6) (pkF N 7) (pkF N 8) (pkF N 9), rW Z b ef op ln nm qu qd]) 73 [(0, .ref (c 0)), (1, .ref (a 0)), (2, .ref (b 0)), (3, .int (iI (N 6))), (4, .int (iI mo2)), (5, .int (iI rd)), (6, .int (iI i))] [] := by
                  intro fuel
                  induction fuel with
                  | zero => intro i mo2 k2 h73_0 h73_1 h73_2 h73_3 h73_4 h73_5 h73_6 h73_7 hf; exact absurd hf (Nat.not_lt_zero _)
                  | succ fuel ih73 =>
                    intro i mo2 k2 h73_0 h73_1 h73_2 h73_3 h73_4 h73_5 h73_6 h73_7 hf
                    refine z_iload ok dX1_find_73 rfl ?_
                    refine z_iload_n ok dX1_find_75 rfl ?_
                    refine z_icmp_ge (tgt := 117) ok dX1_find_76 (by decide) (by omega) (by omega) (fun c76 => ?_) (fun c76 => ?_)
                    · -- t
                      refine z_iinc (lv' := [(5, .int (iI (rd + 1))), (0, .ref (c 0)), (1, .ref (a 0)), (2, .ref (b 0)), (3, .int (iI (N 6))), (4, .int (iI mo2)), (6, .int (iI i))]) ok dX1_find_117 5 rfl (by decide) rfl ?_
                      refine z_goto (tgt := 55) ok dX1_find_120 (by decide) ?_
                      refine z_lsub ok (lv' := [(0, .ref (c 0)), (1, .ref (a 0)), (2, .ref (b 0)), (3, .int (iI (N 6))), (4, .int (iI mo2)), (5, .int (iI (rd + 1)))]) [1, 2, 3, 4, 5, 0] rfl ?_
                      exact ih55 _ _ _ (h73_2) (by omega) (by omega) (h73_3) (h73_4) (h73_5) (fun h => by obtain ⟨e1, e2⟩ := h73_6 h; subst e1; exact fun p hp => ⟨hp.1, hp.2.1, h73_4 p hp.1 hp.2.1 hp.2.2, e2 p hp.1 (Int.lt_of_lt_of_le hp.2.1 c76) hp.2.2⟩) (fun h => by have := h73_7 h; have := h55_7 (by omega); omega) (by omega)
                    · -- f
                      have h3i := h73_3 i (by omega) (by omega)
                      refine z_aload_n ok dX1_find_79 rfl ?_
                      refine z_get (v := .ref (c 1)) ok zc1 0 rfl 0 (by decide) qf_RX1_9 rfl rfl dX1_find_80 ?_
                      refine z_iload ok dX1_find_83 rfl ?_
                      refine z_zald (f := k2) ok 1 rfl dX1_find_85 (by omega) (by decide) ?_
                      refine z_if_eq (tgt := 111) ok dX1_find_86 (by decide) (by omega) (fun c86 => ?_) (fun c86 => ?_)
                      · -- t
                        refine z_iinc (lv' := [(6, .int (iI (i + 1))), (0, .ref (c 0)), (1, .ref (a 0)), (2, .ref (b 0)), (3, .int (iI (N 6))), (4, .int (iI mo2)), (5, .int (iI rd))]) ok dX1_find_111 6 rfl (by decide) rfl ?_
                        refine z_goto (tgt := 73) ok dX1_find_114 (by decide) ?_
                        refine z_lsub ok (lv' := [(0, .ref (c 0)), (1, .ref (a 0)), (2, .ref (b 0)), (3, .int (iI (N 6))), (4, .int (iI mo2)), (5, .int (iI rd)), (6, .int (iI (i + 1)))]) [1, 2, 3, 4, 5, 6, 0] rfl ?_
                        exact ih73 _ _ _ (by omega) (by omega) (by omega) (by first | exact h73_3 | exact zu01 h73_3) (by first | exact h73_4 | exact fun x h0 h1 e => h73_4 x h0 h1 (zu0_1 e)) (by first | exact h73_5 | exact fun x hx => by have hne : x ≠ i := fun e => stk_free h73_5 c97 (by rw [← e]; exact hx); rw [zu_n hne]; exact h73_5 x hx) (by first | exact fun h => absurd h (by decide) | (intro h; obtain ⟨e1, e2⟩ := h73_6 h; subst e1; exact ⟨rfl, zall e2 (fun e => by first | exact c97 | (exfalso; omega))⟩)) (by first | exact h73_7 | exact fun _ => by omega) (by omega)
                      · -- f
                        refine z_aload_n ok dX1_find_89 rfl ?_
                        refine z_aload_n ok dX1_find_90 rfl ?_
                        refine z_aload_n ok dX1_find_91 rfl ?_
                        refine z_iload ok dX1_find_92 rfl ?_
                        refine z_callVi0 ok (fun l => c_X1_canGoOn  (hw) (hok) (⟨by omega, by omega⟩) (h73_3)) zm_X1_canGoOn zv_X1_canGoOn qm_RX1_39 dX1_find_94 (by decide) (by decide) rfl rfl (Nat.le_of_ble_eq_true rfl) (q0 := 0) rfl rfl rfl (fun ρ _ hρ => ?_)
                        subst hρ
                        refine z_eq (ws' := zf [jW Z c k2, soW Z a N (ins N) (mvF N) (N 3), gW Z a (N 4) (N 5) (bkL N), pW Z a (N 6) (pkF N 0) (pkF N 1) (pkF N 2) (pkF N 3) (pkF N 4) (pkF N 5) (pkF N 6) (pkF N 7) (pkF N 8) (pkF N 9), rW Z b ef op ln nm qu qd]) rfl ?_
                        refine z_ifb_eq (tgt := 111) ok dX1_find_97 (by decide) (fun c97 => ?_) (fun c97 => ?_)
                        · -- t
                          refine z_iinc (lv' := [(6, .int (iI (i + 1))), (0, .ref (c 0)), (1, .ref (a 0)), (2, .ref (b 0)), (3, .int (iI (N 6))), (4, .int (iI mo2)), (5, .int (iI rd))]) ok dX1_find_111 6 rfl (by decide) rfl ?_
                          refine z_goto (tgt := 73) ok dX1_find_114 (by decide) ?_
                          refine z_lsub ok (lv' := [(0, .ref (c 0)), (1, .ref (a 0)), (2, .ref (b 0)), (3, .int (iI (N 6))), (4, .int (iI mo2)), (5, .int (iI rd)), (6, .int (iI (i + 1)))]) [1, 2, 3, 4, 5, 6, 0] rfl ?_
                          exact ih73 _ _ _ (by omega) (by omega) (by omega) (by first | exact h73_3 | exact zu01 h73_3) (by first | exact h73_4 | exact fun x h0 h1 e => h73_4 x h0 h1 (zu0_1 e)) (by first | exact h73_5 | exact fun x hx => by have hne : x ≠ i := fun e => stk_free h73_5 c97 (by rw [← e]; exact hx); rw [zu_n hne]; exact h73_5 x hx) (by first | exact fun h => absurd h (by decide) | (intro h; obtain ⟨e1, e2⟩ := h73_6 h; subst e1; exact ⟨rfl, zall e2 (fun e => by first | exact c97 | (exfalso; omega))⟩)) (by first | exact h73_7 | exact fun _ => by omega) (by omega)
                        · -- f
                          have hkey : zS k2 (N 6).toNat ≤ zS k1 (N 6).toNat := h73_2.elim (fun z => by rw [(h73_6 z).1]; exact Int.le_refl _) (fun z => by have := h73_7 z; omega)
                          have hz := zS_zu (f := k2) (i := i) (v := 0) (n := (N 6).toNat) (by omega) (by omega)
                          refine z_aload_n ok dX1_find_100 rfl ?_
                          refine z_get (v := .ref (c 1)) ok zc1 0 rfl 0 (by decide) qf_RX1_9 rfl rfl dX1_find_101 ?_
                          refine z_iload ok dX1_find_104 rfl ?_
                          refine z_iconst ok dX1_find_106 ?_
                          refine z_zast (f := k2) (v := 0) (ws' := zf [jW Z c (zu k2 i 0), soW Z a N (ins N) (mvF N) (N 3), gW Z a (N 4) (N 5) (bkL N), pW Z a (N 6) (pkF N 0) (pkF N 1) (pkF N 2) (pkF N 3) (pkF N 4) (pkF N 5) (pkF N 6) (pkF N 7) (pkF N 8) (pkF N 9), rW Z b ef op ln nm qu qd]) ok 1 rfl dX1_find_107 (by omega) (by decide) (by first | decide | exact zb_01 _ | omega) rfl ?_
                          refine z_iconst ok dX1_find_108 ?_
                          refine z_istore (lv' := [(4, .int (iI 1)), (0, .ref (c 0)), (1, .ref (a 0)), (2, .ref (b 0)), (3, .int (iI (N 6))), (5, .int (iI rd)), (6, .int (iI i))]) ok dX1_find_109 (by decide) rfl ?_
                          refine z_iinc (lv' := [(6, .int (iI (i + 1))), (4, .int (iI 1)), (0, .ref (c 0)), (1, .ref (a 0)), (2, .ref (b 0)), (3, .int (iI (N 6))), (5, .int (iI rd))]) ok dX1_find_111 6 rfl (by decide) rfl ?_
                          refine z_goto (tgt := 73) ok dX1_find_114 (by decide) ?_
                          refine z_lsub ok (lv' := [(0, .ref (c 0)), (1, .ref (a 0)), (2, .ref (b 0)), (3, .int (iI (N 6))), (4, .int (iI 1)), (5, .int (iI rd)), (6, .int (iI (i + 1)))]) [2, 3, 4, 5, 1, 6, 0] rfl ?_
                          exact ih73 _ _ _ (by omega) (by omega) (by omega) (by first | exact h73_3 | exact zu01 h73_3) (by first | exact h73_4 | exact fun x h0 h1 e => h73_4 x h0 h1 (zu0_1 e)) (by first | exact h73_5 | exact fun x hx => by have hne : x ≠ i := fun e => stk_free h73_5 c97 (by rw [← e]; exact hx); rw [zu_n hne]; exact h73_5 x hx) (by first | exact fun h => absurd h (by decide) | (intro h; obtain ⟨e1, e2⟩ := h73_6 h; subst e1; exact ⟨rfl, zall e2 (fun e => by first | exact c97 | (exfalso; omega))⟩)) (by first | exact h73_7 | exact fun _ => by omega) (by omega)
                refine z_lsub ok (lv' := [(0, .ref (c 0)), (1, .ref (a 0)), (2, .ref (b 0)), (3, .int (iI (N 6))), (4, .int (iI 0)), (5, .int (iI rd)), (6, .int (iI 0))]) [2, 3, 4, 5, 1, 6, 0] rfl ?_
                exact L73 _ _ _ _ (by omega) (by omega) (by omega) (h55_3) (h55_4) (h55_5) (fun _ => ⟨rfl, fun x h0 h1 => absurd h1 (by omega)⟩) (fun h => absurd h (by decide)) (Nat.lt_succ_self _)
        refine z_lsub ok (lv' := [(0, .ref (c 0)), (1, .ref (a 0)), (2, .ref (b 0)), (3, .int (iI (N 6))), (4, .int (iI 1)), (5, .int (iI 0))]) [2, 3, 4, 5, 1, 0] rfl ?_
        have hi : i = N 6 := by omega
        have hz0 := zS_le (f := k1) (c := 1) (n := (N 6).toNat) (fun x h0 h1 => by have := h11_3 x h0 (by omega); omega)
        exact L55 _ _ _ _ (by omega) (by omega) (by omega) (h11_3) (fun x h0 h1 e => zb_eq1.mp ((h11_2 x h0 (by omega)).symm.trans e)) (fun x hx => by have hr := stk_rng hx; rw [h11_2 x hr.1 (by omega)]; exact zb_t hr.2.2) (fun h => absurd h (by decide)) (fun _ => by omega) (Nat.lt_succ_self _)
      · -- f
        have wpi := wp i (by omega) (by omega)
        refine z_aload_n ok dX1_find_17 rfl ?_
        refine z_get (v := .ref (c 1)) ok zc1 0 rfl 0 (by decide) qf_RX1_9 rfl rfl dX1_find_18 ?_
        refine z_iload ok dX1_find_21 rfl ?_
        refine z_aload_n ok dX1_find_23 rfl ?_
        refine z_get (v := .ref (a 3)) ok zc5 2 rfl 2 (by decide) qf_RX1_19 rfl rfl dX1_find_24 ?_
        refine z_get (v := .ref (a 6)) ok zc2 7 rfl 3 (by decide) qf_RX1_35 rfl rfl dX1_find_27 ?_
        refine z_iload ok dX1_find_30 rfl ?_
        refine z_iale (f := pkF N 2) (v := pk N i 2) ok 10 rfl rfl dX1_find_32 (by omega) (by decide) ?_
        refine z_iconst ok dX1_find_33 ?_
        refine z_icmp_ne (tgt := 41) ok dX1_find_34 (by decide) (by omega) (by omega) (fun c34 => ?_) (fun c34 => ?_)
        · -- t
          refine z_iconst ok dX1_find_41 ?_
          refine z_zast (f := k1) (v := 0) (ws' := zf [jW Z c (zu k1 i 0), soW Z a N (ins N) (mvF N) (N 3), gW Z a (N 4) (N 5) (bkL N), pW Z a (N 6) (pkF N 0) (pkF N 1) (pkF N 2) (pkF N 3) (pkF N 4) (pkF N 5) (pkF N 6) (pkF N 7) (pkF N 8) (pkF N 9), rW Z b ef op ln nm qu qd]) ok 1 rfl dX1_find_42 (by omega) (by decide) (by first | decide | exact zb_01 _ | omega) rfl ?_
          refine z_iinc (lv' := [(4, .int (iI (i + 1))), (0, .ref (c 0)), (1, .ref (a 0)), (2, .ref (b 0)), (3, .int (iI (N 6)))]) ok dX1_find_43 4 rfl (by decide) rfl ?_
          refine z_goto (tgt := 11) ok dX1_find_46 (by decide) ?_
          refine z_lsub ok (lv' := [(0, .ref (c 0)), (1, .ref (a 0)), (2, .ref (b 0)), (3, .int (iI (N 6))), (4, .int (iI (i + 1)))]) [1, 2, 3, 4, 0] rfl ?_
          exact ih11 _ _ (by omega) (by omega) (zall_zu h11_2 (by first | exact (zb_t (by omega)).symm | exact (zb_f (by omega)).symm)) (fun x h0 h1 => by unfold zu; split; (first | exact Or.inl rfl | exact Or.inr rfl); exact h11_3 x h0 h1) (by omega)
        · -- f
          refine z_iconst ok dX1_find_37 ?_
          refine z_goto (tgt := 42) ok dX1_find_38 (by decide) ?_
          refine z_zast (f := k1) (v := 1) (ws' := zf [jW Z c (zu k1 i 1), soW Z a N (ins N) (mvF N) (N 3), gW Z a (N 4) (N 5) (bkL N), pW Z a (N 6) (pkF N 0) (pkF N 1) (pkF N 2) (pkF N 3) (pkF N 4) (pkF N 5) (pkF N 6) (pkF N 7) (pkF N 8) (pkF N 9), rW Z b ef op ln nm qu qd]) ok 1 rfl dX1_find_42 (by omega) (by decide) (by first | decide | exact zb_01 _ | omega) rfl ?_
          refine z_iinc (lv' := [(4, .int (iI (i + 1))), (0, .ref (c 0)), (1, .ref (a 0)), (2, .ref (b 0)), (3, .int (iI (N 6)))]) ok dX1_find_43 4 rfl (by decide) rfl ?_
          refine z_goto (tgt := 11) ok dX1_find_46 (by decide) ?_
          refine z_lsub ok (lv' := [(0, .ref (c 0)), (1, .ref (a 0)), (2, .ref (b 0)), (3, .int (iI (N 6))), (4, .int (iI (i + 1)))]) [1, 2, 3, 4, 0] rfl ?_
          exact ih11 _ _ (by omega) (by omega) (zall_zu h11_2 (by first | exact (zb_t (by omega)).symm | exact (zb_f (by omega)).symm)) (fun x h0 h1 => by unfold zu; split; (first | exact Or.inl rfl | exact Or.inr rfl); exact h11_3 x h0 h1) (by omega)
  refine z_lsub ok (lv' := [(0, .ref (c 0)), (1, .ref (a 0)), (2, .ref (b 0)), (3, .int (iI (N 6))), (4, .int (iI 0))]) [2, 3, 4, 1, 0] rfl ?_
  exact L11 _ _ _ (by omega) (by omega) (fun j h0 h1 => absurd h1 (by omega)) (h01) (Nat.lt_succ_self _)
set_option maxRecDepth 20000 in
theorem c_X1_size {l : Launch} {Z : zZ} {a : Nat → Nat} {N : Int → Int} {b : Nat → Nat} {ef : Int} {op ln nm qu : Int → Int} {qd : Int} {c : Nat → Nat} {sk : Int → Int} (hw : wf N) (hok : rOK N ef op ln) (h01 : ∀ x : Int, 0 ≤ x → x < 40 → sk x = 0 ∨ sk x = 1) : zI (T := (Int → Int)) l yX1_size (Cond.code yX1_size cX1_size 5 (some .int) :: wsL_law) ({ frames := 6, cells := 0, slots := 0, locals := 144 } : Room) Z [.ref (c 0), .ref (a 0), .ref (b 0)] (zf [jW Z c sk, soW Z a N (ins N) (mvF N) (N 3), gW Z a (N 4) (N 5) (bkL N), pW Z a (N 6) (pkF N 0) (pkF N 1) (pkF N 2) (pkF N 3) (pkF N 4) (pkF N 5) (pkF N 6) (pkF N 7) (pkF N 8) (pkF N 9), rW Z b ef op ln nm qu qd]) (fun u => zf [jW Z c u, soW Z a N (ins N) (mvF N) (N 3), gW Z a (N 4) (N 5) (bkL N), pW Z a (N 6) (pkF N 0) (pkF N 1) (pkF N 2) (pkF N 3) (pkF N 4) (pkF N 5) (pkF N 6) (pkF N 7) (pkF N 8) (pkF N 9), rW Z b ef op ln nm qu qd]) (fun ρ u => ρ = stkC N ∧ ∀ x : Int, 0 ≤ x → x < 40 → u x = 0 ∨ u x = 1) := by
  refine zI_of (C := RX1) (by decide +kernel) rfl (Nat.le_of_ble_eq_true rfl) (fun _ => True) znI (fun X ok fin => ?_)
  obtain ⟨w0, w1, w2, hc, hr, w6, wl, wp⟩ := id hw
  have hcr := cr_rng hc hr
  refine z_lsub ok (lv' := [(0, .ref (c 0)), (1, .ref (a 0)), (2, .ref (b 0))]) [0, 1, 2] rfl ?_
  refine z_aload_n ok dX1_size_0 rfl ?_
  refine z_aload_n ok dX1_size_1 rfl ?_
  refine z_aload_n ok dX1_size_2 rfl ?_
  refine z_callVv0 ok (fun l => c_X1_find  (hw) (hok) (h01)) zm_X1_find zv_X1_find qm_RX1_15 dX1_size_3 (by decide) (by decide) rfl rfl (Nat.le_of_ble_eq_true rfl) (q0 := 0) rfl rfl rfl (fun u3 hp3 => ?_)
  obtain ⟨sk_3, rfl⟩ : ∃ z, z = u3 := ⟨_, rfl⟩
  try dsimp only at hp3
  refine z_eq (ws' := zf [jW Z c sk_3, soW Z a N (ins N) (mvF N) (N 3), gW Z a (N 4) (N 5) (bkL N), pW Z a (N 6) (pkF N 0) (pkF N 1) (pkF N 2) (pkF N 3) (pkF N 4) (pkF N 5) (pkF N 6) (pkF N 7) (pkF N 8) (pkF N 9), rW Z b ef op ln nm qu qd]) rfl ?_
  obtain ⟨h3a, h3b⟩ := hp3
  refine z_iconst ok dX1_size_6 ?_
  refine z_istore_n (lv' := [(3, .int (iI 0)), (0, .ref (c 0)), (1, .ref (a 0)), (2, .ref (b 0))]) ok dX1_size_7 (by decide) rfl ?_
  refine z_iconst ok dX1_size_8 ?_
  refine z_istore (lv' := [(4, .int (iI 0)), (3, .int (iI 0)), (0, .ref (c 0)), (1, .ref (a 0)), (2, .ref (b 0))]) ok dX1_size_9 (by decide) rfl ?_
  have L11 : ∀ (fuel : Nat) (i n : Int), (0 ≤ i) → (i ≤ N 6) → (n = zS (fun x => zb (stk N x)) i.toNat) → (N 6 - i).toNat < fuel → zV X 0 0 (zf [jW Z c sk_3, soW Z a N (ins N) (mvF N) (N 3), gW Z a (N 4) (N 5) (bkL N), pW Z a (N 6) (pkF N 0) (pkF N 1) (pkF N 2) (pkF N 3) (pkF N 4) (pkF N 5) (pkF N 6) (pkF N 7) (pkF N 8) (pkF N 9), rW Z b ef op ln nm qu qd]) 11 [(0, .ref (c 0)), (1, .ref (a 0)), (2, .ref (b 0)), (3, .int (iI n)), (4, .int (iI i))] [] := by
    intro fuel
    induction fuel with
    | zero => intro i n h11_0 h11_1 h11_2 hf; exact absurd hf (Nat.not_lt_zero _)
    | succ fuel ih11 =>
      intro i n h11_0 h11_1 h11_2 hf
      refine z_iload ok dX1_size_11 rfl ?_
      refine z_aload_n ok dX1_size_13 rfl ?_
      refine z_get (v := .ref (a 3)) ok zc5 2 rfl 2 (by decide) qf_RX1_19 rfl rfl dX1_size_14 ?_
      refine z_get (v := .int (iI (N 6))) ok zc2 7 rfl 0 (by decide) qf_RX1_31 rfl rfl dX1_size_17 ?_
      refine z_icmp_ge (tgt := 42) ok dX1_size_20 (by decide) (by omega) (by omega) (fun c20 => ?_) (fun c20 => ?_)
      · -- t
        refine z_iload_n ok dX1_size_42 rfl ?_
        exact fin n sk_3 43 _ _ _ dX1_size_43 (trivial) (⟨by rw [h11_2, show i = N 6 by omega]; rfl, h3a⟩) (by decide) (by decide)
      · -- f
        have h3i := h3a i (by omega) (by omega)
        refine z_aload_n ok dX1_size_23 rfl ?_
        refine z_get (v := .ref (c 1)) ok zc1 0 rfl 0 (by decide) qf_RX1_9 rfl rfl dX1_size_24 ?_
        refine z_iload ok dX1_size_27 rfl ?_
        refine z_zald (f := sk_3) ok 1 rfl dX1_size_29 (by omega) (by decide) ?_
        refine z_if_eq (tgt := 36) ok dX1_size_30 (by decide) (by omega) (fun c30 => ?_) (fun c30 => ?_)
        · -- t
          refine z_iinc (lv' := [(4, .int (iI (i + 1))), (0, .ref (c 0)), (1, .ref (a 0)), (2, .ref (b 0)), (3, .int (iI n))]) ok dX1_size_36 4 rfl (by decide) rfl ?_
          refine z_goto (tgt := 11) ok dX1_size_39 (by decide) ?_
          refine z_lsub ok (lv' := [(0, .ref (c 0)), (1, .ref (a 0)), (2, .ref (b 0)), (3, .int (iI n)), (4, .int (iI (i + 1)))]) [1, 2, 3, 4, 0] rfl ?_
          exact ih11 _ _ (by omega) (by omega) (by rw [zS_s (by omega), h11_2, ← h3b i (by omega) (by omega)]; omega) (by omega)
        · -- f
          refine z_iinc (lv' := [(3, .int (iI (n + 1))), (0, .ref (c 0)), (1, .ref (a 0)), (2, .ref (b 0)), (4, .int (iI i))]) ok dX1_size_33 3 rfl (by decide) rfl ?_
          refine z_iinc (lv' := [(4, .int (iI (i + 1))), (3, .int (iI (n + 1))), (0, .ref (c 0)), (1, .ref (a 0)), (2, .ref (b 0))]) ok dX1_size_36 4 rfl (by decide) rfl ?_
          refine z_goto (tgt := 11) ok dX1_size_39 (by decide) ?_
          refine z_lsub ok (lv' := [(0, .ref (c 0)), (1, .ref (a 0)), (2, .ref (b 0)), (3, .int (iI (n + 1))), (4, .int (iI (i + 1)))]) [2, 3, 4, 1, 0] rfl ?_
          exact ih11 _ _ (by omega) (by omega) (by rw [zS_s (by omega), h11_2, ← h3b i (by omega) (by omega)]; omega) (by omega)
  refine z_lsub ok (lv' := [(0, .ref (c 0)), (1, .ref (a 0)), (2, .ref (b 0)), (3, .int (iI 0)), (4, .int (iI 0))]) [2, 3, 4, 1, 0] rfl ?_
  exact L11 _ _ _ (by omega) (by omega) (rfl) (Nat.lt_succ_self _)
set_option maxRecDepth 20000 in
theorem c_X1_holds {l : Launch} {Z : zZ} {a : Nat → Nat} {N : Int → Int} {b : Nat → Nat} {ef : Int} {op ln nm qu : Int → Int} {qd : Int} {c : Nat → Nat} {sk : Int → Int} {p : Int} (hw : wf N) (hok : rOK N ef op ln) (h01 : ∀ x : Int, 0 ≤ x → x < 40 → sk x = 0 ∨ sk x = 1) (hp : -2147483648 ≤ p ∧ p < 2147483648) : zI (T := (Int → Int)) l yX1_holds (Cond.code yX1_holds cX1_holds 4 (some .boolean) :: wsL_law) ({ frames := 6, cells := 0, slots := 0, locals := 144 } : Room) Z [.ref (c 0), .ref (a 0), .ref (b 0), .int (iI p)] (zf [jW Z c sk, soW Z a N (ins N) (mvF N) (N 3), gW Z a (N 4) (N 5) (bkL N), pW Z a (N 6) (pkF N 0) (pkF N 1) (pkF N 2) (pkF N 3) (pkF N 4) (pkF N 5) (pkF N 6) (pkF N 7) (pkF N 8) (pkF N 9), rW Z b ef op ln nm qu qd]) (fun u => zf [jW Z c u, soW Z a N (ins N) (mvF N) (N 3), gW Z a (N 4) (N 5) (bkL N), pW Z a (N 6) (pkF N 0) (pkF N 1) (pkF N 2) (pkF N 3) (pkF N 4) (pkF N 5) (pkF N 6) (pkF N 7) (pkF N 8) (pkF N 9), rW Z b ef op ln nm qu qd]) (fun ρ u => ρ = zb ((0 ≤ p ∧ p < N 6) ∧ stk N p) ∧ ∀ x : Int, 0 ≤ x → x < 40 → u x = 0 ∨ u x = 1) := by
  refine zI_of (C := RX1) (by decide +kernel) rfl (Nat.le_of_ble_eq_true rfl) (fun ρ => ρ = 0 ∨ ρ = 1) znZ (fun X ok fin => ?_)
  obtain ⟨w0, w1, w2, hc, hr, w6, wl, wp⟩ := id hw
  have hcr := cr_rng hc hr
  refine z_lsub ok (lv' := [(0, .ref (c 0)), (1, .ref (a 0)), (2, .ref (b 0)), (3, .int (iI p))]) [0, 1, 2, 3] rfl ?_
  refine z_aload_n ok dX1_holds_0 rfl ?_
  refine z_aload_n ok dX1_holds_1 rfl ?_
  refine z_aload_n ok dX1_holds_2 rfl ?_
  refine z_callVv0 ok (fun l => c_X1_find  (hw) (hok) (h01)) zm_X1_find zv_X1_find qm_RX1_15 dX1_holds_3 (by decide) (by decide) rfl rfl (Nat.le_of_ble_eq_true rfl) (q0 := 0) rfl rfl rfl (fun u3 hp3 => ?_)
  obtain ⟨sk_3, rfl⟩ : ∃ z, z = u3 := ⟨_, rfl⟩
  try dsimp only at hp3
  refine z_eq (ws' := zf [jW Z c sk_3, soW Z a N (ins N) (mvF N) (N 3), gW Z a (N 4) (N 5) (bkL N), pW Z a (N 6) (pkF N 0) (pkF N 1) (pkF N 2) (pkF N 3) (pkF N 4) (pkF N 5) (pkF N 6) (pkF N 7) (pkF N 8) (pkF N 9), rW Z b ef op ln nm qu qd]) rfl ?_
  obtain ⟨h3a, h3b⟩ := hp3
  refine z_aload_n ok dX1_holds_6 rfl ?_
  refine z_get (v := .ref (a 3)) ok zc5 2 rfl 2 (by decide) qf_RX1_19 rfl rfl dX1_holds_7 ?_
  refine z_iload_n ok dX1_holds_10 rfl ?_
  refine z_callVif ok (fun l => c_X2_has  (by omega) (by omega)) zm_X2_has zv_X2_has qm_RX1_25 dX1_holds_11 (by decide) (by decide) rfl rfl (Nat.le_of_ble_eq_true rfl) (q0 := 0) rfl rfl rfl (L := [jW Z c sk_3, soW Z a N (ins N) (mvF N) (N 3), gW Z a (N 4) (N 5) (bkL N), pW Z a (N 6) (pkF N 0) (pkF N 1) (pkF N 2) (pkF N 3) (pkF N 4) (pkF N 5) (pkF N 6) (pkF N 7) (pkF N 8) (pkF N 9), rW Z b ef op ln nm qu qd]) (Lr := [jW Z c sk_3, soW Z a N (ins N) (mvF N) (N 3), gW Z a (N 4) (N 5) (bkL N), rW Z b ef op ln nm qu qd]) [3, 0, 1, 2, 4] [1, 2, 3, 0, 4] rfl rfl (fun _ => rfl) (fun ρ _ hρ => ?_)
  subst hρ
  refine z_eq (ws' := zf [jW Z c sk_3, soW Z a N (ins N) (mvF N) (N 3), gW Z a (N 4) (N 5) (bkL N), pW Z a (N 6) (pkF N 0) (pkF N 1) (pkF N 2) (pkF N 3) (pkF N 4) (pkF N 5) (pkF N 6) (pkF N 7) (pkF N 8) (pkF N 9), rW Z b ef op ln nm qu qd]) rfl ?_
  refine z_ifb_eq (tgt := 30) ok dX1_holds_14 (by decide) (fun c14 => ?_) (fun c14 => ?_)
  · -- t
    refine z_iconst ok dX1_holds_30 ?_
    exact fin 0 sk_3 31 _ _ _ dX1_holds_31 (by first | decide | exact zb_01 _ | omega) (⟨by first | exact (zb_t ⟨by omega, zb_eq1.mp (by omega)⟩).symm | exact (zb_f (fun z => by first | exact c14 z.1 | (have := zb_t z.2; omega))).symm, h3a⟩) (by decide) (by decide)
  · -- f
    have h3i := h3a p (by omega) (by omega)
    have h3j := h3b p (by omega) (by omega)
    refine z_aload_n ok dX1_holds_17 rfl ?_
    refine z_get (v := .ref (c 1)) ok zc1 0 rfl 0 (by decide) qf_RX1_9 rfl rfl dX1_holds_18 ?_
    refine z_iload_n ok dX1_holds_21 rfl ?_
    refine z_zald (f := sk_3) ok 1 rfl dX1_holds_22 (by omega) (by decide) ?_
    refine z_if_eq (tgt := 30) ok dX1_holds_23 (by decide) (by omega) (fun c23 => ?_) (fun c23 => ?_)
    · -- t
      refine z_iconst ok dX1_holds_30 ?_
      exact fin 0 sk_3 31 _ _ _ dX1_holds_31 (by first | decide | exact zb_01 _ | omega) (⟨by first | exact (zb_t ⟨by omega, zb_eq1.mp (by omega)⟩).symm | exact (zb_f (fun z => by first | exact c14 z.1 | (have := zb_t z.2; omega))).symm, h3a⟩) (by decide) (by decide)
    · -- f
      refine z_iconst ok dX1_holds_26 ?_
      refine z_goto (tgt := 31) ok dX1_holds_27 (by decide) ?_
      exact fin 1 sk_3 31 _ _ _ dX1_holds_31 (by first | decide | exact zb_01 _ | omega) (⟨by first | exact (zb_t ⟨by omega, zb_eq1.mp (by omega)⟩).symm | exact (zb_f (fun z => by first | exact c14 z.1 | (have := zb_t z.2; omega))).symm, h3a⟩) (by decide) (by decide)
