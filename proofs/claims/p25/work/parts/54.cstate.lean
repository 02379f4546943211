set_option maxRecDepth 20000 in
theorem c_X5_hasRoom {l : Launch} {Z : zZ} {a : Nat → Nat} {N : Int → Int} {box : Int} (hw : wf N) (hb : -2147483648 ≤ box ∧ box < 2147483648) : zI (T := Unit) l yX5_hasRoom (Cond.code yX5_hasRoom cX5_hasRoom 2 (some .boolean) :: wsL_law) ({ frames := 0, cells := 0, slots := 0, locals := 0 } : Room) Z [.ref (a 0), .int (iI box)] (zf [soW Z a N (ins N) (mvF N) (N 3)]) (fun _ => zf [soW Z a N (ins N) (mvF N) (N 3)]) (fun ρ _ => ρ = zb (0 ≤ box ∧ box < 25 ∧ ins N box < N 2)) := by
  refine zI_of (C := RX5) (by decide +kernel) rfl (Nat.le_of_ble_eq_true rfl) (fun ρ => ρ = 0 ∨ ρ = 1) znZ (fun X ok fin => ?_)
  obtain ⟨w0, w1, w2, hc, hr, w6, wl, wp⟩ := id hw
  have hcr := cr_rng hc hr
  have hin := ins_rng (b := box) hw
  refine z_lsub ok (lv' := [(0, .ref (a 0)), (1, .int (iI box))]) [0, 1] rfl ?_
  refine z_iload_n ok dX5_hasRoom_0 rfl ?_
  refine z_if_lt (tgt := 32) ok dX5_hasRoom_1 (by decide) (by omega) (fun c1 => ?_) (fun c1 => ?_)
  · -- t
    refine z_iconst ok dX5_hasRoom_32 ?_
    exact fin 0 () 33 _ _ _ dX5_hasRoom_33 (by first | decide | exact zb_01 _ | omega) (by first | exact (zb_t (by omega)).symm | exact (zb_f (by omega)).symm) (by decide) (by decide)
  · -- f
    refine z_iload_n ok dX5_hasRoom_4 rfl ?_
    refine z_aload_n ok dX5_hasRoom_5 rfl ?_
    refine z_get (v := .ref (a 14)) ok zc5 0 rfl 3 (by decide) qf_RX5_29 rfl rfl dX5_hasRoom_6 ?_
    refine z_alen (v := 25) ok 2 rfl rfl dX5_hasRoom_9 ?_
    refine z_icmp_ge (tgt := 32) ok dX5_hasRoom_10 (by decide) (by omega) (by omega) (fun c10 => ?_) (fun c10 => ?_)
    · -- t
      refine z_iconst ok dX5_hasRoom_32 ?_
      exact fin 0 () 33 _ _ _ dX5_hasRoom_33 (by first | decide | exact zb_01 _ | omega) (by first | exact (zb_t (by omega)).symm | exact (zb_f (by omega)).symm) (by decide) (by decide)
    · -- f
      refine z_aload_n ok dX5_hasRoom_13 rfl ?_
      refine z_get (v := .ref (a 14)) ok zc5 0 rfl 3 (by decide) qf_RX5_29 rfl rfl dX5_hasRoom_14 ?_
      refine z_iload_n ok dX5_hasRoom_17 rfl ?_
      refine z_iale (f := ins N) (v := ins N box) ok 2 rfl rfl dX5_hasRoom_18 (by omega) (by decide) ?_
      refine z_aload_n ok dX5_hasRoom_19 rfl ?_
      refine z_get (v := .ref (a 1)) ok zc5 0 rfl 0 (by decide) qf_RX5_9 rfl rfl dX5_hasRoom_20 ?_
      refine z_iconst ok dX5_hasRoom_23 ?_
      refine z_iald (f := N) ok 1 rfl dX5_hasRoom_24 (by omega) (by decide) ?_
      refine z_icmp_ge (tgt := 32) ok dX5_hasRoom_25 (by decide) (by omega) (by omega) (fun c25 => ?_) (fun c25 => ?_)
      · -- t
        refine z_iconst ok dX5_hasRoom_32 ?_
        exact fin 0 () 33 _ _ _ dX5_hasRoom_33 (by first | decide | exact zb_01 _ | omega) (by first | exact (zb_t (by omega)).symm | exact (zb_f (by omega)).symm) (by decide) (by decide)
      · -- f
        refine z_iconst ok dX5_hasRoom_28 ?_
        refine z_goto (tgt := 33) ok dX5_hasRoom_29 (by decide) ?_
        exact fin 1 () 33 _ _ _ dX5_hasRoom_33 (by first | decide | exact zb_01 _ | omega) (by first | exact (zb_t (by omega)).symm | exact (zb_f (by omega)).symm) (by decide) (by decide)
set_option maxRecDepth 20000 in
theorem c_X5_letsIn {l : Launch} {Z : zZ} {a : Nat → Nat} {N : Int → Int} {p box : Int} (hw : wf N) (hp : 0 ≤ p ∧ p < N 6) (hb : 0 ≤ box ∧ box < 25) : zI (T := Unit) l yX5_letsIn (Cond.code yX5_letsIn cX5_letsIn 3 (some .boolean) :: wsL_law) ({ frames := 1, cells := 0, slots := 0, locals := 21 } : Room) Z [.ref (a 0), .int (iI p), .int (iI box)] (zf [soW Z a N (ins N) (mvF N) (N 3), pW Z a (N 6) (pkF N 0) (pkF N 1) (pkF N 2) (pkF N 3) (pkF N 4) (pkF N 5) (pkF N 6) (pkF N 7) (pkF N 8) (pkF N 9)]) (fun _ => zf [soW Z a N (ins N) (mvF N) (N 3), pW Z a (N 6) (pkF N 0) (pkF N 1) (pkF N 2) (pkF N 3) (pkF N 4) (pkF N 5) (pkF N 6) (pkF N 7) (pkF N 8) (pkF N 9)]) (fun ρ _ => ρ = zb (box = pk N p 1 ∨ ins N box < N 2)) := by
  refine zI_of (C := RX5) (by decide +kernel) rfl (Nat.le_of_ble_eq_true rfl) (fun ρ => ρ = 0 ∨ ρ = 1) znZ (fun X ok fin => ?_)
  obtain ⟨w0, w1, w2, hc, hr, w6, wl, wp⟩ := id hw
  have hcr := cr_rng hc hr
  have wpp := wp p hp.1 hp.2
  refine z_lsub ok (lv' := [(0, .ref (a 0)), (1, .int (iI p)), (2, .int (iI box))]) [0, 1, 2] rfl ?_
  refine z_iload_n ok dX5_letsIn_0 rfl ?_
  refine z_aload_n ok dX5_letsIn_1 rfl ?_
  refine z_get (v := .ref (a 3)) ok zc5 0 rfl 2 (by decide) qf_RX5_25 rfl rfl dX5_letsIn_2 ?_
  refine z_get (v := .ref (a 5)) ok zc2 4 rfl 2 (by decide) qf_RX5_69 rfl rfl dX5_letsIn_5 ?_
  refine z_iload_n ok dX5_letsIn_8 rfl ?_
  refine z_iale (f := pkF N 1) (v := pk N p 1) ok 6 rfl rfl dX5_letsIn_9 (by omega) (by decide) ?_
  refine z_icmp_eq (tgt := 21) ok dX5_letsIn_10 (by decide) (by omega) (by omega) (fun c10 => ?_) (fun c10 => ?_)
  · -- t
    refine z_iconst ok dX5_letsIn_21 ?_
    refine z_goto (tgt := 26) ok dX5_letsIn_22 (by decide) ?_
    exact fin 1 () 26 _ _ _ dX5_letsIn_26 (by first | decide | exact zb_01 _ | omega) (by first | exact (zb_t (by first | omega | exact Or.inr c18.2.2)).symm | exact (zb_f (fun z => by rcases z with z | z; omega; exact c18 ⟨hb.1, hb.2, z⟩)).symm) (by decide) (by decide)
  · -- f
    refine z_aload_n ok dX5_letsIn_13 rfl ?_
    refine z_iload_n ok dX5_letsIn_14 rfl ?_
    refine z_callVif ok (fun l => c_X5_hasRoom  (hw) (by omega)) zm_X5_hasRoom zv_X5_hasRoom qm_RX5_98 dX5_letsIn_15 (by decide) (by decide) rfl rfl (Nat.le_of_ble_eq_true rfl) (q0 := 0) rfl rfl rfl (L := [soW Z a N (ins N) (mvF N) (N 3), pW Z a (N 6) (pkF N 0) (pkF N 1) (pkF N 2) (pkF N 3) (pkF N 4) (pkF N 5) (pkF N 6) (pkF N 7) (pkF N 8) (pkF N 9)]) (Lr := [pW Z a (N 6) (pkF N 0) (pkF N 1) (pkF N 2) (pkF N 3) (pkF N 4) (pkF N 5) (pkF N 6) (pkF N 7) (pkF N 8) (pkF N 9)]) [0, 1] [0, 1] rfl rfl (fun _ => rfl) (fun ρ _ hρ => ?_)
    subst hρ
    refine z_eq (ws' := zf [soW Z a N (ins N) (mvF N) (N 3), pW Z a (N 6) (pkF N 0) (pkF N 1) (pkF N 2) (pkF N 3) (pkF N 4) (pkF N 5) (pkF N 6) (pkF N 7) (pkF N 8) (pkF N 9)]) rfl ?_
    refine z_ifb_eq (tgt := 25) ok dX5_letsIn_18 (by decide) (fun c18 => ?_) (fun c18 => ?_)
    · -- t
      refine z_iconst ok dX5_letsIn_25 ?_
      exact fin 0 () 26 _ _ _ dX5_letsIn_26 (by first | decide | exact zb_01 _ | omega) (by first | exact (zb_t (by first | omega | exact Or.inr c18.2.2)).symm | exact (zb_f (fun z => by rcases z with z | z; omega; exact c18 ⟨hb.1, hb.2, z⟩)).symm) (by decide) (by decide)
    · -- f
      refine z_iconst ok dX5_letsIn_21 ?_
      refine z_goto (tgt := 26) ok dX5_letsIn_22 (by decide) ?_
      exact fin 1 () 26 _ _ _ dX5_letsIn_26 (by first | decide | exact zb_01 _ | omega) (by first | exact (zb_t (by first | omega | exact Or.inr c18.2.2)).symm | exact (zb_f (fun z => by rcases z with z | z; omega; exact c18 ⟨hb.1, hb.2, z⟩)).symm) (by decide) (by decide)
set_option maxRecDepth 20000 in
theorem c_X5_mostMoves {l : Launch} {Z : zZ} {a : Nat → Nat} {N : Int → Int} {p : Int} (hw : wf N) (hp : 0 ≤ p ∧ p < N 6) : zI (T := Unit) l yX5_mostMoves (Cond.code yX5_mostMoves cX5_mostMoves 3 (some .int) :: wsL_law) ({ frames := 2, cells := 0, slots := 0, locals := 43 } : Room) Z [.ref (a 0), .int (iI p)] (zf [soW Z a N (ins N) (mvF N) (N 3), gW Z a (N 4) (N 5) (bkL N), pW Z a (N 6) (pkF N 0) (pkF N 1) (pkF N 2) (pkF N 3) (pkF N 4) (pkF N 5) (pkF N 6) (pkF N 7) (pkF N 8) (pkF N 9)]) (fun _ => zf [soW Z a N (ins N) (mvF N) (N 3), gW Z a (N 4) (N 5) (bkL N), pW Z a (N 6) (pkF N 0) (pkF N 1) (pkF N 2) (pkF N 3) (pkF N 4) (pkF N 5) (pkF N 6) (pkF N 7) (pkF N 8) (pkF N 9)]) (fun ρ _ => ρ = mm N p) := by
  refine zI_of (C := RX5) (by decide +kernel) rfl (Nat.le_of_ble_eq_true rfl) (fun _ => True) znI (fun X ok fin => ?_)
  obtain ⟨w0, w1, w2, hc, hr, w6, wl, wp⟩ := id hw
  have hcr := cr_rng hc hr
  have wpp := wp p hp.1 hp.2
  refine z_lsub ok (lv' := [(0, .ref (a 0)), (1, .int (iI p))]) [0, 1] rfl ?_
  refine z_iconst ok dX5_mostMoves_0 ?_
  refine z_aload_n ok dX5_mostMoves_1 rfl ?_
  refine z_get (v := .ref (a 1)) ok zc5 0 rfl 0 (by decide) qf_RX5_9 rfl rfl dX5_mostMoves_2 ?_
  refine z_iconst ok dX5_mostMoves_5 ?_
  refine z_iald (f := N) ok 1 rfl dX5_mostMoves_6 (by omega) (by decide) ?_
  refine z_aload_n ok dX5_mostMoves_7 rfl ?_
  refine z_get (v := .ref (a 3)) ok zc5 0 rfl 2 (by decide) qf_RX5_25 rfl rfl dX5_mostMoves_8 ?_
  refine z_get (v := .ref (a 9)) ok zc2 5 rfl 6 (by decide) qf_RX5_76 rfl rfl dX5_mostMoves_11 ?_
  refine z_iload_n ok dX5_mostMoves_14 rfl ?_
  refine z_iale (f := pkF N 5) (v := pk N p 5) ok 11 rfl rfl dX5_mostMoves_15 (by omega) (by decide) ?_
  refine z_isub ok dX5_mostMoves_16 ?_
  refine z_mmax ok qm_RX5_79 qt_Math_max qn_java_lang_Math qc_Math_max dX5_mostMoves_17 (by decide) (Nat.le_of_ble_eq_true rfl) (by omega) (by omega) ?_
  refine z_istore_n (lv' := [(2, .int (iI (max 0 ((N 1) - (pk N p 5))))), (0, .ref (a 0)), (1, .int (iI p))]) ok dX5_mostMoves_20 (by decide) rfl ?_
  refine z_aload_n ok dX5_mostMoves_21 rfl ?_
  refine z_get (v := .ref (a 2)) ok zc5 0 rfl 1 (by decide) qf_RX5_18 rfl rfl dX5_mostMoves_22 ?_
  refine z_aload_n ok dX5_mostMoves_25 rfl ?_
  refine z_get (v := .ref (a 3)) ok zc5 0 rfl 2 (by decide) qf_RX5_25 rfl rfl dX5_mostMoves_26 ?_
  refine z_get (v := .ref (a 7)) ok zc2 5 rfl 4 (by decide) qf_RX5_63 rfl rfl dX5_mostMoves_29 ?_
  refine z_iload_n ok dX5_mostMoves_32 rfl ?_
  refine z_iale (f := pkF N 3) (v := pk N p 3) ok 9 rfl rfl dX5_mostMoves_33 (by omega) (by decide) ?_
  refine z_aload_n ok dX5_mostMoves_34 rfl ?_
  refine z_get (v := .ref (a 3)) ok zc5 0 rfl 2 (by decide) qf_RX5_25 rfl rfl dX5_mostMoves_35 ?_
  refine z_get (v := .ref (a 5)) ok zc2 5 rfl 2 (by decide) qf_RX5_69 rfl rfl dX5_mostMoves_38 ?_
  refine z_iload_n ok dX5_mostMoves_41 rfl ?_
  refine z_iale (f := pkF N 1) (v := pk N p 1) ok 7 rfl rfl dX5_mostMoves_42 (by omega) (by decide) ?_
  refine z_callVif ok (fun l => c_X0_distance  (by omega) (by omega) (by omega) (by omega)) zm_X0_distance zv_X0_distance qm_RX5_59 dX5_mostMoves_43 (by decide) (by decide) rfl rfl (Nat.le_of_ble_eq_true rfl) (q0 := 0) rfl rfl rfl (L := [soW Z a N (ins N) (mvF N) (N 3), gW Z a (N 4) (N 5) (bkL N), pW Z a (N 6) (pkF N 0) (pkF N 1) (pkF N 2) (pkF N 3) (pkF N 4) (pkF N 5) (pkF N 6) (pkF N 7) (pkF N 8) (pkF N 9)]) (Lr := [soW Z a N (ins N) (mvF N) (N 3), pW Z a (N 6) (pkF N 0) (pkF N 1) (pkF N 2) (pkF N 3) (pkF N 4) (pkF N 5) (pkF N 6) (pkF N 7) (pkF N 8) (pkF N 9)]) [1, 0, 2] [1, 0, 2] rfl rfl (fun _ => rfl) (fun ρ _ hρ => ?_)
  subst hρ
  refine z_eq (ws' := zf [soW Z a N (ins N) (mvF N) (N 3), gW Z a (N 4) (N 5) (bkL N), pW Z a (N 6) (pkF N 0) (pkF N 1) (pkF N 2) (pkF N 3) (pkF N 4) (pkF N 5) (pkF N 6) (pkF N 7) (pkF N 8) (pkF N 9)]) rfl ?_
  refine z_iconst ok dX5_mostMoves_46 ?_
  refine z_iload_n ok dX5_mostMoves_47 rfl ?_
  refine z_imul ok dX5_mostMoves_48 ?_
  refine z_iadd ok dX5_mostMoves_49 ?_
  exact fin ((dist N (pk N p 3) (pk N p 1)) + (2 * (max 0 ((N 1) - (pk N p 5))))) () 50 _ _ _ dX5_mostMoves_50 (trivial) (by unfold mm; omega) (by decide) (by decide)
set_option maxRecDepth 20000 in
theorem c_X5_wayLength {l : Launch} {Z : zZ} {a : Nat → Nat} {N : Int → Int} {b : Nat → Nat} {ef : Int} {op ln nm qu : Int → Int} {qd : Int} {x to : Int} (hw : wf N) (hok : rOK N ef op ln) (hx : isB N x) (hto : isB N to) : zI (T := Unit) l yX5_wayLength (Cond.code yX5_wayLength cX5_wayLength 5 (some .int) :: wsL_law) ({ frames := 2, cells := 0, slots := 0, locals := 45 } : Room) Z [.ref (a 0), .ref (b 0), .int (iI x), .int (iI to)] (zf [soW Z a N (ins N) (mvF N) (N 3), gW Z a (N 4) (N 5) (bkL N), rW Z b ef op ln nm qu qd]) (fun _ => zf [soW Z a N (ins N) (mvF N) (N 3), gW Z a (N 4) (N 5) (bkL N), rW Z b ef op ln nm qu qd]) (fun ρ _ => ρ = fr N to (10 * x)) := by
  refine zI_of (C := RX5) (by decide +kernel) rfl (Nat.le_of_ble_eq_true rfl) (fun _ => True) znI (fun X ok fin => ?_)
  obtain ⟨w0, w1, w2, hc, hr, w6, wl, wp⟩ := id hw
  have hcr := cr_rng hc hr
  obtain ⟨hf, hr1⟩ := wl_fr hw hok hx hto
  unfold isB at hx hto
  have hdl := dist_le hw hx hto
  refine z_lsub ok (lv' := [(0, .ref (a 0)), (1, .ref (b 0)), (2, .int (iI x)), (3, .int (iI to))]) [0, 1, 2, 3] rfl ?_
  refine z_aload_n ok dX5_wayLength_0 rfl ?_
  refine z_iload_n ok dX5_wayLength_1 rfl ?_
  refine z_iconst ok dX5_wayLength_2 ?_
  refine z_iload_n ok dX5_wayLength_3 rfl ?_
  refine z_callVif ok (fun l => c_X4_length  (by omega) (by omega) (by omega)) zm_X4_length zv_X4_length qm_RX5_53 dX5_wayLength_4 (by decide) (by decide) rfl rfl (Nat.le_of_ble_eq_true rfl) (q0 := 0) rfl rfl rfl (L := [soW Z a N (ins N) (mvF N) (N 3), gW Z a (N 4) (N 5) (bkL N), rW Z b ef op ln nm qu qd]) (Lr := [soW Z a N (ins N) (mvF N) (N 3), gW Z a (N 4) (N 5) (bkL N)]) [2, 0, 1] [1, 2, 0] rfl rfl (fun _ => rfl) (fun ρ _ hρ => ?_)
  subst hρ
  refine z_eq (ws' := zf [soW Z a N (ins N) (mvF N) (N 3), gW Z a (N 4) (N 5) (bkL N), rW Z b ef op ln nm qu qd]) rfl ?_
  refine z_istore (lv' := [(4, .int (iI (ln (to * 50 + (0 * 25 + x))))), (0, .ref (a 0)), (1, .ref (b 0)), (2, .int (iI x)), (3, .int (iI to))]) ok dX5_wayLength_7 (by decide) rfl ?_
  refine z_iload ok dX5_wayLength_9 rfl ?_
  refine z_aload_n ok dX5_wayLength_11 rfl ?_
  refine z_get (v := .ref (a 2)) ok zc5 0 rfl 1 (by decide) qf_RX5_18 rfl rfl dX5_wayLength_12 ?_
  refine z_iload_n ok dX5_wayLength_15 rfl ?_
  refine z_iload_n ok dX5_wayLength_16 rfl ?_
  refine z_callVif ok (fun l => c_X0_distance  (by omega) (by omega) (by omega) (by omega)) zm_X0_distance zv_X0_distance qm_RX5_59 dX5_wayLength_17 (by decide) (by decide) rfl rfl (Nat.le_of_ble_eq_true rfl) (q0 := 0) rfl rfl rfl (L := [soW Z a N (ins N) (mvF N) (N 3), gW Z a (N 4) (N 5) (bkL N), rW Z b ef op ln nm qu qd]) (Lr := [soW Z a N (ins N) (mvF N) (N 3), rW Z b ef op ln nm qu qd]) [1, 0, 2] [1, 0, 2] rfl rfl (fun _ => rfl) (fun ρ _ hρ => ?_)
  subst hρ
  refine z_eq (ws' := zf [soW Z a N (ins N) (mvF N) (N 3), gW Z a (N 4) (N 5) (bkL N), rW Z b ef op ln nm qu qd]) rfl ?_
  refine z_iconst ok dX5_wayLength_20 ?_
  refine z_aload_n ok dX5_wayLength_21 rfl ?_
  refine z_get (v := .ref (a 1)) ok zc5 0 rfl 0 (by decide) qf_RX5_9 rfl rfl dX5_wayLength_22 ?_
  refine z_iconst ok dX5_wayLength_25 ?_
  refine z_iald (f := N) ok 1 rfl dX5_wayLength_26 (by omega) (by decide) ?_
  refine z_imul ok dX5_wayLength_27 ?_
  refine z_iadd ok dX5_wayLength_28 ?_
  refine z_icmp_gt (tgt := 37) ok dX5_wayLength_29 (by decide) (by omega) (by omega) (fun c29 => ?_) (fun c29 => ?_)
  · -- t
    refine z_bipush ok dX5_wayLength_37 (by decide) ?_
    exact fin (-6) () 39 _ _ _ dX5_wayLength_39 (trivial) (by rw [hf]; first | (rw [if_pos (by omega)]; done) | (rw [if_neg (by omega)]; done)) (by decide) (by decide)
  · -- f
    refine z_iload ok dX5_wayLength_32 rfl ?_
    refine z_goto (tgt := 39) ok dX5_wayLength_34 (by decide) ?_
    exact fin (ln (to * 50 + (0 * 25 + x))) () 39 _ _ _ dX5_wayLength_39 (trivial) (by rw [hf]; first | (rw [if_pos (by omega)]; done) | (rw [if_neg (by omega)]; done)) (by decide) (by decide)
set_option maxRecDepth 20000 in
theorem c_X5_wayLengthOf {l : Launch} {Z : zZ} {a : Nat → Nat} {N : Int → Int} {b : Nat → Nat} {ef : Int} {op ln nm qu : Int → Int} {qd : Int} {p : Int} (hw : wf N) (hok : rOK N ef op ln) (hp : 0 ≤ p ∧ p < N 6) : zI (T := Unit) l yX5_wayLengthOf (Cond.code yX5_wayLengthOf cX5_wayLengthOf 4 (some .int) :: wsL_law) ({ frames := 3, cells := 0, slots := 0, locals := 65 } : Room) Z [.ref (a 0), .ref (b 0), .int (iI p)] (zf [soW Z a N (ins N) (mvF N) (N 3), gW Z a (N 4) (N 5) (bkL N), pW Z a (N 6) (pkF N 0) (pkF N 1) (pkF N 2) (pkF N 3) (pkF N 4) (pkF N 5) (pkF N 6) (pkF N 7) (pkF N 8) (pkF N 9), rW Z b ef op ln nm qu qd]) (fun _ => zf [soW Z a N (ins N) (mvF N) (N 3), gW Z a (N 4) (N 5) (bkL N), pW Z a (N 6) (pkF N 0) (pkF N 1) (pkF N 2) (pkF N 3) (pkF N 4) (pkF N 5) (pkF N 6) (pkF N 7) (pkF N 8) (pkF N 9), rW Z b ef op ln nm qu qd]) (fun ρ _ => ρ = fr N (pk N p 1) (stg N p)) := by
  refine zI_of (C := RX5) (by decide +kernel) rfl (Nat.le_of_ble_eq_true rfl) (fun _ => True) znI (fun X ok fin => ?_)
  obtain ⟨w0, w1, w2, hc, hr, w6, wl, wp⟩ := id hw
  have hcr := cr_rng hc hr
  have wpp := wp p hp.1 hp.2
  obtain ⟨hf, hr1⟩ := wlo_fr hw hok hp
  have hmm := mm_rng hw hp
  refine z_lsub ok (lv' := [(0, .ref (a 0)), (1, .ref (b 0)), (2, .int (iI p))]) [0, 1, 2] rfl ?_
  refine z_aload_n ok dX5_wayLengthOf_0 rfl ?_
  refine z_aload_n ok dX5_wayLengthOf_1 rfl ?_
  refine z_get (v := .ref (a 3)) ok zc5 0 rfl 2 (by decide) qf_RX5_25 rfl rfl dX5_wayLengthOf_2 ?_
  refine z_get (v := .ref (a 7)) ok zc2 5 rfl 4 (by decide) qf_RX5_63 rfl rfl dX5_wayLengthOf_5 ?_
  refine z_iload_n ok dX5_wayLengthOf_8 rfl ?_
  refine z_iale (f := pkF N 3) (v := pk N p 3) ok 9 rfl rfl dX5_wayLengthOf_9 (by omega) (by decide) ?_
  refine z_aload_n ok dX5_wayLengthOf_10 rfl ?_
  refine z_get (v := .ref (a 3)) ok zc5 0 rfl 2 (by decide) qf_RX5_25 rfl rfl dX5_wayLengthOf_11 ?_
  refine z_get (v := .ref (a 13)) ok zc2 5 rfl 10 (by decide) qf_RX5_66 rfl rfl dX5_wayLengthOf_14 ?_
  refine z_iload_n ok dX5_wayLengthOf_17 rfl ?_
  refine z_iale (f := pkF N 9) (v := pk N p 9) ok 15 rfl rfl dX5_wayLengthOf_18 (by omega) (by decide) ?_
  refine z_aload_n ok dX5_wayLengthOf_19 rfl ?_
  refine z_get (v := .ref (a 3)) ok zc5 0 rfl 2 (by decide) qf_RX5_25 rfl rfl dX5_wayLengthOf_20 ?_
  refine z_get (v := .ref (a 5)) ok zc2 5 rfl 2 (by decide) qf_RX5_69 rfl rfl dX5_wayLengthOf_23 ?_
  refine z_iload_n ok dX5_wayLengthOf_26 rfl ?_
  refine z_iale (f := pkF N 1) (v := pk N p 1) ok 7 rfl rfl dX5_wayLengthOf_27 (by omega) (by decide) ?_
  refine z_callVif ok (fun l => c_X4_length  (by omega) (by omega) (by omega)) zm_X4_length zv_X4_length qm_RX5_53 dX5_wayLengthOf_28 (by decide) (by decide) rfl rfl (Nat.le_of_ble_eq_true rfl) (q0 := 0) rfl rfl rfl (L := [soW Z a N (ins N) (mvF N) (N 3), gW Z a (N 4) (N 5) (bkL N), pW Z a (N 6) (pkF N 0) (pkF N 1) (pkF N 2) (pkF N 3) (pkF N 4) (pkF N 5) (pkF N 6) (pkF N 7) (pkF N 8) (pkF N 9), rW Z b ef op ln nm qu qd]) (Lr := [soW Z a N (ins N) (mvF N) (N 3), gW Z a (N 4) (N 5) (bkL N), pW Z a (N 6) (pkF N 0) (pkF N 1) (pkF N 2) (pkF N 3) (pkF N 4) (pkF N 5) (pkF N 6) (pkF N 7) (pkF N 8) (pkF N 9)]) [3, 0, 1, 2] [1, 2, 3, 0] rfl rfl (fun _ => rfl) (fun ρ _ hρ => ?_)
  subst hρ
  refine z_eq (ws' := zf [soW Z a N (ins N) (mvF N) (N 3), gW Z a (N 4) (N 5) (bkL N), pW Z a (N 6) (pkF N 0) (pkF N 1) (pkF N 2) (pkF N 3) (pkF N 4) (pkF N 5) (pkF N 6) (pkF N 7) (pkF N 8) (pkF N 9), rW Z b ef op ln nm qu qd]) rfl ?_
  refine z_istore_n (lv' := [(3, .int (iI (ln ((pk N p 1) * 50 + ((pk N p 9) * 25 + (pk N p 3)))))), (0, .ref (a 0)), (1, .ref (b 0)), (2, .int (iI p))]) ok dX5_wayLengthOf_31 (by decide) rfl ?_
  refine z_iload_n ok dX5_wayLengthOf_32 rfl ?_
  refine z_aload_n ok dX5_wayLengthOf_33 rfl ?_
  refine z_iload_n ok dX5_wayLengthOf_34 rfl ?_
  refine z_callVif ok (fun l => c_X5_mostMoves  (hw) (by omega)) zm_X5_mostMoves zv_X5_mostMoves qm_RX5_72 dX5_wayLengthOf_35 (by decide) (by decide) rfl rfl (Nat.le_of_ble_eq_true rfl) (q0 := 0) rfl rfl rfl (L := [soW Z a N (ins N) (mvF N) (N 3), gW Z a (N 4) (N 5) (bkL N), pW Z a (N 6) (pkF N 0) (pkF N 1) (pkF N 2) (pkF N 3) (pkF N 4) (pkF N 5) (pkF N 6) (pkF N 7) (pkF N 8) (pkF N 9), rW Z b ef op ln nm qu qd]) (Lr := [rW Z b ef op ln nm qu qd]) [0, 1, 2, 3] [0, 1, 2, 3] rfl rfl (fun _ => rfl) (fun ρ _ hρ => ?_)
  subst hρ
  refine z_eq (ws' := zf [soW Z a N (ins N) (mvF N) (N 3), gW Z a (N 4) (N 5) (bkL N), pW Z a (N 6) (pkF N 0) (pkF N 1) (pkF N 2) (pkF N 3) (pkF N 4) (pkF N 5) (pkF N 6) (pkF N 7) (pkF N 8) (pkF N 9), rW Z b ef op ln nm qu qd]) rfl ?_
  refine z_icmp_gt (tgt := 45) ok dX5_wayLengthOf_38 (by decide) (by omega) (by omega) (fun c38 => ?_) (fun c38 => ?_)
  · -- t
    refine z_bipush ok dX5_wayLengthOf_45 (by decide) ?_
    exact fin (-6) () 47 _ _ _ dX5_wayLengthOf_47 (trivial) (by rw [hf]; first | (rw [if_pos (by omega)]; done) | (rw [if_neg (by omega)]; done)) (by decide) (by decide)
  · -- f
    refine z_iload_n ok dX5_wayLengthOf_41 rfl ?_
    refine z_goto (tgt := 47) ok dX5_wayLengthOf_42 (by decide) ?_
    exact fin (ln ((pk N p 1) * 50 + ((pk N p 9) * 25 + (pk N p 3)))) () 47 _ _ _ dX5_wayLengthOf_47 (trivial) (by rw [hf]; first | (rw [if_pos (by omega)]; done) | (rw [if_neg (by omega)]; done)) (by decide) (by decide)
set_option maxRecDepth 20000 in
theorem c_X5_isPossible {l : Launch} {Z : zZ} {a : Nat → Nat} {N : Int → Int} {b : Nat → Nat} {ef : Int} {op ln nm qu : Int → Int} {qd : Int} {p d : Int} (hw : wf N) (hok : rOK N ef op ln) (hp : 0 ≤ p ∧ p < N 6) (hd : 0 ≤ d ∧ d ≤ 3) : zI (T := Unit) l yX5_isPossible (Cond.code yX5_isPossible cX5_isPossible 4 (some .boolean) :: wsL_law) ({ frames := 3, cells := 0, slots := 0, locals := 70 } : Room) Z [.ref (a 0), .ref (b 0), .int (iI p), .int (iI d)] (zf [soW Z a N (ins N) (mvF N) (N 3), gW Z a (N 4) (N 5) (bkL N), pW Z a (N 6) (pkF N 0) (pkF N 1) (pkF N 2) (pkF N 3) (pkF N 4) (pkF N 5) (pkF N 6) (pkF N 7) (pkF N 8) (pkF N 9), rW Z b ef op ln nm qu qd]) (fun _ => zf [soW Z a N (ins N) (mvF N) (N 3), gW Z a (N 4) (N 5) (bkL N), pW Z a (N 6) (pkF N 0) (pkF N 1) (pkF N 2) (pkF N 3) (pkF N 4) (pkF N 5) (pkF N 6) (pkF N 7) (pkF N 8) (pkF N 9), rW Z b ef op ln nm qu qd]) (fun ρ _ => ρ = zb (pss N (pk N p 1) (stg N p) d)) := by
  refine zI_of (C := RX5) (by decide +kernel) rfl (Nat.le_of_ble_eq_true rfl) (fun ρ => ρ = 0 ∨ ρ = 1) znZ (fun X ok fin => ?_)
  obtain ⟨w0, w1, w2, hc, hr, w6, wl, wp⟩ := id hw
  have hcr := cr_rng hc hr
  have wpp := wp p hp.1 hp.2
  have hmm := mm_rng hw hp
  have hef := hok.1.1
  obtain ⟨hl1, hl2, hl3, hl4⟩ := pss_laf (d := d) hw hok hp (by omega)
  have hov := hok.1.2 (pk N p 3) d (by omega) (by omega) (by omega) (by omega)
  have hor := oq_rng (b := pk N p 3) (d := d) hw (by omega) (by omega)
  refine z_lsub ok (lv' := [(0, .ref (a 0)), (1, .ref (b 0)), (2, .int (iI p)), (3, .int (iI d))]) [0, 1, 2, 3] rfl ?_
  refine z_aload_n ok dX5_isPossible_0 rfl ?_
  refine z_aload_n ok dX5_isPossible_1 rfl ?_
  refine z_get (v := .ref (a 3)) ok zc5 0 rfl 2 (by decide) qf_RX5_25 rfl rfl dX5_isPossible_2 ?_
  refine z_get (v := .ref (a 7)) ok zc2 5 rfl 4 (by decide) qf_RX5_63 rfl rfl dX5_isPossible_5 ?_
  refine z_iload_n ok dX5_isPossible_8 rfl ?_
  refine z_iale (f := pkF N 3) (v := pk N p 3) ok 9 rfl rfl dX5_isPossible_9 (by omega) (by decide) ?_
  refine z_aload_n ok dX5_isPossible_10 rfl ?_
  refine z_get (v := .ref (a 3)) ok zc5 0 rfl 2 (by decide) qf_RX5_25 rfl rfl dX5_isPossible_11 ?_
  refine z_get (v := .ref (a 13)) ok zc2 5 rfl 10 (by decide) qf_RX5_66 rfl rfl dX5_isPossible_14 ?_
  refine z_iload_n ok dX5_isPossible_17 rfl ?_
  refine z_iale (f := pkF N 9) (v := pk N p 9) ok 15 rfl rfl dX5_isPossible_18 (by omega) (by decide) ?_
  refine z_iload_n ok dX5_isPossible_19 rfl ?_
  refine z_aload_n ok dX5_isPossible_20 rfl ?_
  refine z_get (v := .ref (a 3)) ok zc5 0 rfl 2 (by decide) qf_RX5_25 rfl rfl dX5_isPossible_21 ?_
  refine z_get (v := .ref (a 5)) ok zc2 5 rfl 2 (by decide) qf_RX5_69 rfl rfl dX5_isPossible_24 ?_
  refine z_iload_n ok dX5_isPossible_27 rfl ?_
  refine z_iale (f := pkF N 1) (v := pk N p 1) ok 7 rfl rfl dX5_isPossible_28 (by omega) (by decide) ?_
  refine z_callVif ok (fun l => c_X4_lengthAfter  (by omega) (by omega) (by omega) (by omega) (by omega) (by omega)) zm_X4_lengthAfter zv_X4_lengthAfter qm_RX5_84 dX5_isPossible_29 (by decide) (by decide) rfl rfl (Nat.le_of_ble_eq_true rfl) (q0 := 0) rfl rfl rfl (L := [soW Z a N (ins N) (mvF N) (N 3), gW Z a (N 4) (N 5) (bkL N), pW Z a (N 6) (pkF N 0) (pkF N 1) (pkF N 2) (pkF N 3) (pkF N 4) (pkF N 5) (pkF N 6) (pkF N 7) (pkF N 8) (pkF N 9), rW Z b ef op ln nm qu qd]) (Lr := [soW Z a N (ins N) (mvF N) (N 3), gW Z a (N 4) (N 5) (bkL N), pW Z a (N 6) (pkF N 0) (pkF N 1) (pkF N 2) (pkF N 3) (pkF N 4) (pkF N 5) (pkF N 6) (pkF N 7) (pkF N 8) (pkF N 9)]) [3, 0, 1, 2] [1, 2, 3, 0] rfl rfl (fun _ => rfl) (fun ρ _ hρ => ?_)
  subst hρ
  refine z_eq (ws' := zf [soW Z a N (ins N) (mvF N) (N 3), gW Z a (N 4) (N 5) (bkL N), pW Z a (N 6) (pkF N 0) (pkF N 1) (pkF N 2) (pkF N 3) (pkF N 4) (pkF N 5) (pkF N 6) (pkF N 7) (pkF N 8) (pkF N 9), rW Z b ef op ln nm qu qd]) rfl ?_
  refine z_aload_n ok dX5_isPossible_32 rfl ?_
  refine z_iload_n ok dX5_isPossible_33 rfl ?_
  refine z_callVif ok (fun l => c_X5_mostMoves  (hw) (by omega)) zm_X5_mostMoves zv_X5_mostMoves qm_RX5_72 dX5_isPossible_34 (by decide) (by decide) rfl rfl (Nat.le_of_ble_eq_true rfl) (q0 := 0) rfl rfl rfl (L := [soW Z a N (ins N) (mvF N) (N 3), gW Z a (N 4) (N 5) (bkL N), pW Z a (N 6) (pkF N 0) (pkF N 1) (pkF N 2) (pkF N 3) (pkF N 4) (pkF N 5) (pkF N 6) (pkF N 7) (pkF N 8) (pkF N 9), rW Z b ef op ln nm qu qd]) (Lr := [rW Z b ef op ln nm qu qd]) [0, 1, 2, 3] [0, 1, 2, 3] rfl rfl (fun _ => rfl) (fun ρ _ hρ => ?_)
  subst hρ
  refine z_eq (ws' := zf [soW Z a N (ins N) (mvF N) (N 3), gW Z a (N 4) (N 5) (bkL N), pW Z a (N 6) (pkF N 0) (pkF N 1) (pkF N 2) (pkF N 3) (pkF N 4) (pkF N 5) (pkF N 6) (pkF N 7) (pkF N 8) (pkF N 9), rW Z b ef op ln nm qu qd]) rfl ?_
  refine z_icmp_ge (tgt := 44) ok dX5_isPossible_37 (by decide) (by omega) (by omega) (fun c37 => ?_) (fun c37 => ?_)
  · -- t
    refine z_iconst ok dX5_isPossible_44 ?_
    exact fin 0 () 45 _ _ _ dX5_isPossible_45 (by first | decide | exact zb_01 _ | omega) (by first | exact (zb_t (hl1.mp (by omega))).symm | exact (zb_f (fun z => by have := hl1.mpr z; omega)).symm) (by decide) (by decide)
  · -- f
    refine z_iconst ok dX5_isPossible_40 ?_
    refine z_goto (tgt := 45) ok dX5_isPossible_41 (by decide) ?_
    exact fin 1 () 45 _ _ _ dX5_isPossible_45 (by first | decide | exact zb_01 _ | omega) (by first | exact (zb_t (hl1.mp (by omega))).symm | exact (zb_f (fun z => by have := hl1.mpr z; omega)).symm) (by decide) (by decide)
set_option maxRecDepth 20000 in
theorem c_X5_firstSide {l : Launch} {Z : zZ} {a : Nat → Nat} {N : Int → Int} {b : Nat → Nat} {ef : Int} {op ln nm qu : Int → Int} {qd : Int} {p wr : Int} (hw : wf N) (hok : rOK N ef op ln) (hp : 0 ≤ p ∧ p < N 6) (hwr : 0 ≤ wr ∧ wr ≤ 1) : zI (T := Unit) l yX5_firstSide (Cond.code yX5_firstSide cX5_firstSide 9 (some .int) :: wsL_law) ({ frames := 3, cells := 0, slots := 0, locals := 70 } : Room) Z [.ref (a 0), .ref (b 0), .int (iI p), .int (iI wr)] (zf [soW Z a N (ins N) (mvF N) (N 3), gW Z a (N 4) (N 5) (bkL N), pW Z a (N 6) (pkF N 0) (pkF N 1) (pkF N 2) (pkF N 3) (pkF N 4) (pkF N 5) (pkF N 6) (pkF N 7) (pkF N 8) (pkF N 9), rW Z b ef op ln nm qu qd]) (fun _ => zf [soW Z a N (ins N) (mvF N) (N 3), gW Z a (N 4) (N 5) (bkL N), pW Z a (N 6) (pkF N 0) (pkF N 1) (pkF N 2) (pkF N 3) (pkF N 4) (pkF N 5) (pkF N 6) (pkF N 7) (pkF N 8) (pkF N 9), rW Z b ef op ln nm qu qd]) (fun ρ _ => ρ = fsG N p wr) := by
  refine zI_of (C := RX5) (by decide +kernel) rfl (Nat.le_of_ble_eq_true rfl) (fun _ => True) znI (fun X ok fin => ?_)
  obtain ⟨w0, w1, w2, hc, hr, w6, wl, wp⟩ := id hw
  have hcr := cr_rng hc hr
  have wpp := wp p hp.1 hp.2
  have hmm := mm_rng hw hp
  have hef := hok.1.1
  refine z_lsub ok (lv' := [(0, .ref (a 0)), (1, .ref (b 0)), (2, .int (iI p)), (3, .int (iI wr))]) [0, 1, 2, 3] rfl ?_
  refine z_bipush ok dX5_firstSide_0 (by decide) ?_
  refine z_istore (lv' := [(4, .int (iI (-6))), (0, .ref (a 0)), (1, .ref (b 0)), (2, .int (iI p)), (3, .int (iI wr))]) ok dX5_firstSide_2 (by decide) rfl ?_
  refine z_aload_n ok dX5_firstSide_4 rfl ?_
  refine z_get (v := .ref (a 3)) ok zc5 0 rfl 2 (by decide) qf_RX5_25 rfl rfl dX5_firstSide_5 ?_
  refine z_get (v := .ref (a 6)) ok zc2 5 rfl 3 (by decide) qf_RX5_88 rfl rfl dX5_firstSide_8 ?_
  refine z_iload_n ok dX5_firstSide_11 rfl ?_
  refine z_iale (f := pkF N 2) (v := pk N p 2) ok 8 rfl rfl dX5_firstSide_12 (by omega) (by decide) ?_
  refine z_iconst ok dX5_firstSide_13 ?_
  refine z_icmp_ne (tgt := 20) ok dX5_firstSide_14 (by decide) (by omega) (by omega) (fun c14 => ?_) (fun c14 => ?_)
  · -- t
    refine z_aload_n ok dX5_firstSide_20 rfl ?_
    refine z_get (v := .ref (a 3)) ok zc5 0 rfl 2 (by decide) qf_RX5_25 rfl rfl dX5_firstSide_21 ?_
    refine z_get (v := .ref (a 7)) ok zc2 5 rfl 4 (by decide) qf_RX5_63 rfl rfl dX5_firstSide_24 ?_
    refine z_iload_n ok dX5_firstSide_27 rfl ?_
    refine z_iale (f := pkF N 3) (v := pk N p 3) ok 9 rfl rfl dX5_firstSide_28 (by omega) (by decide) ?_
    refine z_istore (lv' := [(5, .int (iI (pk N p 3))), (4, .int (iI (-6))), (0, .ref (a 0)), (1, .ref (b 0)), (2, .int (iI p)), (3, .int (iI wr))]) ok dX5_firstSide_29 (by decide) rfl ?_
    refine z_aload_n ok dX5_firstSide_31 rfl ?_
    refine z_iload_n ok dX5_firstSide_32 rfl ?_
    refine z_callVif ok (fun l => c_X5_mostMoves  (hw) (by omega)) zm_X5_mostMoves zv_X5_mostMoves qm_RX5_72 dX5_firstSide_33 (by decide) (by decide) rfl rfl (Nat.le_of_ble_eq_true rfl) (q0 := 0) rfl rfl rfl (L := [soW Z a N (ins N) (mvF N) (N 3), gW Z a (N 4) (N 5) (bkL N), pW Z a (N 6) (pkF N 0) (pkF N 1) (pkF N 2) (pkF N 3) (pkF N 4) (pkF N 5) (pkF N 6) (pkF N 7) (pkF N 8) (pkF N 9), rW Z b ef op ln nm qu qd]) (Lr := [rW Z b ef op ln nm qu qd]) [0, 1, 2, 3] [0, 1, 2, 3] rfl rfl (fun _ => rfl) (fun ρ _ hρ => ?_)
    subst hρ
    refine z_eq (ws' := zf [soW Z a N (ins N) (mvF N) (N 3), gW Z a (N 4) (N 5) (bkL N), pW Z a (N 6) (pkF N 0) (pkF N 1) (pkF N 2) (pkF N 3) (pkF N 4) (pkF N 5) (pkF N 6) (pkF N 7) (pkF N 8) (pkF N 9), rW Z b ef op ln nm qu qd]) rfl ?_
    refine z_istore (lv' := [(6, .int (iI (mm N p))), (5, .int (iI (pk N p 3))), (4, .int (iI (-6))), (0, .ref (a 0)), (1, .ref (b 0)), (2, .int (iI p)), (3, .int (iI wr))]) ok dX5_firstSide_36 (by decide) rfl ?_
    refine z_iconst ok dX5_firstSide_38 ?_
    refine z_istore (lv' := [(7, .int (iI 0)), (6, .int (iI (mm N p))), (5, .int (iI (pk N p 3))), (4, .int (iI (-6))), (0, .ref (a 0)), (1, .ref (b 0)), (2, .int (iI p)), (3, .int (iI wr))]) ok dX5_firstSide_39 (by decide) rfl ?_
    have L41 : ∀ (fuel : Nat) (sd f bd : Int), (0 ≤ sd) → (sd ≤ 4) → (fsI N (pk N p 1) (stg N p) (fun d => wr = 1 → rmP N p d) (mm N p) sd f bd) → (4 - sd).toNat < fuel → zV X 0 0 (zf [soW Z a N (ins N) (mvF N) (N 3), gW Z a (N 4) (N 5) (bkL N), pW Z a (N 6) (pkF N 0) (pkF N 1) (pkF N 2) (pkF N 3) (pkF N 4) (pkF N 5) (pkF N 6) (pkF N 7) (pkF N 8) (pkF N 9), rW Z b ef op ln nm qu qd]) 41 [(0, .ref (a 0)), (1, .ref (b 0)), (2, .int (iI p)), (3, .int (iI wr)), (4, .int (iI f)), (5, .int (iI (pk N p 3))), (6, .int (iI bd)), (7, .int (iI sd))] [] := by
      intro fuel
      induction fuel with
      | zero => intro sd f bd h41_0 h41_1 h41_2 hf; exact absurd hf (Nat.not_lt_zero _)
      | succ fuel ih41 =>
        intro sd f bd h41_0 h41_1 h41_2 hf
        have hfr := fsI_rng h41_2 hmm.1
        refine z_iload ok dX5_firstSide_41 rfl ?_
        refine z_iconst ok dX5_firstSide_43 ?_
        refine z_icmp_ge (tgt := 116) ok dX5_firstSide_44 (by decide) (by omega) (by omega) (fun c44 => ?_) (fun c44 => ?_)
        · -- t
          refine z_iload ok dX5_firstSide_116 rfl ?_
          exact fin f () 118 _ _ _ dX5_firstSide_118 (trivial) (by unfold fsG; rw [zif_f (by omega)]; exact fsI_end (by rw [show (4 : Int) = sd by omega]; exact h41_2)) (by decide) (by decide)
        · -- f
          obtain ⟨hl1, hl2, hl3, hl4⟩ := pss_laf (d := sd) hw hok hp (by omega)
          have hov := hok.1.2 (pk N p 3) sd (by omega) (by omega) (by omega) (by omega)
          have hor := oq_rng (b := pk N p 3) (d := sd) hw (by omega) (by omega)
          refine z_aload_n ok dX5_firstSide_47 rfl ?_
          refine z_iload ok dX5_firstSide_48 rfl ?_
          refine z_aload_n ok dX5_firstSide_50 rfl ?_
          refine z_get (v := .ref (a 3)) ok zc5 0 rfl 2 (by decide) qf_RX5_25 rfl rfl dX5_firstSide_51 ?_
          refine z_get (v := .ref (a 13)) ok zc2 5 rfl 10 (by decide) qf_RX5_66 rfl rfl dX5_firstSide_54 ?_
          refine z_iload_n ok dX5_firstSide_57 rfl ?_
          refine z_iale (f := pkF N 9) (v := pk N p 9) ok 15 rfl rfl dX5_firstSide_58 (by omega) (by decide) ?_
          refine z_iload ok dX5_firstSide_59 rfl ?_
          refine z_aload_n ok dX5_firstSide_61 rfl ?_
          refine z_get (v := .ref (a 3)) ok zc5 0 rfl 2 (by decide) qf_RX5_25 rfl rfl dX5_firstSide_62 ?_
          refine z_get (v := .ref (a 5)) ok zc2 5 rfl 2 (by decide) qf_RX5_69 rfl rfl dX5_firstSide_65 ?_
          refine z_iload_n ok dX5_firstSide_68 rfl ?_
          refine z_iale (f := pkF N 1) (v := pk N p 1) ok 7 rfl rfl dX5_firstSide_69 (by omega) (by decide) ?_
          refine z_callVif ok (fun l => c_X4_lengthAfter  (by omega) (by omega) (by omega) (by omega) (by omega) (by omega)) zm_X4_lengthAfter zv_X4_lengthAfter qm_RX5_84 dX5_firstSide_70 (by decide) (by decide) rfl rfl (Nat.le_of_ble_eq_true rfl) (q0 := 0) rfl rfl rfl (L := [soW Z a N (ins N) (mvF N) (N 3), gW Z a (N 4) (N 5) (bkL N), pW Z a (N 6) (pkF N 0) (pkF N 1) (pkF N 2) (pkF N 3) (pkF N 4) (pkF N 5) (pkF N 6) (pkF N 7) (pkF N 8) (pkF N 9), rW Z b ef op ln nm qu qd]) (Lr := [soW Z a N (ins N) (mvF N) (N 3), gW Z a (N 4) (N 5) (bkL N), pW Z a (N 6) (pkF N 0) (pkF N 1) (pkF N 2) (pkF N 3) (pkF N 4) (pkF N 5) (pkF N 6) (pkF N 7) (pkF N 8) (pkF N 9)]) [3, 0, 1, 2] [1, 2, 3, 0] rfl rfl (fun _ => rfl) (fun ρ _ hρ => ?_)
          subst hρ
          refine z_eq (ws' := zf [soW Z a N (ins N) (mvF N) (N 3), gW Z a (N 4) (N 5) (bkL N), pW Z a (N 6) (pkF N 0) (pkF N 1) (pkF N 2) (pkF N 3) (pkF N 4) (pkF N 5) (pkF N 6) (pkF N 7) (pkF N 8) (pkF N 9), rW Z b ef op ln nm qu qd]) rfl ?_
          refine z_istore (lv' := [(8, .int (iI (laf ef op ln (pk N p 3) (pk N p 9) sd (pk N p 1)))), (0, .ref (a 0)), (1, .ref (b 0)), (2, .int (iI p)), (3, .int (iI wr)), (4, .int (iI f)), (5, .int (iI (pk N p 3))), (6, .int (iI bd)), (7, .int (iI sd))]) ok dX5_firstSide_73 (by decide) rfl ?_
          refine z_iload ok dX5_firstSide_75 rfl ?_
          refine z_iload ok dX5_firstSide_77 rfl ?_
          refine z_icmp_ge (tgt := 110) ok dX5_firstSide_79 (by decide) (by omega) (by omega) (fun c79 => ?_) (fun c79 => ?_)
          · -- t
            have hfs := fsI_skip h41_2 hl1 hl2 (Or.inl (by omega))
            refine z_iinc (lv' := [(7, .int (iI (sd + 1))), (8, .int (iI (laf ef op ln (pk N p 3) (pk N p 9) sd (pk N p 1)))), (0, .ref (a 0)), (1, .ref (b 0)), (2, .int (iI p)), (3, .int (iI wr)), (4, .int (iI f)), (5, .int (iI (pk N p 3))), (6, .int (iI bd))]) ok dX5_firstSide_110 8 rfl (by decide) rfl ?_
            refine z_goto (tgt := 41) ok dX5_firstSide_113 (by decide) ?_
            refine z_lsub ok (lv' := [(0, .ref (a 0)), (1, .ref (b 0)), (2, .int (iI p)), (3, .int (iI wr)), (4, .int (iI f)), (5, .int (iI (pk N p 3))), (6, .int (iI bd)), (7, .int (iI (sd + 1)))]) [2, 3, 4, 5, 6, 7, 8, 0] rfl ?_
            exact ih41 _ _ _ (by omega) (by omega) (hfs) (by omega)
          · -- f
            refine z_iload_n ok dX5_firstSide_82 rfl ?_
            refine z_if_eq (tgt := 102) ok dX5_firstSide_83 (by decide) (by omega) (fun c83 => ?_) (fun c83 => ?_)
            · -- t
              have hfs := fsI_take h41_2 hl1 hl2 (by omega) (by omega) (fun z => absurd z (by omega))
              refine z_iload ok dX5_firstSide_102 rfl ?_
              refine z_istore (lv' := [(4, .int (iI sd)), (8, .int (iI (laf ef op ln (pk N p 3) (pk N p 9) sd (pk N p 1)))), (0, .ref (a 0)), (1, .ref (b 0)), (2, .int (iI p)), (3, .int (iI wr)), (5, .int (iI (pk N p 3))), (6, .int (iI bd)), (7, .int (iI sd))]) ok dX5_firstSide_104 (by decide) rfl ?_
              refine z_iload ok dX5_firstSide_106 rfl ?_
              refine z_istore (lv' := [(6, .int (iI (laf ef op ln (pk N p 3) (pk N p 9) sd (pk N p 1)))), (4, .int (iI sd)), (8, .int (iI (laf ef op ln (pk N p 3) (pk N p 9) sd (pk N p 1)))), (0, .ref (a 0)), (1, .ref (b 0)), (2, .int (iI p)), (3, .int (iI wr)), (5, .int (iI (pk N p 3))), (7, .int (iI sd))]) ok dX5_firstSide_108 (by decide) rfl ?_
              refine z_iinc (lv' := [(7, .int (iI (sd + 1))), (6, .int (iI (laf ef op ln (pk N p 3) (pk N p 9) sd (pk N p 1)))), (4, .int (iI sd)), (8, .int (iI (laf ef op ln (pk N p 3) (pk N p 9) sd (pk N p 1)))), (0, .ref (a 0)), (1, .ref (b 0)), (2, .int (iI p)), (3, .int (iI wr)), (5, .int (iI (pk N p 3)))]) ok dX5_firstSide_110 8 rfl (by decide) rfl ?_
              refine z_goto (tgt := 41) ok dX5_firstSide_113 (by decide) ?_
              refine z_lsub ok (lv' := [(0, .ref (a 0)), (1, .ref (b 0)), (2, .int (iI p)), (3, .int (iI wr)), (4, .int (iI sd)), (5, .int (iI (pk N p 3))), (6, .int (iI (laf ef op ln (pk N p 3) (pk N p 9) sd (pk N p 1)))), (7, .int (iI (sd + 1)))]) [4, 5, 6, 7, 2, 8, 1, 0] rfl ?_
              exact ih41 _ _ _ (by omega) (by omega) (hfs) (by omega)
            · -- f
              obtain ⟨hl5, hl6⟩ := hl4 (by omega)
              have hnr := nb_rng (b := pk N p 3) (d := sd) hw (by omega) (by omega)
              refine z_aload_n ok dX5_firstSide_86 rfl ?_
              refine z_iload_n ok dX5_firstSide_87 rfl ?_
              refine z_aload_n ok dX5_firstSide_88 rfl ?_
              refine z_iload ok dX5_firstSide_89 rfl ?_
              refine z_iload ok dX5_firstSide_91 rfl ?_
              refine z_callVif ok (fun l => c_X4_boxBehind  (by omega) (by omega)) zm_X4_boxBehind zv_X4_boxBehind qm_RX5_91 dX5_firstSide_93 (by decide) (by decide) rfl rfl (Nat.le_of_ble_eq_true rfl) (q0 := 0) rfl rfl rfl (L := [soW Z a N (ins N) (mvF N) (N 3), gW Z a (N 4) (N 5) (bkL N), pW Z a (N 6) (pkF N 0) (pkF N 1) (pkF N 2) (pkF N 3) (pkF N 4) (pkF N 5) (pkF N 6) (pkF N 7) (pkF N 8) (pkF N 9), rW Z b ef op ln nm qu qd]) (Lr := [soW Z a N (ins N) (mvF N) (N 3), gW Z a (N 4) (N 5) (bkL N), pW Z a (N 6) (pkF N 0) (pkF N 1) (pkF N 2) (pkF N 3) (pkF N 4) (pkF N 5) (pkF N 6) (pkF N 7) (pkF N 8) (pkF N 9)]) [3, 0, 1, 2] [1, 2, 3, 0] rfl rfl (fun _ => rfl) (fun ρ _ hρ => ?_)
              subst hρ
              refine z_eq (ws' := zf [soW Z a N (ins N) (mvF N) (N 3), gW Z a (N 4) (N 5) (bkL N), pW Z a (N 6) (pkF N 0) (pkF N 1) (pkF N 2) (pkF N 3) (pkF N 4) (pkF N 5) (pkF N 6) (pkF N 7) (pkF N 8) (pkF N 9), rW Z b ef op ln nm qu qd]) rfl ?_
              refine z_callVif ok (fun l => c_X5_letsIn  (hw) (by omega) (by omega)) zm_X5_letsIn zv_X5_letsIn qm_RX5_94 dX5_firstSide_96 (by decide) (by decide) rfl rfl (Nat.le_of_ble_eq_true rfl) (q0 := 0) rfl rfl rfl (L := [soW Z a N (ins N) (mvF N) (N 3), gW Z a (N 4) (N 5) (bkL N), pW Z a (N 6) (pkF N 0) (pkF N 1) (pkF N 2) (pkF N 3) (pkF N 4) (pkF N 5) (pkF N 6) (pkF N 7) (pkF N 8) (pkF N 9), rW Z b ef op ln nm qu qd]) (Lr := [gW Z a (N 4) (N 5) (bkL N), rW Z b ef op ln nm qu qd]) [0, 2, 1, 3] [0, 2, 1, 3] rfl rfl (fun _ => rfl) (fun ρ _ hρ => ?_)
              subst hρ
              refine z_eq (ws' := zf [soW Z a N (ins N) (mvF N) (N 3), gW Z a (N 4) (N 5) (bkL N), pW Z a (N 6) (pkF N 0) (pkF N 1) (pkF N 2) (pkF N 3) (pkF N 4) (pkF N 5) (pkF N 6) (pkF N 7) (pkF N 8) (pkF N 9), rW Z b ef op ln nm qu qd]) rfl ?_
              refine z_ifb_eq (tgt := 110) ok dX5_firstSide_99 (by decide) (fun c99 => ?_) (fun c99 => ?_)
              · -- t
                have hfs := fsI_skip h41_2 hl1 hl2 (Or.inr (fun z => c99 (by have z2 := z (by omega); unfold rmP at z2; rw [hl5]; exact z2)))
                refine z_iinc (lv' := [(7, .int (iI (sd + 1))), (8, .int (iI (laf ef op ln (pk N p 3) (pk N p 9) sd (pk N p 1)))), (0, .ref (a 0)), (1, .ref (b 0)), (2, .int (iI p)), (3, .int (iI wr)), (4, .int (iI f)), (5, .int (iI (pk N p 3))), (6, .int (iI bd))]) ok dX5_firstSide_110 8 rfl (by decide) rfl ?_
                refine z_goto (tgt := 41) ok dX5_firstSide_113 (by decide) ?_
                refine z_lsub ok (lv' := [(0, .ref (a 0)), (1, .ref (b 0)), (2, .int (iI p)), (3, .int (iI wr)), (4, .int (iI f)), (5, .int (iI (pk N p 3))), (6, .int (iI bd)), (7, .int (iI (sd + 1)))]) [2, 3, 4, 5, 6, 7, 8, 0] rfl ?_
                exact ih41 _ _ _ (by omega) (by omega) (hfs) (by omega)
              · -- f
                have hfs := fsI_take h41_2 hl1 hl2 (by omega) (by omega) (fun _ => by unfold rmP; rw [hl5] at c99; exact c99)
                refine z_iload ok dX5_firstSide_102 rfl ?_
                refine z_istore (lv' := [(4, .int (iI sd)), (8, .int (iI (laf ef op ln (pk N p 3) (pk N p 9) sd (pk N p 1)))), (0, .ref (a 0)), (1, .ref (b 0)), (2, .int (iI p)), (3, .int (iI wr)), (5, .int (iI (pk N p 3))), (6, .int (iI bd)), (7, .int (iI sd))]) ok dX5_firstSide_104 (by decide) rfl ?_
                refine z_iload ok dX5_firstSide_106 rfl ?_
                refine z_istore (lv' := [(6, .int (iI (laf ef op ln (pk N p 3) (pk N p 9) sd (pk N p 1)))), (4, .int (iI sd)), (8, .int (iI (laf ef op ln (pk N p 3) (pk N p 9) sd (pk N p 1)))), (0, .ref (a 0)), (1, .ref (b 0)), (2, .int (iI p)), (3, .int (iI wr)), (5, .int (iI (pk N p 3))), (7, .int (iI sd))]) ok dX5_firstSide_108 (by decide) rfl ?_
                refine z_iinc (lv' := [(7, .int (iI (sd + 1))), (6, .int (iI (laf ef op ln (pk N p 3) (pk N p 9) sd (pk N p 1)))), (4, .int (iI sd)), (8, .int (iI (laf ef op ln (pk N p 3) (pk N p 9) sd (pk N p 1)))), (0, .ref (a 0)), (1, .ref (b 0)), (2, .int (iI p)), (3, .int (iI wr)), (5, .int (iI (pk N p 3)))]) ok dX5_firstSide_110 8 rfl (by decide) rfl ?_
                refine z_goto (tgt := 41) ok dX5_firstSide_113 (by decide) ?_
                refine z_lsub ok (lv' := [(0, .ref (a 0)), (1, .ref (b 0)), (2, .int (iI p)), (3, .int (iI wr)), (4, .int (iI sd)), (5, .int (iI (pk N p 3))), (6, .int (iI (laf ef op ln (pk N p 3) (pk N p 9) sd (pk N p 1)))), (7, .int (iI (sd + 1)))]) [4, 5, 6, 7, 2, 8, 1, 0] rfl ?_
                exact ih41 _ _ _ (by omega) (by omega) (hfs) (by omega)
    refine z_lsub ok (lv' := [(0, .ref (a 0)), (1, .ref (b 0)), (2, .int (iI p)), (3, .int (iI wr)), (4, .int (iI (-6))), (5, .int (iI (pk N p 3))), (6, .int (iI (mm N p))), (7, .int (iI 0))]) [4, 5, 6, 7, 3, 2, 1, 0] rfl ?_
    exact L41 _ _ _ _ (by omega) (by omega) (fsI_0) (Nat.lt_succ_self _)
  · -- f
    refine z_iload ok dX5_firstSide_17 rfl ?_
    exact fin (-6) () 19 _ _ _ dX5_firstSide_19 (trivial) (by unfold fsG; exact (zif_t (by omega)).symm) (by decide) (by decide)
set_option maxRecDepth 20000 in
theorem c_X5_connectedPairs {l : Launch} {Z : zZ} {a : Nat → Nat} {N : Int → Int} {b : Nat → Nat} {ef : Int} {op ln nm qu : Int → Int} {qd : Int} (hw : wf N) (hok : rOK N ef op ln) : zI (T := Unit) l yX5_connectedPairs (Cond.code yX5_connectedPairs cX5_connectedPairs 6 (some .int) :: wsL_law) ({ frames := 3, cells := 0, slots := 0, locals := 69 } : Room) Z [.ref (a 0), .ref (b 0)] (zf [soW Z a N (ins N) (mvF N) (N 3), gW Z a (N 4) (N 5) (bkL N), rW Z b ef op ln nm qu qd]) (fun _ => zf [soW Z a N (ins N) (mvF N) (N 3), gW Z a (N 4) (N 5) (bkL N), rW Z b ef op ln nm qu qd]) (fun ρ _ => ρ = prs N) := by
  refine zI_of (C := RX5) (by decide +kernel) rfl (Nat.le_of_ble_eq_true rfl) (fun _ => True) znI (fun X ok fin => ?_)
  obtain ⟨w0, w1, w2, hc, hr, w6, wl, wp⟩ := id hw
  have hcr := cr_rng hc hr
  refine z_lsub ok (lv' := [(0, .ref (a 0)), (1, .ref (b 0))]) [0, 1] rfl ?_
  refine z_iconst ok dX5_connectedPairs_0 ?_
  refine z_istore_n (lv' := [(2, .int (iI 0)), (0, .ref (a 0)), (1, .ref (b 0))]) ok dX5_connectedPairs_1 (by decide) rfl ?_
  refine z_aload_n ok dX5_connectedPairs_2 rfl ?_
  refine z_get (v := .ref (a 2)) ok zc5 0 rfl 1 (by decide) qf_RX5_18 rfl rfl dX5_connectedPairs_3 ?_
  refine z_callVif ok (fun l => c_X0_boxes  ) zm_X0_boxes zv_X0_boxes qm_RX5_102 dX5_connectedPairs_6 (by decide) (by decide) rfl rfl (Nat.le_of_ble_eq_true rfl) (q0 := 0) rfl rfl rfl (L := [soW Z a N (ins N) (mvF N) (N 3), gW Z a (N 4) (N 5) (bkL N), rW Z b ef op ln nm qu qd]) (Lr := [soW Z a N (ins N) (mvF N) (N 3), rW Z b ef op ln nm qu qd]) [1, 0, 2] [1, 0, 2] rfl rfl (fun _ => rfl) (fun ρ _ hρ => ?_)
  subst hρ
  refine z_eq (ws' := zf [soW Z a N (ins N) (mvF N) (N 3), gW Z a (N 4) (N 5) (bkL N), rW Z b ef op ln nm qu qd]) rfl ?_
  refine z_istore_n (lv' := [(3, .int (iI (N 4 * N 5))), (2, .int (iI 0)), (0, .ref (a 0)), (1, .ref (b 0))]) ok dX5_connectedPairs_9 (by decide) rfl ?_
  refine z_iconst ok dX5_connectedPairs_10 ?_
  refine z_istore (lv' := [(4, .int (iI 0)), (3, .int (iI (N 4 * N 5))), (2, .int (iI 0)), (0, .ref (a 0)), (1, .ref (b 0))]) ok dX5_connectedPairs_11 (by decide) rfl ?_
  have L13 : ∀ (fuel : Nat) (x n : Int), (0 ≤ x) → (x ≤ N 4 * N 5) → (n = zS (prF N) x.toNat) → (N 4 * N 5 - x).toNat < fuel → zV X 0 0 (zf [soW Z a N (ins N) (mvF N) (N 3), gW Z a (N 4) (N 5) (bkL N), rW Z b ef op ln nm qu qd]) 13 [(0, .ref (a 0)), (1, .ref (b 0)), (2, .int (iI n)), (3, .int (iI (N 4 * N 5))), (4, .int (iI x))] [] := by
    intro fuel
    induction fuel with
    | zero => intro x n h13_0 h13_1 h13_2 hf; exact absurd hf (Nat.not_lt_zero _)
    | succ fuel ih13 =>
      intro x n h13_0 h13_1 h13_2 hf
      refine z_iload ok dX5_connectedPairs_13 rfl ?_
      refine z_iload_n ok dX5_connectedPairs_15 rfl ?_
      refine z_icmp_ge (tgt := 64) ok dX5_connectedPairs_16 (by decide) (by omega) (by omega) (fun c16 => ?_) (fun c16 => ?_)
      · -- t
        refine z_iload_n ok dX5_connectedPairs_64 rfl ?_
        exact fin n () 65 _ _ _ dX5_connectedPairs_65 (trivial) (by rw [h13_2, show x = N 4 * N 5 by omega]; rfl) (by decide) (by decide)
      · -- f
        refine z_iconst ok dX5_connectedPairs_19 ?_
        refine z_istore (lv' := [(5, .int (iI 0)), (0, .ref (a 0)), (1, .ref (b 0)), (2, .int (iI n)), (3, .int (iI (N 4 * N 5))), (4, .int (iI x))]) ok dX5_connectedPairs_20 (by decide) rfl ?_
        have L22 : ∀ (fuel : Nat) (y n2 : Int), (0 ≤ y) → (y ≤ N 4 * N 5) → (n2 = n + zS (prG N x) y.toNat) → (N 4 * N 5 - y).toNat < fuel → zV X 0 0 (zf [soW Z a N (ins N) (mvF N) (N 3), gW Z a (N 4) (N 5) (bkL N), rW Z b ef op ln nm qu qd]) 22 [(0, .ref (a 0)), (1, .ref (b 0)), (2, .int (iI n2)), (3, .int (iI (N 4 * N 5))), (4, .int (iI x)), (5, .int (iI y))] [] := by
          intro fuel
          induction fuel with
          | zero => intro y n2 h22_0 h22_1 h22_2 hf; exact absurd hf (Nat.not_lt_zero _)
          | succ fuel ih22 =>
            intro y n2 h22_0 h22_1 h22_2 hf
            refine z_iload ok dX5_connectedPairs_22 rfl ?_
            refine z_iload_n ok dX5_connectedPairs_24 rfl ?_
            refine z_icmp_ge (tgt := 58) ok dX5_connectedPairs_25 (by decide) (by omega) (by omega) (fun c25 => ?_) (fun c25 => ?_)
            · -- t
              refine z_iinc (lv' := [(4, .int (iI (x + 1))), (0, .ref (a 0)), (1, .ref (b 0)), (2, .int (iI n2)), (3, .int (iI (N 4 * N 5))), (5, .int (iI y))]) ok dX5_connectedPairs_58 4 rfl (by decide) rfl ?_
              refine z_goto (tgt := 13) ok dX5_connectedPairs_61 (by decide) ?_
              refine z_lsub ok (lv' := [(0, .ref (a 0)), (1, .ref (b 0)), (2, .int (iI n2)), (3, .int (iI (N 4 * N 5))), (4, .int (iI (x + 1)))]) [1, 2, 3, 4, 0] rfl ?_
              have hyy : y = N 4 * N 5 := by omega
              exact ih13 _ _ (by omega) (by omega) (by rw [zS_s (by omega), h22_2, hyy, h13_2]; rfl) (by omega)
            · -- f
              have hfr := fr_rng (to := y) (s := 10 * x) hw (by omega) (by omega)
              refine z_iload ok dX5_connectedPairs_28 rfl ?_
              refine z_iload ok dX5_connectedPairs_30 rfl ?_
              refine z_icmp_eq (tgt := 52) ok dX5_connectedPairs_32 (by decide) (by omega) (by omega) (fun c32 => ?_) (fun c32 => ?_)
              · -- t
                refine z_iinc (lv' := [(5, .int (iI (y + 1))), (0, .ref (a 0)), (1, .ref (b 0)), (2, .int (iI n2)), (3, .int (iI (N 4 * N 5))), (4, .int (iI x))]) ok dX5_connectedPairs_52 5 rfl (by decide) rfl ?_
                refine z_goto (tgt := 22) ok dX5_connectedPairs_55 (by decide) ?_
                refine z_lsub ok (lv' := [(0, .ref (a 0)), (1, .ref (b 0)), (2, .int (iI n2)), (3, .int (iI (N 4 * N 5))), (4, .int (iI x)), (5, .int (iI (y + 1)))]) [1, 2, 3, 4, 5, 0] rfl ?_
                exact ih22 _ _ (by omega) (by omega) (by rw [zS_s (by omega), h22_2]; first | (rw [show prG N x y = 1 from zb_t ⟨by omega, by omega⟩]; omega) | (rw [show prG N x y = 0 from zb_f (fun z => by have := z.1; have := z.2; omega)]; omega)) (by omega)
              · -- f
                refine z_aload_n ok dX5_connectedPairs_35 rfl ?_
                refine z_aload_n ok dX5_connectedPairs_36 rfl ?_
                refine z_iload ok dX5_connectedPairs_37 rfl ?_
                refine z_iload ok dX5_connectedPairs_39 rfl ?_
                refine z_callVi0 ok (fun l => c_X5_wayLength  (hw) (hok) (⟨by omega, by omega⟩) (⟨by omega, by omega⟩)) zm_X5_wayLength zv_X5_wayLength qm_RX5_106 dX5_connectedPairs_41 (by decide) (by decide) rfl rfl (Nat.le_of_ble_eq_true rfl) (q0 := 0) rfl rfl rfl (fun ρ _ hρ => ?_)
                subst hρ
                refine z_eq (ws' := zf [soW Z a N (ins N) (mvF N) (N 3), gW Z a (N 4) (N 5) (bkL N), rW Z b ef op ln nm qu qd]) rfl ?_
                refine z_bipush ok dX5_connectedPairs_44 (by decide) ?_
                refine z_icmp_eq (tgt := 52) ok dX5_connectedPairs_46 (by decide) (by omega) (by omega) (fun c46 => ?_) (fun c46 => ?_)
                · -- t
                  refine z_iinc (lv' := [(5, .int (iI (y + 1))), (0, .ref (a 0)), (1, .ref (b 0)), (2, .int (iI n2)), (3, .int (iI (N 4 * N 5))), (4, .int (iI x))]) ok dX5_connectedPairs_52 5 rfl (by decide) rfl ?_
                  refine z_goto (tgt := 22) ok dX5_connectedPairs_55 (by decide) ?_
                  refine z_lsub ok (lv' := [(0, .ref (a 0)), (1, .ref (b 0)), (2, .int (iI n2)), (3, .int (iI (N 4 * N 5))), (4, .int (iI x)), (5, .int (iI (y + 1)))]) [1, 2, 3, 4, 5, 0] rfl ?_
                  exact ih22 _ _ (by omega) (by omega) (by rw [zS_s (by omega), h22_2]; first | (rw [show prG N x y = 1 from zb_t ⟨by omega, by omega⟩]; omega) | (rw [show prG N x y = 0 from zb_f (fun z => by have := z.1; have := z.2; omega)]; omega)) (by omega)
                · -- f
                  refine z_iinc (lv' := [(2, .int (iI (n2 + 1))), (0, .ref (a 0)), (1, .ref (b 0)), (3, .int (iI (N 4 * N 5))), (4, .int (iI x)), (5, .int (iI y))]) ok dX5_connectedPairs_49 2 rfl (by decide) rfl ?_
                  refine z_iinc (lv' := [(5, .int (iI (y + 1))), (2, .int (iI (n2 + 1))), (0, .ref (a 0)), (1, .ref (b 0)), (3, .int (iI (N 4 * N 5))), (4, .int (iI x))]) ok dX5_connectedPairs_52 5 rfl (by decide) rfl ?_
                  refine z_goto (tgt := 22) ok dX5_connectedPairs_55 (by decide) ?_
                  refine z_lsub ok (lv' := [(0, .ref (a 0)), (1, .ref (b 0)), (2, .int (iI (n2 + 1))), (3, .int (iI (N 4 * N 5))), (4, .int (iI x)), (5, .int (iI (y + 1)))]) [2, 3, 1, 4, 5, 0] rfl ?_
                  exact ih22 _ _ (by omega) (by omega) (by rw [zS_s (by omega), h22_2]; first | (rw [show prG N x y = 1 from zb_t ⟨by omega, by omega⟩]; omega) | (rw [show prG N x y = 0 from zb_f (fun z => by have := z.1; have := z.2; omega)]; omega)) (by omega)
        refine z_lsub ok (lv' := [(0, .ref (a 0)), (1, .ref (b 0)), (2, .int (iI n)), (3, .int (iI (N 4 * N 5))), (4, .int (iI x)), (5, .int (iI 0))]) [1, 2, 3, 4, 5, 0] rfl ?_
        exact L22 _ _ _ (by omega) (by omega) (by show n = n + 0; omega) (Nat.lt_succ_self _)
  refine z_lsub ok (lv' := [(0, .ref (a 0)), (1, .ref (b 0)), (2, .int (iI 0)), (3, .int (iI (N 4 * N 5))), (4, .int (iI 0))]) [3, 4, 2, 1, 0] rfl ?_
  exact L13 _ _ _ (by omega) (by omega) (rfl) (Nat.lt_succ_self _)
