set_option maxRecDepth 20000 in
theorem c_X6_leastOfSetting {l : Launch} {Z : zZ} {i : Int} (hi : -2147483648 ≤ i ∧ i < 2147483648) : zI (T := Unit) l yX6_leastOfSetting (Cond.code yX6_leastOfSetting cX6_leastOfSetting 1 (some .int) :: wsL_law) ({ frames := 0, cells := 0, slots := 0, locals := 0 } : Room) Z [.int (iI i)] [] (fun _ => []) (fun ρ _ => ρ = (if i = 2 then 1 else 0)) := by
  refine zI_of (C := RX6) (by decide +kernel) rfl (Nat.le_of_ble_eq_true rfl) (fun _ => True) znI (fun X ok fin => ?_)
  refine z_lsub ok (lv' := [(0, .int (iI i))]) [0] rfl ?_
  refine z_iload_n ok dX6_leastOfSetting_0 rfl ?_
  refine z_iconst ok dX6_leastOfSetting_1 ?_
  refine z_icmp_ne (tgt := 9) ok dX6_leastOfSetting_2 (by decide) (by omega) (by omega) (fun c2 => ?_) (fun c2 => ?_)
  · -- t
    refine z_iconst ok dX6_leastOfSetting_9 ?_
    exact fin 0 () 10 _ _ _ dX6_leastOfSetting_10 (trivial) (by split <;> omega) (by decide) (by decide)
  · -- f
    refine z_iconst ok dX6_leastOfSetting_5 ?_
    refine z_goto (tgt := 10) ok dX6_leastOfSetting_6 (by decide) ?_
    exact fin 1 () 10 _ _ _ dX6_leastOfSetting_10 (trivial) (by split <;> omega) (by decide) (by decide)
set_option maxRecDepth 20000 in
theorem c_X6_mostOfSetting {l : Launch} {Z : zZ} {i : Int} (hi : -2147483648 ≤ i ∧ i < 2147483648) : zI (T := Unit) l yX6_mostOfSetting (Cond.code yX6_mostOfSetting cX6_mostOfSetting 1 (some .int) :: wsL_law) ({ frames := 0, cells := 0, slots := 0, locals := 0 } : Room) Z [.int (iI i)] [] (fun _ => []) (fun ρ _ => ρ = (if i = 0 then 1 else 4)) := by
  refine zI_of (C := RX6) (by decide +kernel) rfl (Nat.le_of_ble_eq_true rfl) (fun _ => True) znI (fun X ok fin => ?_)
  refine z_lsub ok (lv' := [(0, .int (iI i))]) [0] rfl ?_
  refine z_iload_n ok dX6_mostOfSetting_0 rfl ?_
  refine z_if_ne (tgt := 8) ok dX6_mostOfSetting_1 (by decide) (by omega) (fun c1 => ?_) (fun c1 => ?_)
  · -- t
    refine z_iconst ok dX6_mostOfSetting_8 ?_
    exact fin 4 () 9 _ _ _ dX6_mostOfSetting_9 (trivial) (by split <;> omega) (by decide) (by decide)
  · -- f
    refine z_iconst ok dX6_mostOfSetting_4 ?_
    refine z_goto (tgt := 9) ok dX6_mostOfSetting_5 (by decide) ?_
    exact fin 1 () 9 _ _ _ dX6_mostOfSetting_9 (trivial) (by split <;> omega) (by decide) (by decide)
set_option maxRecDepth 20000 in
theorem c_X6_isLine {l : Launch} {Z : zZ} {i : Int} (hi : -2147483648 ≤ i ∧ i < 2147483648) : zI (T := Unit) l yX6_isLine (Cond.code yX6_isLine cX6_isLine 1 (some .boolean) :: wsL_law) ({ frames := 0, cells := 0, slots := 0, locals := 0 } : Room) Z [.int (iI i)] [] (fun _ => []) (fun ρ _ => ρ = zb (2 ≤ i ∧ i ≤ 5)) := by
  refine zI_of (C := RX6) (by decide +kernel) rfl (Nat.le_of_ble_eq_true rfl) (fun ρ => ρ = 0 ∨ ρ = 1) znZ (fun X ok fin => ?_)
  refine z_lsub ok (lv' := [(0, .int (iI i))]) [0] rfl ?_
  refine z_iload_n ok dX6_isLine_0 rfl ?_
  refine z_iconst ok dX6_isLine_1 ?_
  refine z_icmp_lt (tgt := 14) ok dX6_isLine_2 (by decide) (by omega) (by omega) (fun c2 => ?_) (fun c2 => ?_)
  · -- t
    refine z_iconst ok dX6_isLine_14 ?_
    exact fin 0 () 15 _ _ _ dX6_isLine_15 (by first | decide | exact zb_01 _ | omega) (by first | exact (zb_t (by omega)).symm | exact (zb_f (by omega)).symm) (by decide) (by decide)
  · -- f
    refine z_iload_n ok dX6_isLine_5 rfl ?_
    refine z_iconst ok dX6_isLine_6 ?_
    refine z_icmp_gt (tgt := 14) ok dX6_isLine_7 (by decide) (by omega) (by omega) (fun c7 => ?_) (fun c7 => ?_)
    · -- t
      refine z_iconst ok dX6_isLine_14 ?_
      exact fin 0 () 15 _ _ _ dX6_isLine_15 (by first | decide | exact zb_01 _ | omega) (by first | exact (zb_t (by omega)).symm | exact (zb_f (by omega)).symm) (by decide) (by decide)
    · -- f
      refine z_iconst ok dX6_isLine_10 ?_
      refine z_goto (tgt := 15) ok dX6_isLine_11 (by decide) ?_
      exact fin 1 () 15 _ _ _ dX6_isLine_15 (by first | decide | exact zb_01 _ | omega) (by first | exact (zb_t (by omega)).symm | exact (zb_f (by omega)).symm) (by decide) (by decide)
set_option maxRecDepth 20000 in
theorem c_X6_isSide {l : Launch} {Z : zZ} {i : Int} (hi : -2147483648 ≤ i ∧ i < 2147483648) : zI (T := Unit) l yX6_isSide (Cond.code yX6_isSide cX6_isSide 1 (some .boolean) :: wsL_law) ({ frames := 0, cells := 0, slots := 0, locals := 0 } : Room) Z [.int (iI i)] [] (fun _ => []) (fun ρ _ => ρ = zb (0 ≤ i ∧ i ≤ 3)) := by
  refine zI_of (C := RX6) (by decide +kernel) rfl (Nat.le_of_ble_eq_true rfl) (fun ρ => ρ = 0 ∨ ρ = 1) znZ (fun X ok fin => ?_)
  refine z_lsub ok (lv' := [(0, .int (iI i))]) [0] rfl ?_
  refine z_iload_n ok dX6_isSide_0 rfl ?_
  refine z_if_lt (tgt := 13) ok dX6_isSide_1 (by decide) (by omega) (fun c1 => ?_) (fun c1 => ?_)
  · -- t
    refine z_iconst ok dX6_isSide_13 ?_
    exact fin 0 () 14 _ _ _ dX6_isSide_14 (by first | decide | exact zb_01 _ | omega) (by first | exact (zb_t (by omega)).symm | exact (zb_f (by omega)).symm) (by decide) (by decide)
  · -- f
    refine z_iload_n ok dX6_isSide_4 rfl ?_
    refine z_iconst ok dX6_isSide_5 ?_
    refine z_icmp_ge (tgt := 13) ok dX6_isSide_6 (by decide) (by omega) (by omega) (fun c6 => ?_) (fun c6 => ?_)
    · -- t
      refine z_iconst ok dX6_isSide_13 ?_
      exact fin 0 () 14 _ _ _ dX6_isSide_14 (by first | decide | exact zb_01 _ | omega) (by first | exact (zb_t (by omega)).symm | exact (zb_f (by omega)).symm) (by decide) (by decide)
    · -- f
      refine z_iconst ok dX6_isSide_9 ?_
      refine z_goto (tgt := 14) ok dX6_isSide_10 (by decide) ?_
      exact fin 1 () 14 _ _ _ dX6_isSide_14 (by first | decide | exact zb_01 _ | omega) (by first | exact (zb_t (by omega)).symm | exact (zb_f (by omega)).symm) (by decide) (by decide)
set_option maxRecDepth 20000 in
theorem c_X6_isTicks {l : Launch} {Z : zZ} {i : Int} (hi : -2147483648 ≤ i ∧ i < 2147483648) : zI (T := Unit) l yX6_isTicks (Cond.code yX6_isTicks cX6_isTicks 1 (some .boolean) :: wsL_law) ({ frames := 0, cells := 0, slots := 0, locals := 0 } : Room) Z [.int (iI i)] [] (fun _ => []) (fun ρ _ => ρ = zb (1 ≤ i ∧ i ≤ 300)) := by
  refine zI_of (C := RX6) (by decide +kernel) rfl (Nat.le_of_ble_eq_true rfl) (fun ρ => ρ = 0 ∨ ρ = 1) znZ (fun X ok fin => ?_)
  refine z_lsub ok (lv' := [(0, .int (iI i))]) [0] rfl ?_
  refine z_iload_n ok dX6_isTicks_0 rfl ?_
  refine z_iconst ok dX6_isTicks_1 ?_
  refine z_icmp_lt (tgt := 16) ok dX6_isTicks_2 (by decide) (by omega) (by omega) (fun c2 => ?_) (fun c2 => ?_)
  · -- t
    refine z_iconst ok dX6_isTicks_16 ?_
    exact fin 0 () 17 _ _ _ dX6_isTicks_17 (by first | decide | exact zb_01 _ | omega) (by first | exact (zb_t (by omega)).symm | exact (zb_f (by omega)).symm) (by decide) (by decide)
  · -- f
    refine z_iload_n ok dX6_isTicks_5 rfl ?_
    refine z_sipush ok dX6_isTicks_6 (by decide) ?_
    refine z_icmp_gt (tgt := 16) ok dX6_isTicks_9 (by decide) (by omega) (by omega) (fun c9 => ?_) (fun c9 => ?_)
    · -- t
      refine z_iconst ok dX6_isTicks_16 ?_
      exact fin 0 () 17 _ _ _ dX6_isTicks_17 (by first | decide | exact zb_01 _ | omega) (by first | exact (zb_t (by omega)).symm | exact (zb_f (by omega)).symm) (by decide) (by decide)
    · -- f
      refine z_iconst ok dX6_isTicks_12 ?_
      refine z_goto (tgt := 17) ok dX6_isTicks_13 (by decide) ?_
      exact fin 1 () 17 _ _ _ dX6_isTicks_17 (by first | decide | exact zb_01 _ | omega) (by first | exact (zb_t (by omega)).symm | exact (zb_f (by omega)).symm) (by decide) (by decide)
set_option maxRecDepth 20000 in
theorem c_X6_linkError {l : Launch} {Z : zZ} {x a b a3 b4 c e : Nat → Nat} {und : Int} {hs ss : List Nat} {us : Int → Int} {N : Int → Int} {bb d w : Int} (hw : wf N) (hb : -2147483648 ≤ bb ∧ bb < 2147483648) (hd : -2147483648 ≤ d ∧ d < 2147483648) (hww : -2147483648 ≤ w ∧ w < 2147483648) : zI (T := Unit) l yX6_linkError (Cond.code yX6_linkError cX6_linkError 4 (some .int) :: wsL_law) ({ frames := 1, cells := 0, slots := 0, locals := 24 } : Room) Z [.ref (x 0), .int (iI bb), .int (iI d), .int (iI w)] (zf [soW Z a N (ins N) (mvF N) (N 3), gW Z a (N 4) (N 5) (bkL N), xW Z x (a 0) (b 0) (a3 0) (b4 0) (c 0) (e 0) und hs ss us]) (fun _ => zf [soW Z a N (ins N) (mvF N) (N 3), gW Z a (N 4) (N 5) (bkL N), xW Z x (a 0) (b 0) (a3 0) (b4 0) (c 0) (e 0) und hs ss us]) (fun ρ _ => ρ = lkE N bb d w) := by
  refine zI_of (C := RX6) (by decide +kernel) rfl (Nat.le_of_ble_eq_true rfl) (fun _ => True) znI (fun X ok fin => ?_)
  obtain ⟨w0, w1, w2, hc, hr, w6, wl, wp⟩ := id hw
  have hcr := cr_rng hc hr
  refine z_lsub ok (lv' := [(0, .ref (x 0)), (1, .int (iI bb)), (2, .int (iI d)), (3, .int (iI w))]) [0, 1, 2, 3] rfl ?_
  refine z_aload_n ok dX6_linkError_0 rfl ?_
  refine z_get (v := .ref (a 0)) ok zc6 5 rfl 0 (by decide) qf_RX6_12 rfl rfl dX6_linkError_1 ?_
  refine z_get (v := .ref (a 2)) ok zc5 0 rfl 1 (by decide) qf_RX6_88 rfl rfl dX6_linkError_4 ?_
  refine z_iload_n ok dX6_linkError_7 rfl ?_
  refine z_callVif ok (fun l => c_X0_has  (by omega) (by omega) (by omega)) zm_X0_has zv_X0_has qm_RX6_171 dX6_linkError_8 (by decide) (by decide) rfl rfl (Nat.le_of_ble_eq_true rfl) (q0 := 0) rfl rfl rfl (L := [soW Z a N (ins N) (mvF N) (N 3), gW Z a (N 4) (N 5) (bkL N), xW Z x (a 0) (b 0) (a3 0) (b4 0) (c 0) (e 0) und hs ss us]) (Lr := [soW Z a N (ins N) (mvF N) (N 3), xW Z x (a 0) (b 0) (a3 0) (b4 0) (c 0) (e 0) und hs ss us]) [1, 0, 2] [1, 0, 2] rfl rfl (fun _ => rfl) (fun ρ _ hρ => ?_)
  subst hρ
  refine z_eq (ws' := zf [soW Z a N (ins N) (mvF N) (N 3), gW Z a (N 4) (N 5) (bkL N), xW Z x (a 0) (b 0) (a3 0) (b4 0) (c 0) (e 0) und hs ss us]) rfl ?_
  refine z_ifb_ne (tgt := 16) ok dX6_linkError_11 (by decide) (fun c11 => ?_) (fun c11 => ?_)
  · -- t
    refine z_iload_n ok dX6_linkError_16 rfl ?_
    refine z_callSie ok (fun l => c_X6_isSide  (by omega)) zm_X6_isSide qt_X6_isSide qm_RX6_251 dX6_linkError_17 (by decide) (by decide) rfl rfl (Nat.le_of_ble_eq_true rfl) (fun ρ _ hρ => ?_)
    subst hρ
    refine z_ifb_eq (tgt := 41) ok dX6_linkError_20 (by decide) (fun c20 => ?_) (fun c20 => ?_)
    · -- t
      refine z_iload_n ok dX6_linkError_41 rfl ?_
      refine z_callSie ok (fun l => c_X6_isSide  (by omega)) zm_X6_isSide qt_X6_isSide qm_RX6_251 dX6_linkError_42 (by decide) (by decide) rfl rfl (Nat.le_of_ble_eq_true rfl) (fun ρ _ hρ => ?_)
      subst hρ
      refine z_ifb_eq (tgt := 61) ok dX6_linkError_45 (by decide) (fun c45 => ?_) (fun c45 => ?_)
      · -- t
        refine z_bipush ok dX6_linkError_61 (by decide) ?_
        have hnbad : ¬ badK N bb d := fun z => by rcases z with z | z; exact z c11; omega
        exact fin (-2) () 63 _ _ _ dX6_linkError_63 (trivial) (by unfold lkE; rw [zif_f hnbad]; first | (rw [zif_t (by omega)]; done) | (rw [zif_f (by omega)]; done)) (by decide) (by decide)
      · -- f
        exact absurd c45 c20
    · -- f
      have hnb := nb_rng (b := bb) (d := d) hw (by unfold isB at c11; exact c11) (by omega)
      refine z_aload_n ok dX6_linkError_23 rfl ?_
      refine z_get (v := .ref (a 0)) ok zc6 5 rfl 0 (by decide) qf_RX6_12 rfl rfl dX6_linkError_24 ?_
      refine z_get (v := .ref (a 2)) ok zc5 0 rfl 1 (by decide) qf_RX6_88 rfl rfl dX6_linkError_27 ?_
      refine z_iload_n ok dX6_linkError_30 rfl ?_
      refine z_iload_n ok dX6_linkError_31 rfl ?_
      refine z_callVif ok (fun l => c_X0_beside  (hc) (hr) (by unfold isB at c11; exact c11) (by omega)) zm_X0_beside zv_X0_beside qm_RX6_254 dX6_linkError_32 (by decide) (by decide) rfl rfl (Nat.le_of_ble_eq_true rfl) (q0 := 0) rfl rfl rfl (L := [soW Z a N (ins N) (mvF N) (N 3), gW Z a (N 4) (N 5) (bkL N), xW Z x (a 0) (b 0) (a3 0) (b4 0) (c 0) (e 0) und hs ss us]) (Lr := [soW Z a N (ins N) (mvF N) (N 3), xW Z x (a 0) (b 0) (a3 0) (b4 0) (c 0) (e 0) und hs ss us]) [1, 0, 2] [1, 0, 2] rfl rfl (fun _ => rfl) (fun ρ _ hρ => ?_)
      subst hρ
      refine z_eq (ws' := zf [soW Z a N (ins N) (mvF N) (N 3), gW Z a (N 4) (N 5) (bkL N), xW Z x (a 0) (b 0) (a3 0) (b4 0) (c 0) (e 0) und hs ss us]) rfl ?_
      refine z_iconst ok dX6_linkError_35 ?_
      refine z_icmp_ne (tgt := 41) ok dX6_linkError_36 (by decide) (by omega) (by omega) (fun c36 => ?_) (fun c36 => ?_)
      · -- t
        refine z_iload_n ok dX6_linkError_41 rfl ?_
        refine z_callSie ok (fun l => c_X6_isSide  (by omega)) zm_X6_isSide qt_X6_isSide qm_RX6_251 dX6_linkError_42 (by decide) (by decide) rfl rfl (Nat.le_of_ble_eq_true rfl) (fun ρ _ hρ => ?_)
        subst hρ
        refine z_ifb_eq (tgt := 61) ok dX6_linkError_45 (by decide) (fun c45 => ?_) (fun c45 => ?_)
        · -- t
          exact absurd c20 c45
        · -- f
          refine z_iload_n ok dX6_linkError_48 rfl ?_
          refine z_if_eq (tgt := 57) ok dX6_linkError_49 (by decide) (by omega) (fun c49 => ?_) (fun c49 => ?_)
          · -- t
            refine z_iconst ok dX6_linkError_57 ?_
            refine z_goto (tgt := 63) ok dX6_linkError_58 (by decide) ?_
            have hnbad : ¬ badK N bb d := fun z => by rcases z with z | z; exact z c11; omega
            exact fin 0 () 63 _ _ _ dX6_linkError_63 (trivial) (by unfold lkE; rw [zif_f hnbad]; first | (rw [zif_t (by omega)]; done) | (rw [zif_f (by omega)]; done)) (by decide) (by decide)
          · -- f
            refine z_iload_n ok dX6_linkError_52 rfl ?_
            refine z_iconst ok dX6_linkError_53 ?_
            refine z_icmp_ne (tgt := 61) ok dX6_linkError_54 (by decide) (by omega) (by omega) (fun c54 => ?_) (fun c54 => ?_)
            · -- t
              refine z_bipush ok dX6_linkError_61 (by decide) ?_
              have hnbad : ¬ badK N bb d := fun z => by rcases z with z | z; exact z c11; omega
              exact fin (-2) () 63 _ _ _ dX6_linkError_63 (trivial) (by unfold lkE; rw [zif_f hnbad]; first | (rw [zif_t (by omega)]; done) | (rw [zif_f (by omega)]; done)) (by decide) (by decide)
            · -- f
              refine z_iconst ok dX6_linkError_57 ?_
              refine z_goto (tgt := 63) ok dX6_linkError_58 (by decide) ?_
              have hnbad : ¬ badK N bb d := fun z => by rcases z with z | z; exact z c11; omega
              exact fin 0 () 63 _ _ _ dX6_linkError_63 (trivial) (by unfold lkE; rw [zif_f hnbad]; first | (rw [zif_t (by omega)]; done) | (rw [zif_f (by omega)]; done)) (by decide) (by decide)
      · -- f
        refine z_iconst ok dX6_linkError_39 ?_
        exact fin (-1) () 40 _ _ _ dX6_linkError_40 (trivial) (by unfold lkE; exact (zif_t (Or.inr ⟨by omega, by omega, by omega⟩)).symm) (by decide) (by decide)
  · -- f
    refine z_iconst ok dX6_linkError_14 ?_
    exact fin (-1) () 15 _ _ _ dX6_linkError_15 (trivial) (by unfold lkE; exact (zif_t (Or.inl c11)).symm) (by decide) (by decide)
set_option maxRecDepth 20000 in
theorem c_X6_sendError {l : Launch} {Z : zZ} {x a b a3 b4 c e : Nat → Nat} {und : Int} {hs ss : List Nat} {us : Int → Int} {N : Int → Int} {ef : Int} {op ln nm qu : Int → Int} {qd : Int} {f t : Int} (hw : wf N) (hok : rOK N ef op ln) (hf : -2147483648 ≤ f ∧ f < 2147483648) (ht : -2147483648 ≤ t ∧ t < 2147483648) : zI (T := Unit) l yX6_sendError (Cond.code yX6_sendError cX6_sendError 3 (some .int) :: wsL_law) ({ frames := 3, cells := 0, slots := 0, locals := 69 } : Room) Z [.ref (x 0), .int (iI f), .int (iI t)] (zf [soW Z a N (ins N) (mvF N) (N 3), gW Z a (N 4) (N 5) (bkL N), pW Z a (N 6) (pkF N 0) (pkF N 1) (pkF N 2) (pkF N 3) (pkF N 4) (pkF N 5) (pkF N 6) (pkF N 7) (pkF N 8) (pkF N 9), xW Z x (a 0) (b 0) (a3 0) (b4 0) (c 0) (e 0) und hs ss us, rW Z b ef op ln nm qu qd]) (fun _ => zf [soW Z a N (ins N) (mvF N) (N 3), gW Z a (N 4) (N 5) (bkL N), pW Z a (N 6) (pkF N 0) (pkF N 1) (pkF N 2) (pkF N 3) (pkF N 4) (pkF N 5) (pkF N 6) (pkF N 7) (pkF N 8) (pkF N 9), xW Z x (a 0) (b 0) (a3 0) (b4 0) (c 0) (e 0) und hs ss us, rW Z b ef op ln nm qu qd]) (fun ρ _ => ρ = sndE N f t) := by
  refine zI_of (C := RX6) (by decide +kernel) rfl (Nat.le_of_ble_eq_true rfl) (fun _ => True) znI (fun X ok fin => ?_)
  obtain ⟨w0, w1, w2, hc, hr, w6, wl, wp⟩ := id hw
  have hcr := cr_rng hc hr
  refine z_lsub ok (lv' := [(0, .ref (x 0)), (1, .int (iI f)), (2, .int (iI t))]) [0, 1, 2] rfl ?_
  refine z_aload_n ok dX6_sendError_0 rfl ?_
  refine z_get (v := .ref (a 0)) ok zc6 16 rfl 0 (by decide) qf_RX6_12 rfl rfl dX6_sendError_1 ?_
  refine z_get (v := .ref (a 2)) ok zc5 0 rfl 1 (by decide) qf_RX6_88 rfl rfl dX6_sendError_4 ?_
  refine z_iload_n ok dX6_sendError_7 rfl ?_
  refine z_callVif ok (fun l => c_X0_has  (by omega) (by omega) (by omega)) zm_X0_has zv_X0_has qm_RX6_171 dX6_sendError_8 (by decide) (by decide) rfl rfl (Nat.le_of_ble_eq_true rfl) (q0 := 0) rfl rfl rfl (L := [soW Z a N (ins N) (mvF N) (N 3), gW Z a (N 4) (N 5) (bkL N), pW Z a (N 6) (pkF N 0) (pkF N 1) (pkF N 2) (pkF N 3) (pkF N 4) (pkF N 5) (pkF N 6) (pkF N 7) (pkF N 8) (pkF N 9), xW Z x (a 0) (b 0) (a3 0) (b4 0) (c 0) (e 0) und hs ss us, rW Z b ef op ln nm qu qd]) (Lr := [soW Z a N (ins N) (mvF N) (N 3), pW Z a (N 6) (pkF N 0) (pkF N 1) (pkF N 2) (pkF N 3) (pkF N 4) (pkF N 5) (pkF N 6) (pkF N 7) (pkF N 8) (pkF N 9), xW Z x (a 0) (b 0) (a3 0) (b4 0) (c 0) (e 0) und hs ss us, rW Z b ef op ln nm qu qd]) [1, 0, 2, 3, 4] [1, 0, 2, 3, 4] rfl rfl (fun _ => rfl) (fun ρ _ hρ => ?_)
  subst hρ
  refine z_eq (ws' := zf [soW Z a N (ins N) (mvF N) (N 3), gW Z a (N 4) (N 5) (bkL N), pW Z a (N 6) (pkF N 0) (pkF N 1) (pkF N 2) (pkF N 3) (pkF N 4) (pkF N 5) (pkF N 6) (pkF N 7) (pkF N 8) (pkF N 9), xW Z x (a 0) (b 0) (a3 0) (b4 0) (c 0) (e 0) und hs ss us, rW Z b ef op ln nm qu qd]) rfl ?_
  refine z_ifb_eq (tgt := 33) ok dX6_sendError_11 (by decide) (fun c11 => ?_) (fun c11 => ?_)
  · -- t
    refine z_iconst ok dX6_sendError_33 ?_
    exact fin (-1) () 34 _ _ _ dX6_sendError_34 (trivial) (by unfold sndE; exact (zif_f (fun z => by first | exact c11 z.1 | exact c25 z.2.1 | exact z.2.2 c30)).symm) (by decide) (by decide)
  · -- f
    refine z_aload_n ok dX6_sendError_14 rfl ?_
    refine z_get (v := .ref (a 0)) ok zc6 16 rfl 0 (by decide) qf_RX6_12 rfl rfl dX6_sendError_15 ?_
    refine z_get (v := .ref (a 2)) ok zc5 0 rfl 1 (by decide) qf_RX6_88 rfl rfl dX6_sendError_18 ?_
    refine z_iload_n ok dX6_sendError_21 rfl ?_
    refine z_callVif ok (fun l => c_X0_has  (by omega) (by omega) (by omega)) zm_X0_has zv_X0_has qm_RX6_171 dX6_sendError_22 (by decide) (by decide) rfl rfl (Nat.le_of_ble_eq_true rfl) (q0 := 0) rfl rfl rfl (L := [soW Z a N (ins N) (mvF N) (N 3), gW Z a (N 4) (N 5) (bkL N), pW Z a (N 6) (pkF N 0) (pkF N 1) (pkF N 2) (pkF N 3) (pkF N 4) (pkF N 5) (pkF N 6) (pkF N 7) (pkF N 8) (pkF N 9), xW Z x (a 0) (b 0) (a3 0) (b4 0) (c 0) (e 0) und hs ss us, rW Z b ef op ln nm qu qd]) (Lr := [soW Z a N (ins N) (mvF N) (N 3), pW Z a (N 6) (pkF N 0) (pkF N 1) (pkF N 2) (pkF N 3) (pkF N 4) (pkF N 5) (pkF N 6) (pkF N 7) (pkF N 8) (pkF N 9), xW Z x (a 0) (b 0) (a3 0) (b4 0) (c 0) (e 0) und hs ss us, rW Z b ef op ln nm qu qd]) [1, 0, 2, 3, 4] [1, 0, 2, 3, 4] rfl rfl (fun _ => rfl) (fun ρ _ hρ => ?_)
    subst hρ
    refine z_eq (ws' := zf [soW Z a N (ins N) (mvF N) (N 3), gW Z a (N 4) (N 5) (bkL N), pW Z a (N 6) (pkF N 0) (pkF N 1) (pkF N 2) (pkF N 3) (pkF N 4) (pkF N 5) (pkF N 6) (pkF N 7) (pkF N 8) (pkF N 9), xW Z x (a 0) (b 0) (a3 0) (b4 0) (c 0) (e 0) und hs ss us, rW Z b ef op ln nm qu qd]) rfl ?_
    refine z_ifb_eq (tgt := 33) ok dX6_sendError_25 (by decide) (fun c25 => ?_) (fun c25 => ?_)
    · -- t
      refine z_iconst ok dX6_sendError_33 ?_
      exact fin (-1) () 34 _ _ _ dX6_sendError_34 (trivial) (by unfold sndE; exact (zif_f (fun z => by first | exact c11 z.1 | exact c25 z.2.1 | exact z.2.2 c30)).symm) (by decide) (by decide)
    · -- f
      refine z_iload_n ok dX6_sendError_28 rfl ?_
      refine z_iload_n ok dX6_sendError_29 rfl ?_
      refine z_icmp_ne (tgt := 35) ok dX6_sendError_30 (by decide) (by omega) (by omega) (fun c30 => ?_) (fun c30 => ?_)
      · -- t
        refine z_aload_n ok dX6_sendError_35 rfl ?_
        refine z_get (v := .ref (a 0)) ok zc6 16 rfl 0 (by decide) qf_RX6_12 rfl rfl dX6_sendError_36 ?_
        refine z_get (v := .ref (a 3)) ok zc5 0 rfl 2 (by decide) qf_RX6_79 rfl rfl dX6_sendError_39 ?_
        refine z_get (v := .int (iI (N 6))) ok zc2 5 rfl 0 (by decide) qf_RX6_83 rfl rfl dX6_sendError_42 ?_
        refine z_bipush ok dX6_sendError_45 (by decide) ?_
        refine z_icmp_lt (tgt := 53) ok dX6_sendError_47 (by decide) (by omega) (by omega) (fun c47 => ?_) (fun c47 => ?_)
        · -- t
          have hcb := c11
          have hcb2 := c25
          unfold isB at hcb hcb2
          have hfr := fr_rng (to := t) (s := 10 * f) hw (by omega) (by omega)
          refine z_aload_n ok dX6_sendError_53 rfl ?_
          refine z_get (v := .ref (a 0)) ok zc6 16 rfl 0 (by decide) qf_RX6_12 rfl rfl dX6_sendError_54 ?_
          refine z_aload_n ok dX6_sendError_57 rfl ?_
          refine z_get (v := .ref (b 0)) ok zc6 16 rfl 1 (by decide) qf_RX6_19 rfl rfl dX6_sendError_58 ?_
          refine z_iload_n ok dX6_sendError_61 rfl ?_
          refine z_iload_n ok dX6_sendError_62 rfl ?_
          refine z_callVif ok (fun l => c_X5_wayLength  (hw) (hok) (c11) (c25)) zm_X5_wayLength zv_X5_wayLength qm_RX6_201 dX6_sendError_63 (by decide) (by decide) rfl rfl (Nat.le_of_ble_eq_true rfl) (q0 := 0) rfl rfl rfl (L := [soW Z a N (ins N) (mvF N) (N 3), gW Z a (N 4) (N 5) (bkL N), pW Z a (N 6) (pkF N 0) (pkF N 1) (pkF N 2) (pkF N 3) (pkF N 4) (pkF N 5) (pkF N 6) (pkF N 7) (pkF N 8) (pkF N 9), xW Z x (a 0) (b 0) (a3 0) (b4 0) (c 0) (e 0) und hs ss us, rW Z b ef op ln nm qu qd]) (Lr := [pW Z a (N 6) (pkF N 0) (pkF N 1) (pkF N 2) (pkF N 3) (pkF N 4) (pkF N 5) (pkF N 6) (pkF N 7) (pkF N 8) (pkF N 9), xW Z x (a 0) (b 0) (a3 0) (b4 0) (c 0) (e 0) und hs ss us]) [0, 1, 4, 2, 3] [0, 1, 3, 4, 2] rfl rfl (fun _ => rfl) (fun ρ _ hρ => ?_)
          subst hρ
          refine z_eq (ws' := zf [soW Z a N (ins N) (mvF N) (N 3), gW Z a (N 4) (N 5) (bkL N), pW Z a (N 6) (pkF N 0) (pkF N 1) (pkF N 2) (pkF N 3) (pkF N 4) (pkF N 5) (pkF N 6) (pkF N 7) (pkF N 8) (pkF N 9), xW Z x (a 0) (b 0) (a3 0) (b4 0) (c 0) (e 0) und hs ss us, rW Z b ef op ln nm qu qd]) rfl ?_
          refine z_bipush ok dX6_sendError_66 (by decide) ?_
          refine z_icmp_ne (tgt := 76) ok dX6_sendError_68 (by decide) (by omega) (by omega) (fun c68 => ?_) (fun c68 => ?_)
          · -- t
            refine z_iconst ok dX6_sendError_76 ?_
            exact fin 0 () 77 _ _ _ dX6_sendError_77 (trivial) (by unfold sndE; rw [zif_t ⟨c11, c25, c30⟩, zif_f (by omega)]; first | (rw [zif_t (by omega)]; done) | (rw [zif_f (by omega)]; done)) (by decide) (by decide)
          · -- f
            refine z_bipush ok dX6_sendError_71 (by decide) ?_
            refine z_goto (tgt := 77) ok dX6_sendError_73 (by decide) ?_
            exact fin (-5) () 77 _ _ _ dX6_sendError_77 (trivial) (by unfold sndE; rw [zif_t ⟨c11, c25, c30⟩, zif_f (by omega)]; first | (rw [zif_t (by omega)]; done) | (rw [zif_f (by omega)]; done)) (by decide) (by decide)
        · -- f
          refine z_bipush ok dX6_sendError_50 (by decide) ?_
          exact fin (-4) () 52 _ _ _ dX6_sendError_52 (trivial) (by unfold sndE; rw [zif_t ⟨c11, c25, c30⟩, zif_t (by omega)]) (by decide) (by decide)
      · -- f
        refine z_iconst ok dX6_sendError_33 ?_
        exact fin (-1) () 34 _ _ _ dX6_sendError_34 (trivial) (by unfold sndE; exact (zif_f (fun z => by first | exact c11 z.1 | exact c25 z.2.1 | exact z.2.2 c30)).symm) (by decide) (by decide)
set_option maxRecDepth 20000 in
theorem c_X6_learnRoutes {l : Launch} {Z : zZ} {x a b a3 b4 c e : Nat → Nat} {und : Int} {hs ss : List Nat} {us : Int → Int} {N : Int → Int} {ef : Int} {op ln nm qu : Int → Int} {qd : Int} (hw : wf N) : zN (T := (Int × (Int → Int)) × (Int → Int) × (Int → Int) × (Int → Int) × Int) l yX6_learnRoutes (Cond.code yX6_learnRoutes cX6_learnRoutes 1 none :: wsL_law) ({ frames := 4, cells := 0, slots := 0, locals := 102 } : Room) Z [.ref (x 0)] (zf [soW Z a N (ins N) (mvF N) (N 3), gW Z a (N 4) (N 5) (bkL N), pW Z a (N 6) (pkF N 0) (pkF N 1) (pkF N 2) (pkF N 3) (pkF N 4) (pkF N 5) (pkF N 6) (pkF N 7) (pkF N 8) (pkF N 9), xW Z x (a 0) (b 0) (a3 0) (b4 0) (c 0) (e 0) und hs ss us, rW Z b ef op ln nm qu qd]) (fun u => zf (sL Z a N [xW Z x (a 0) (b 0) (a3 0) (b4 0) (c 0) (e 0) und hs ss us, rW Z b u.1.1 u.1.2 u.2.1 u.2.2.1 u.2.2.2.1 u.2.2.2.2])) (fun u => rOK N u.1.1 u.1.2 u.2.1) := by
  refine zN_of (C := RX6) (by decide +kernel) rfl (Nat.le_of_ble_eq_true rfl) (fun X ok fin => ?_)
  refine z_lsub ok (lv' := [(0, .ref (x 0))]) [0] rfl ?_
  refine z_aload_n ok dX6_learnRoutes_0 rfl ?_
  refine z_get (v := .ref (b 0)) ok zc6 16 rfl 1 (by decide) qf_RX6_19 rfl rfl dX6_learnRoutes_1 ?_
  refine z_aload_n ok dX6_learnRoutes_4 rfl ?_
  refine z_get (v := .ref (a 0)) ok zc6 16 rfl 0 (by decide) qf_RX6_12 rfl rfl dX6_learnRoutes_5 ?_
  refine z_get (v := .ref (a 2)) ok zc5 0 rfl 1 (by decide) qf_RX6_88 rfl rfl dX6_learnRoutes_8 ?_
  refine z_aload_n ok dX6_learnRoutes_11 rfl ?_
  refine z_get (v := .ref (a 0)) ok zc6 16 rfl 0 (by decide) qf_RX6_12 rfl rfl dX6_learnRoutes_12 ?_
  refine z_get (v := .ref (a 1)) ok zc5 0 rfl 0 (by decide) qf_RX6_71 rfl rfl dX6_learnRoutes_15 ?_
  refine z_iconst ok dX6_learnRoutes_18 ?_
  refine z_iald (f := N) ok 1 rfl dX6_learnRoutes_19 (by omega) (by decide) ?_
  refine z_callVvf ok (fun l => c_X4_learn  (hw)) zm_X4_learn zv_X4_learn qm_RX6_257 dX6_learnRoutes_20 (by decide) (by decide) rfl rfl (Nat.le_of_ble_eq_true rfl) (q0 := 0) rfl rfl rfl (L := [soW Z a N (ins N) (mvF N) (N 3), gW Z a (N 4) (N 5) (bkL N), pW Z a (N 6) (pkF N 0) (pkF N 1) (pkF N 2) (pkF N 3) (pkF N 4) (pkF N 5) (pkF N 6) (pkF N 7) (pkF N 8) (pkF N 9), xW Z x (a 0) (b 0) (a3 0) (b4 0) (c 0) (e 0) und hs ss us, rW Z b ef op ln nm qu qd]) (Lr := [soW Z a N (ins N) (mvF N) (N 3), pW Z a (N 6) (pkF N 0) (pkF N 1) (pkF N 2) (pkF N 3) (pkF N 4) (pkF N 5) (pkF N 6) (pkF N 7) (pkF N 8) (pkF N 9), xW Z x (a 0) (b 0) (a3 0) (b4 0) (c 0) (e 0) und hs ss us]) [4, 1, 0, 2, 3] [2, 1, 3, 4, 0] rfl rfl (fun _ => rfl) (fun u20 hp20 => ?_)
  obtain ⟨ro_20, ln_20, nm_20, qu_20, qd_20⟩ := u20
  try dsimp only at hp20
  refine z_eq (ws' := zf [soW Z a N (ins N) (mvF N) (N 3), gW Z a (N 4) (N 5) (bkL N), pW Z a (N 6) (pkF N 0) (pkF N 1) (pkF N 2) (pkF N 3) (pkF N 4) (pkF N 5) (pkF N 6) (pkF N 7) (pkF N 8) (pkF N 9), xW Z x (a 0) (b 0) (a3 0) (b4 0) (c 0) (e 0) und hs ss us, rW Z b ro_20.1 ro_20.2 ln_20 nm_20 qu_20 qd_20]) rfl ?_
  exact fin ((ro_20.1, ro_20.2), ln_20, nm_20, qu_20, qd_20) 23 _ _ _ dX6_learnRoutes_23 (hp20) (by decide) (by decide)
