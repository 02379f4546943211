set_option maxRecDepth 20000 in
theorem c_X2_copyPackets {l : Launch} {Z : zZ} {a a2 : Nat → Nat} {ys zs : Int} {y0 z0 y1 z1 y2 z2 y3 z3 y4 z4 y5 z5 y6 z6 y7 z7 y8 z8 y9 z9 : Int → Int}  : zN (T := Unit) l yX2_copyPackets (Cond.code yX2_copyPackets cX2_copyPackets 2 none :: wsL_law) ({ frames := 1, cells := 0, slots := 0, locals := 48 } : Room) Z [.ref (a2 3), .ref (a 3)] (zf [pW Z a2 zs z0 z1 z2 z3 z4 z5 z6 z7 z8 z9, pW Z a ys y0 y1 y2 y3 y4 y5 y6 y7 y8 y9]) (fun _ => zf [pW Z a2 ys y0 y1 y2 y3 y4 y5 y6 y7 y8 y9, pW Z a ys y0 y1 y2 y3 y4 y5 y6 y7 y8 y9]) (fun _ => True) := by
  refine zN_of (C := RX2) (by decide +kernel) rfl (Nat.le_of_ble_eq_true rfl) (fun X ok fin => ?_)
  refine z_lsub ok (lv' := [(0, .ref (a2 3)), (1, .ref (a 3))]) [0, 1] rfl ?_
  refine z_aload_n ok dX2_copyPackets_0 rfl ?_
  refine z_aload_n ok dX2_copyPackets_1 rfl ?_
  refine z_get (v := .int (iI ys)) ok zc2 11 rfl 0 (by decide) qf_RX2_9 rfl rfl dX2_copyPackets_2 ?_
  refine z_put (ws' := zf [pW Z a2 ys z0 z1 z2 z3 z4 z5 z6 z7 z8 z9, pW Z a ys y0 y1 y2 y3 y4 y5 y6 y7 y8 y9]) ok zc2 0 rfl 0 (by decide) qf_RX2_9 rfl rfl rfl rfl (Nat.le_of_ble_eq_true rfl) dX2_copyPackets_5 rfl ?_
  refine z_aload_n ok dX2_copyPackets_8 rfl ?_
  refine z_get (v := .ref (a 4)) ok zc2 11 rfl 1 (by decide) qf_RX2_15 rfl rfl dX2_copyPackets_9 ?_
  refine z_iconst ok dX2_copyPackets_12 ?_
  refine z_aload_n ok dX2_copyPackets_13 rfl ?_
  refine z_get (v := .ref (a2 4)) ok zc2 0 rfl 1 (by decide) qf_RX2_15 rfl rfl dX2_copyPackets_14 ?_
  refine z_iconst ok dX2_copyPackets_17 ?_
  refine z_bipush ok dX2_copyPackets_18 (by decide) ?_
  refine z_copyA (f := y0) (g := z0) (ws' := zf [pW Z a2 ys y0 z1 z2 z3 z4 z5 z6 z7 z8 z9, pW Z a ys y0 y1 y2 y3 y4 y5 y6 y7 y8 y9]) ok 12 1 rfl rfl rfl (by decide) qm_RX2_46 dX2_copyPackets_20 (by decide) (Nat.le_of_ble_eq_true rfl) rfl ?_
  refine z_aload_n ok dX2_copyPackets_23 rfl ?_
  refine z_get (v := .ref (a 5)) ok zc2 11 rfl 2 (by decide) qf_RX2_19 rfl rfl dX2_copyPackets_24 ?_
  refine z_iconst ok dX2_copyPackets_27 ?_
  refine z_aload_n ok dX2_copyPackets_28 rfl ?_
  refine z_get (v := .ref (a2 5)) ok zc2 0 rfl 2 (by decide) qf_RX2_19 rfl rfl dX2_copyPackets_29 ?_
  refine z_iconst ok dX2_copyPackets_32 ?_
  refine z_bipush ok dX2_copyPackets_33 (by decide) ?_
  refine z_copyA (f := y1) (g := z1) (ws' := zf [pW Z a2 ys y0 y1 z2 z3 z4 z5 z6 z7 z8 z9, pW Z a ys y0 y1 y2 y3 y4 y5 y6 y7 y8 y9]) ok 13 2 rfl rfl rfl (by decide) qm_RX2_46 dX2_copyPackets_35 (by decide) (Nat.le_of_ble_eq_true rfl) rfl ?_
  refine z_aload_n ok dX2_copyPackets_38 rfl ?_
  refine z_get (v := .ref (a 6)) ok zc2 11 rfl 3 (by decide) qf_RX2_22 rfl rfl dX2_copyPackets_39 ?_
  refine z_iconst ok dX2_copyPackets_42 ?_
  refine z_aload_n ok dX2_copyPackets_43 rfl ?_
  refine z_get (v := .ref (a2 6)) ok zc2 0 rfl 3 (by decide) qf_RX2_22 rfl rfl dX2_copyPackets_44 ?_
  refine z_iconst ok dX2_copyPackets_47 ?_
  refine z_bipush ok dX2_copyPackets_48 (by decide) ?_
  refine z_copyA (f := y2) (g := z2) (ws' := zf [pW Z a2 ys y0 y1 y2 z3 z4 z5 z6 z7 z8 z9, pW Z a ys y0 y1 y2 y3 y4 y5 y6 y7 y8 y9]) ok 14 3 rfl rfl rfl (by decide) qm_RX2_46 dX2_copyPackets_50 (by decide) (Nat.le_of_ble_eq_true rfl) rfl ?_
  refine z_aload_n ok dX2_copyPackets_53 rfl ?_
  refine z_get (v := .ref (a 7)) ok zc2 11 rfl 4 (by decide) qf_RX2_25 rfl rfl dX2_copyPackets_54 ?_
  refine z_iconst ok dX2_copyPackets_57 ?_
  refine z_aload_n ok dX2_copyPackets_58 rfl ?_
  refine z_get (v := .ref (a2 7)) ok zc2 0 rfl 4 (by decide) qf_RX2_25 rfl rfl dX2_copyPackets_59 ?_
  refine z_iconst ok dX2_copyPackets_62 ?_
  refine z_bipush ok dX2_copyPackets_63 (by decide) ?_
  refine z_copyA (f := y3) (g := z3) (ws' := zf [pW Z a2 ys y0 y1 y2 y3 z4 z5 z6 z7 z8 z9, pW Z a ys y0 y1 y2 y3 y4 y5 y6 y7 y8 y9]) ok 15 4 rfl rfl rfl (by decide) qm_RX2_46 dX2_copyPackets_65 (by decide) (Nat.le_of_ble_eq_true rfl) rfl ?_
  refine z_aload_n ok dX2_copyPackets_68 rfl ?_
  refine z_get (v := .ref (a 8)) ok zc2 11 rfl 5 (by decide) qf_RX2_28 rfl rfl dX2_copyPackets_69 ?_
  refine z_iconst ok dX2_copyPackets_72 ?_
  refine z_aload_n ok dX2_copyPackets_73 rfl ?_
  refine z_get (v := .ref (a2 8)) ok zc2 0 rfl 5 (by decide) qf_RX2_28 rfl rfl dX2_copyPackets_74 ?_
  refine z_iconst ok dX2_copyPackets_77 ?_
  refine z_bipush ok dX2_copyPackets_78 (by decide) ?_
  refine z_copyA (f := y4) (g := z4) (ws' := zf [pW Z a2 ys y0 y1 y2 y3 y4 z5 z6 z7 z8 z9, pW Z a ys y0 y1 y2 y3 y4 y5 y6 y7 y8 y9]) ok 16 5 rfl rfl rfl (by decide) qm_RX2_46 dX2_copyPackets_80 (by decide) (Nat.le_of_ble_eq_true rfl) rfl ?_
  refine z_aload_n ok dX2_copyPackets_83 rfl ?_
  refine z_get (v := .ref (a 9)) ok zc2 11 rfl 6 (by decide) qf_RX2_31 rfl rfl dX2_copyPackets_84 ?_
  refine z_iconst ok dX2_copyPackets_87 ?_
  refine z_aload_n ok dX2_copyPackets_88 rfl ?_
  refine z_get (v := .ref (a2 9)) ok zc2 0 rfl 6 (by decide) qf_RX2_31 rfl rfl dX2_copyPackets_89 ?_
  refine z_iconst ok dX2_copyPackets_92 ?_
  refine z_bipush ok dX2_copyPackets_93 (by decide) ?_
  refine z_copyA (f := y5) (g := z5) (ws' := zf [pW Z a2 ys y0 y1 y2 y3 y4 y5 z6 z7 z8 z9, pW Z a ys y0 y1 y2 y3 y4 y5 y6 y7 y8 y9]) ok 17 6 rfl rfl rfl (by decide) qm_RX2_46 dX2_copyPackets_95 (by decide) (Nat.le_of_ble_eq_true rfl) rfl ?_
  refine z_aload_n ok dX2_copyPackets_98 rfl ?_
  refine z_get (v := .ref (a 10)) ok zc2 11 rfl 7 (by decide) qf_RX2_34 rfl rfl dX2_copyPackets_99 ?_
  refine z_iconst ok dX2_copyPackets_102 ?_
  refine z_aload_n ok dX2_copyPackets_103 rfl ?_
  refine z_get (v := .ref (a2 10)) ok zc2 0 rfl 7 (by decide) qf_RX2_34 rfl rfl dX2_copyPackets_104 ?_
  refine z_iconst ok dX2_copyPackets_107 ?_
  refine z_bipush ok dX2_copyPackets_108 (by decide) ?_
  refine z_copyA (f := y6) (g := z6) (ws' := zf [pW Z a2 ys y0 y1 y2 y3 y4 y5 y6 z7 z8 z9, pW Z a ys y0 y1 y2 y3 y4 y5 y6 y7 y8 y9]) ok 18 7 rfl rfl rfl (by decide) qm_RX2_46 dX2_copyPackets_110 (by decide) (Nat.le_of_ble_eq_true rfl) rfl ?_
  refine z_aload_n ok dX2_copyPackets_113 rfl ?_
  refine z_get (v := .ref (a 11)) ok zc2 11 rfl 8 (by decide) qf_RX2_37 rfl rfl dX2_copyPackets_114 ?_
  refine z_iconst ok dX2_copyPackets_117 ?_
  refine z_aload_n ok dX2_copyPackets_118 rfl ?_
  refine z_get (v := .ref (a2 11)) ok zc2 0 rfl 8 (by decide) qf_RX2_37 rfl rfl dX2_copyPackets_119 ?_
  refine z_iconst ok dX2_copyPackets_122 ?_
  refine z_bipush ok dX2_copyPackets_123 (by decide) ?_
  refine z_copyA (f := y7) (g := z7) (ws' := zf [pW Z a2 ys y0 y1 y2 y3 y4 y5 y6 y7 z8 z9, pW Z a ys y0 y1 y2 y3 y4 y5 y6 y7 y8 y9]) ok 19 8 rfl rfl rfl (by decide) qm_RX2_46 dX2_copyPackets_125 (by decide) (Nat.le_of_ble_eq_true rfl) rfl ?_
  refine z_aload_n ok dX2_copyPackets_128 rfl ?_
  refine z_get (v := .ref (a 12)) ok zc2 11 rfl 9 (by decide) qf_RX2_40 rfl rfl dX2_copyPackets_129 ?_
  refine z_iconst ok dX2_copyPackets_132 ?_
  refine z_aload_n ok dX2_copyPackets_133 rfl ?_
  refine z_get (v := .ref (a2 12)) ok zc2 0 rfl 9 (by decide) qf_RX2_40 rfl rfl dX2_copyPackets_134 ?_
  refine z_iconst ok dX2_copyPackets_137 ?_
  refine z_bipush ok dX2_copyPackets_138 (by decide) ?_
  refine z_copyA (f := y8) (g := z8) (ws' := zf [pW Z a2 ys y0 y1 y2 y3 y4 y5 y6 y7 y8 z9, pW Z a ys y0 y1 y2 y3 y4 y5 y6 y7 y8 y9]) ok 20 9 rfl rfl rfl (by decide) qm_RX2_46 dX2_copyPackets_140 (by decide) (Nat.le_of_ble_eq_true rfl) rfl ?_
  refine z_aload_n ok dX2_copyPackets_143 rfl ?_
  refine z_get (v := .ref (a 13)) ok zc2 11 rfl 10 (by decide) qf_RX2_43 rfl rfl dX2_copyPackets_144 ?_
  refine z_iconst ok dX2_copyPackets_147 ?_
  refine z_aload_n ok dX2_copyPackets_148 rfl ?_
  refine z_get (v := .ref (a2 13)) ok zc2 0 rfl 10 (by decide) qf_RX2_43 rfl rfl dX2_copyPackets_149 ?_
  refine z_iconst ok dX2_copyPackets_152 ?_
  refine z_bipush ok dX2_copyPackets_153 (by decide) ?_
  refine z_copyA (f := y9) (g := z9) (ws' := zf [pW Z a2 ys y0 y1 y2 y3 y4 y5 y6 y7 y8 y9, pW Z a ys y0 y1 y2 y3 y4 y5 y6 y7 y8 y9]) ok 21 10 rfl rfl rfl (by decide) qm_RX2_46 dX2_copyPackets_155 (by decide) (Nat.le_of_ble_eq_true rfl) rfl ?_
  exact fin () 158 _ _ _ dX2_copyPackets_158 (trivial) (by decide) (by decide)
set_option maxRecDepth 20000 in
theorem c_X2_has {l : Launch} {Z : zZ} {a : Nat → Nat} {N : Int → Int} {p : Int} (h6 : 0 ≤ N 6 ∧ N 6 ≤ 40) (hp : -2147483648 ≤ p ∧ p < 2147483648) : zI (T := Unit) l yX2_has (Cond.code yX2_has cX2_has 2 (some .boolean) :: wsL_law) ({ frames := 0, cells := 0, slots := 0, locals := 0 } : Room) Z [.ref (a 3), .int (iI p)] (zf [pW Z a (N 6) (pkF N 0) (pkF N 1) (pkF N 2) (pkF N 3) (pkF N 4) (pkF N 5) (pkF N 6) (pkF N 7) (pkF N 8) (pkF N 9)]) (fun _ => zf [pW Z a (N 6) (pkF N 0) (pkF N 1) (pkF N 2) (pkF N 3) (pkF N 4) (pkF N 5) (pkF N 6) (pkF N 7) (pkF N 8) (pkF N 9)]) (fun ρ _ => ρ = zb (0 ≤ p ∧ p < N 6)) := by
  refine zI_of (C := RX2) (by decide +kernel) rfl (Nat.le_of_ble_eq_true rfl) (fun ρ => ρ = 0 ∨ ρ = 1) znZ (fun X ok fin => ?_)
  refine z_lsub ok (lv' := [(0, .ref (a 3)), (1, .int (iI p))]) [0, 1] rfl ?_
  refine z_iload_n ok dX2_has_0 rfl ?_
  refine z_if_lt (tgt := 16) ok dX2_has_1 (by decide) (by omega) (fun c1 => ?_) (fun c1 => ?_)
  · -- t
    refine z_iconst ok dX2_has_16 ?_
    exact fin 0 () 17 _ _ _ dX2_has_17 (by first | decide | exact zb_01 _ | omega) (by first | exact (zb_t (by omega)).symm | exact (zb_f (by omega)).symm) (by decide) (by decide)
  · -- f
    refine z_iload_n ok dX2_has_4 rfl ?_
    refine z_aload_n ok dX2_has_5 rfl ?_
    refine z_get (v := .int (iI (N 6))) ok zc2 0 rfl 0 (by decide) qf_RX2_9 rfl rfl dX2_has_6 ?_
    refine z_icmp_ge (tgt := 16) ok dX2_has_9 (by decide) (by omega) (by omega) (fun c9 => ?_) (fun c9 => ?_)
    · -- t
      refine z_iconst ok dX2_has_16 ?_
      exact fin 0 () 17 _ _ _ dX2_has_17 (by first | decide | exact zb_01 _ | omega) (by first | exact (zb_t (by omega)).symm | exact (zb_f (by omega)).symm) (by decide) (by decide)
    · -- f
      refine z_iconst ok dX2_has_12 ?_
      refine z_goto (tgt := 17) ok dX2_has_13 (by decide) ?_
      exact fin 1 () 17 _ _ _ dX2_has_17 (by first | decide | exact zb_01 _ | omega) (by first | exact (zb_t (by omega)).symm | exact (zb_f (by omega)).symm) (by decide) (by decide)
set_option maxRecDepth 20000 in
theorem c_X2_countIn {l : Launch} {Z : zZ} {a : Nat → Nat} {N : Int → Int} {t : Int} (hw : wf N) (ht : -2147483648 ≤ t ∧ t < 2147483648) : zI (T := Unit) l yX2_countIn (Cond.code yX2_countIn cX2_countIn 4 (some .int) :: wsL_law) ({ frames := 0, cells := 0, slots := 0, locals := 0 } : Room) Z [.ref (a 3), .int (iI t)] (zf [pW Z a (N 6) (pkF N 0) (pkF N 1) (pkF N 2) (pkF N 3) (pkF N 4) (pkF N 5) (pkF N 6) (pkF N 7) (pkF N 8) (pkF N 9)]) (fun _ => zf [pW Z a (N 6) (pkF N 0) (pkF N 1) (pkF N 2) (pkF N 3) (pkF N 4) (pkF N 5) (pkF N 6) (pkF N 7) (pkF N 8) (pkF N 9)]) (fun ρ _ => ρ = cnt N (-6) t) := by
  refine zI_of (C := RX2) (by decide +kernel) rfl (Nat.le_of_ble_eq_true rfl) (fun _ => True) znI (fun X ok fin => ?_)
  obtain ⟨w0, w1, w2, hc, hr, w6, wl, wp⟩ := id hw
  have hcr := cr_rng hc hr
  refine z_lsub ok (lv' := [(0, .ref (a 3)), (1, .int (iI t))]) [0, 1] rfl ?_
  refine z_iconst ok dX2_countIn_0 ?_
  refine z_istore_n (lv' := [(2, .int (iI 0)), (0, .ref (a 3)), (1, .int (iI t))]) ok dX2_countIn_1 (by decide) rfl ?_
  refine z_iconst ok dX2_countIn_2 ?_
  refine z_istore_n (lv' := [(3, .int (iI 0)), (2, .int (iI 0)), (0, .ref (a 3)), (1, .int (iI t))]) ok dX2_countIn_3 (by decide) rfl ?_
  have L4 : ∀ (fuel : Nat) (i n : Int), (0 ≤ i) → (i ≤ N 6) → (n = zS (cntf N (-6) t) i.toNat) → (N 6 - i).toNat < fuel → zV X 0 0 (zf [pW Z a (N 6) (pkF N 0) (pkF N 1) (pkF N 2) (pkF N 3) (pkF N 4) (pkF N 5) (pkF N 6) (pkF N 7) (pkF N 8) (pkF N 9)]) 4 [(0, .ref (a 3)), (1, .int (iI t)), (2, .int (iI n)), (3, .int (iI i))] [] := by
    intro fuel
    induction fuel with
    | zero => intro i n h4_0 h4_1 h4_2 hf; exact absurd hf (Nat.not_lt_zero _)
    | succ fuel ih4 =>
      intro i n h4_0 h4_1 h4_2 hf
      refine z_iload_n ok dX2_countIn_4 rfl ?_
      refine z_aload_n ok dX2_countIn_5 rfl ?_
      refine z_get (v := .int (iI (N 6))) ok zc2 0 rfl 0 (by decide) qf_RX2_9 rfl rfl dX2_countIn_6 ?_
      refine z_icmp_ge (tgt := 31) ok dX2_countIn_9 (by decide) (by omega) (by omega) (fun c9 => ?_) (fun c9 => ?_)
      · -- t
        refine z_iload_n ok dX2_countIn_31 rfl ?_
        exact fin n () 32 _ _ _ dX2_countIn_32 (trivial) (by rw [h4_2, show i = N 6 by omega]; rfl) (by decide) (by decide)
      · -- f
        have wpi := wp i (by omega) (by omega)
        refine z_aload_n ok dX2_countIn_12 rfl ?_
        refine z_get (v := .ref (a 6)) ok zc2 0 rfl 3 (by decide) qf_RX2_22 rfl rfl dX2_countIn_13 ?_
        refine z_iload_n ok dX2_countIn_16 rfl ?_
        refine z_iale (f := pkF N 2) (v := pk N i 2) ok 3 rfl rfl dX2_countIn_17 (by omega) (by decide) ?_
        refine z_iload_n ok dX2_countIn_18 rfl ?_
        refine z_icmp_ne (tgt := 25) ok dX2_countIn_19 (by decide) (by omega) (by omega) (fun c19 => ?_) (fun c19 => ?_)
        · -- t
          refine z_iinc (lv' := [(3, .int (iI (i + 1))), (0, .ref (a 3)), (1, .int (iI t)), (2, .int (iI n))]) ok dX2_countIn_25 3 rfl (by decide) rfl ?_
          refine z_goto (tgt := 4) ok dX2_countIn_28 (by decide) ?_
          refine z_lsub ok (lv' := [(0, .ref (a 3)), (1, .int (iI t)), (2, .int (iI n)), (3, .int (iI (i + 1)))]) [1, 2, 3, 0] rfl ?_
          exact ih4 _ _ (by omega) (by omega) (by rw [zS_s (by omega)]; first | (rw [show cntf N (-6) t i = 1 from zb_t (by omega)]; omega) | (rw [show cntf N (-6) t i = 0 from zb_f (by omega)]; omega)) (by omega)
        · -- f
          refine z_iinc (lv' := [(2, .int (iI (n + 1))), (0, .ref (a 3)), (1, .int (iI t)), (3, .int (iI i))]) ok dX2_countIn_22 2 rfl (by decide) rfl ?_
          refine z_iinc (lv' := [(3, .int (iI (i + 1))), (2, .int (iI (n + 1))), (0, .ref (a 3)), (1, .int (iI t))]) ok dX2_countIn_25 3 rfl (by decide) rfl ?_
          refine z_goto (tgt := 4) ok dX2_countIn_28 (by decide) ?_
          refine z_lsub ok (lv' := [(0, .ref (a 3)), (1, .int (iI t)), (2, .int (iI (n + 1))), (3, .int (iI (i + 1)))]) [2, 3, 1, 0] rfl ?_
          exact ih4 _ _ (by omega) (by omega) (by rw [zS_s (by omega)]; first | (rw [show cntf N (-6) t i = 1 from zb_t (by omega)]; omega) | (rw [show cntf N (-6) t i = 0 from zb_f (by omega)]; omega)) (by omega)
  refine z_lsub ok (lv' := [(0, .ref (a 3)), (1, .int (iI t)), (2, .int (iI 0)), (3, .int (iI 0))]) [2, 3, 1, 0] rfl ?_
  exact L4 _ _ _ (by omega) (by omega) (rfl) (Nat.lt_succ_self _)
set_option maxRecDepth 20000 in
theorem c_X2_countAt {l : Launch} {Z : zZ} {a : Nat → Nat} {N : Int → Int} {t b : Int} (hw : wf N) (ht : -2147483648 ≤ t ∧ t < 2147483648) (hb : 0 ≤ b ∧ b < 1000000) : zI (T := Unit) l yX2_countAt (Cond.code yX2_countAt cX2_countAt 5 (some .int) :: wsL_law) ({ frames := 0, cells := 0, slots := 0, locals := 0 } : Room) Z [.ref (a 3), .int (iI t), .int (iI b)] (zf [pW Z a (N 6) (pkF N 0) (pkF N 1) (pkF N 2) (pkF N 3) (pkF N 4) (pkF N 5) (pkF N 6) (pkF N 7) (pkF N 8) (pkF N 9)]) (fun _ => zf [pW Z a (N 6) (pkF N 0) (pkF N 1) (pkF N 2) (pkF N 3) (pkF N 4) (pkF N 5) (pkF N 6) (pkF N 7) (pkF N 8) (pkF N 9)]) (fun ρ _ => ρ = cnt N b t) := by
  refine zI_of (C := RX2) (by decide +kernel) rfl (Nat.le_of_ble_eq_true rfl) (fun _ => True) znI (fun X ok fin => ?_)
  obtain ⟨w0, w1, w2, hc, hr, w6, wl, wp⟩ := id hw
  have hcr := cr_rng hc hr
  refine z_lsub ok (lv' := [(0, .ref (a 3)), (1, .int (iI t)), (2, .int (iI b))]) [0, 1, 2] rfl ?_
  refine z_iconst ok dX2_countAt_0 ?_
  refine z_istore_n (lv' := [(3, .int (iI 0)), (0, .ref (a 3)), (1, .int (iI t)), (2, .int (iI b))]) ok dX2_countAt_1 (by decide) rfl ?_
  refine z_iconst ok dX2_countAt_2 ?_
  refine z_istore (lv' := [(4, .int (iI 0)), (3, .int (iI 0)), (0, .ref (a 3)), (1, .int (iI t)), (2, .int (iI b))]) ok dX2_countAt_3 (by decide) rfl ?_
  have L5 : ∀ (fuel : Nat) (i n : Int), (0 ≤ i) → (i ≤ N 6) → (n = zS (cntf N b t) i.toNat) → (N 6 - i).toNat < fuel → zV X 0 0 (zf [pW Z a (N 6) (pkF N 0) (pkF N 1) (pkF N 2) (pkF N 3) (pkF N 4) (pkF N 5) (pkF N 6) (pkF N 7) (pkF N 8) (pkF N 9)]) 5 [(0, .ref (a 3)), (1, .int (iI t)), (2, .int (iI b)), (3, .int (iI n)), (4, .int (iI i))] [] := by
    intro fuel
    induction fuel with
    | zero => intro i n h5_0 h5_1 h5_2 hf; exact absurd hf (Nat.not_lt_zero _)
    | succ fuel ih5 =>
      intro i n h5_0 h5_1 h5_2 hf
      refine z_iload ok dX2_countAt_5 rfl ?_
      refine z_aload_n ok dX2_countAt_7 rfl ?_
      refine z_get (v := .int (iI (N 6))) ok zc2 0 rfl 0 (by decide) qf_RX2_9 rfl rfl dX2_countAt_8 ?_
      refine z_icmp_ge (tgt := 45) ok dX2_countAt_11 (by decide) (by omega) (by omega) (fun c11 => ?_) (fun c11 => ?_)
      · -- t
        refine z_iload_n ok dX2_countAt_45 rfl ?_
        exact fin n () 46 _ _ _ dX2_countAt_46 (trivial) (by rw [h5_2, show i = N 6 by omega]; rfl) (by decide) (by decide)
      · -- f
        have wpi := wp i (by omega) (by omega)
        refine z_aload_n ok dX2_countAt_14 rfl ?_
        refine z_get (v := .ref (a 6)) ok zc2 0 rfl 3 (by decide) qf_RX2_22 rfl rfl dX2_countAt_15 ?_
        refine z_iload ok dX2_countAt_18 rfl ?_
        refine z_iale (f := pkF N 2) (v := pk N i 2) ok 3 rfl rfl dX2_countAt_20 (by omega) (by decide) ?_
        refine z_iload_n ok dX2_countAt_21 rfl ?_
        refine z_icmp_ne (tgt := 39) ok dX2_countAt_22 (by decide) (by omega) (by omega) (fun c22 => ?_) (fun c22 => ?_)
        · -- t
          refine z_iinc (lv' := [(4, .int (iI (i + 1))), (0, .ref (a 3)), (1, .int (iI t)), (2, .int (iI b)), (3, .int (iI n))]) ok dX2_countAt_39 4 rfl (by decide) rfl ?_
          refine z_goto (tgt := 5) ok dX2_countAt_42 (by decide) ?_
          refine z_lsub ok (lv' := [(0, .ref (a 3)), (1, .int (iI t)), (2, .int (iI b)), (3, .int (iI n)), (4, .int (iI (i + 1)))]) [1, 2, 3, 4, 0] rfl ?_
          exact ih5 _ _ (by omega) (by omega) (by rw [zS_s (by omega)]; first | (rw [show cntf N b t i = 1 from zb_t (by omega)]; omega) | (rw [show cntf N b t i = 0 from zb_f (by omega)]; omega)) (by omega)
        · -- f
          refine z_aload_n ok dX2_countAt_25 rfl ?_
          refine z_get (v := .ref (a 7)) ok zc2 0 rfl 4 (by decide) qf_RX2_25 rfl rfl dX2_countAt_26 ?_
          refine z_iload ok dX2_countAt_29 rfl ?_
          refine z_iale (f := pkF N 3) (v := pk N i 3) ok 4 rfl rfl dX2_countAt_31 (by omega) (by decide) ?_
          refine z_iload_n ok dX2_countAt_32 rfl ?_
          refine z_icmp_ne (tgt := 39) ok dX2_countAt_33 (by decide) (by omega) (by omega) (fun c33 => ?_) (fun c33 => ?_)
          · -- t
            refine z_iinc (lv' := [(4, .int (iI (i + 1))), (0, .ref (a 3)), (1, .int (iI t)), (2, .int (iI b)), (3, .int (iI n))]) ok dX2_countAt_39 4 rfl (by decide) rfl ?_
            refine z_goto (tgt := 5) ok dX2_countAt_42 (by decide) ?_
            refine z_lsub ok (lv' := [(0, .ref (a 3)), (1, .int (iI t)), (2, .int (iI b)), (3, .int (iI n)), (4, .int (iI (i + 1)))]) [1, 2, 3, 4, 0] rfl ?_
            exact ih5 _ _ (by omega) (by omega) (by rw [zS_s (by omega)]; first | (rw [show cntf N b t i = 1 from zb_t (by omega)]; omega) | (rw [show cntf N b t i = 0 from zb_f (by omega)]; omega)) (by omega)
          · -- f
            refine z_iinc (lv' := [(3, .int (iI (n + 1))), (0, .ref (a 3)), (1, .int (iI t)), (2, .int (iI b)), (4, .int (iI i))]) ok dX2_countAt_36 3 rfl (by decide) rfl ?_
            refine z_iinc (lv' := [(4, .int (iI (i + 1))), (3, .int (iI (n + 1))), (0, .ref (a 3)), (1, .int (iI t)), (2, .int (iI b))]) ok dX2_countAt_39 4 rfl (by decide) rfl ?_
            refine z_goto (tgt := 5) ok dX2_countAt_42 (by decide) ?_
            refine z_lsub ok (lv' := [(0, .ref (a 3)), (1, .int (iI t)), (2, .int (iI b)), (3, .int (iI (n + 1))), (4, .int (iI (i + 1)))]) [2, 3, 4, 1, 0] rfl ?_
            exact ih5 _ _ (by omega) (by omega) (by rw [zS_s (by omega)]; first | (rw [show cntf N b t i = 1 from zb_t (by omega)]; omega) | (rw [show cntf N b t i = 0 from zb_f (by omega)]; omega)) (by omega)
  refine z_lsub ok (lv' := [(0, .ref (a 3)), (1, .int (iI t)), (2, .int (iI b)), (3, .int (iI 0)), (4, .int (iI 0))]) [2, 3, 4, 1, 0] rfl ?_
  exact L5 _ _ _ (by omega) (by omega) (rfl) (Nat.lt_succ_self _)
set_option maxRecDepth 20000 in
theorem c_X2_sum_4 {l : Launch} {Z : zZ} {a : Nat → Nat} {N : Int → Int} (h6 : 0 ≤ N 6 ∧ N 6 ≤ 40) : zI (T := Unit) l yX2_sum (Cond.code yX2_sum cX2_sum 4 (some .int) :: wsL_law) ({ frames := 0, cells := 0, slots := 0, locals := 0 } : Room) Z [.ref (a 3), .ref (a 8)] (zf [pW Z a (N 6) (pkF N 0) (pkF N 1) (pkF N 2) (pkF N 3) (pkF N 4) (pkF N 5) (pkF N 6) (pkF N 7) (pkF N 8) (pkF N 9)]) (fun _ => zf [pW Z a (N 6) (pkF N 0) (pkF N 1) (pkF N 2) (pkF N 3) (pkF N 4) (pkF N 5) (pkF N 6) (pkF N 7) (pkF N 8) (pkF N 9)]) (fun ρ _ => ρ = sumOf N 4) := by
  refine zI_of (C := RX2) (by decide +kernel) rfl (Nat.le_of_ble_eq_true rfl) (fun _ => True) znI (fun X ok fin => ?_)
  refine z_lsub ok (lv' := [(0, .ref (a 3)), (1, .ref (a 8))]) [0, 1] rfl ?_
  refine z_iconst ok dX2_sum_0 ?_
  refine z_istore_n (lv' := [(2, .int (iI 0)), (0, .ref (a 3)), (1, .ref (a 8))]) ok dX2_sum_1 (by decide) rfl ?_
  refine z_iconst ok dX2_sum_2 ?_
  refine z_istore_n (lv' := [(3, .int (iI 0)), (2, .int (iI 0)), (0, .ref (a 3)), (1, .ref (a 8))]) ok dX2_sum_3 (by decide) rfl ?_
  have L4 : ∀ (fuel : Nat) (i n : Int), (0 ≤ i) → (i ≤ N 6) → (n = zS (fun p => pk N p 4) i.toNat) → (N 6 - i).toNat < fuel → zV X 0 0 (zf [pW Z a (N 6) (pkF N 0) (pkF N 1) (pkF N 2) (pkF N 3) (pkF N 4) (pkF N 5) (pkF N 6) (pkF N 7) (pkF N 8) (pkF N 9)]) 4 [(0, .ref (a 3)), (1, .ref (a 8)), (2, .int (iI n)), (3, .int (iI i))] [] := by
    intro fuel
    induction fuel with
    | zero => intro i n h4_0 h4_1 h4_2 hf; exact absurd hf (Nat.not_lt_zero _)
    | succ fuel ih4 =>
      intro i n h4_0 h4_1 h4_2 hf
      refine z_iload_n ok dX2_sum_4 rfl ?_
      refine z_aload_n ok dX2_sum_5 rfl ?_
      refine z_get (v := .int (iI (N 6))) ok zc2 0 rfl 0 (by decide) qf_RX2_9 rfl rfl dX2_sum_6 ?_
      refine z_icmp_ge (tgt := 24) ok dX2_sum_9 (by decide) (by omega) (by omega) (fun c9 => ?_) (fun c9 => ?_)
      · -- t
        refine z_iload_n ok dX2_sum_24 rfl ?_
        exact fin n () 25 _ _ _ dX2_sum_25 (trivial) (by rw [h4_2, show i = N 6 by omega]; rfl) (by decide) (by decide)
      · -- f
        refine z_iload_n ok dX2_sum_12 rfl ?_
        refine z_aload_n ok dX2_sum_13 rfl ?_
        refine z_iload_n ok dX2_sum_14 rfl ?_
        refine z_iale (f := pkF N 4) (v := pk N i 4) ok 5 rfl rfl dX2_sum_15 (by omega) (by decide) ?_
        refine z_iadd ok dX2_sum_16 ?_
        refine z_istore_n (lv' := [(2, .int (iI (n + (pk N i 4)))), (0, .ref (a 3)), (1, .ref (a 8)), (3, .int (iI i))]) ok dX2_sum_17 (by decide) rfl ?_
        refine z_iinc (lv' := [(3, .int (iI (i + 1))), (2, .int (iI (n + (pk N i 4)))), (0, .ref (a 3)), (1, .ref (a 8))]) ok dX2_sum_18 3 rfl (by decide) rfl ?_
        refine z_goto (tgt := 4) ok dX2_sum_21 (by decide) ?_
        refine z_lsub ok (lv' := [(0, .ref (a 3)), (1, .ref (a 8)), (2, .int (iI (n + (pk N i 4)))), (3, .int (iI (i + 1)))]) [2, 3, 1, 0] rfl ?_
        exact ih4 _ _ (by omega) (by omega) (by rw [zS_s (by omega), h4_2]) (by omega)
  refine z_lsub ok (lv' := [(0, .ref (a 3)), (1, .ref (a 8)), (2, .int (iI 0)), (3, .int (iI 0))]) [2, 3, 1, 0] rfl ?_
  exact L4 _ _ _ (by omega) (by omega) (rfl) (Nat.lt_succ_self _)
set_option maxRecDepth 20000 in
theorem c_X2_sum_5 {l : Launch} {Z : zZ} {a : Nat → Nat} {N : Int → Int} (h6 : 0 ≤ N 6 ∧ N 6 ≤ 40) : zI (T := Unit) l yX2_sum (Cond.code yX2_sum cX2_sum 4 (some .int) :: wsL_law) ({ frames := 0, cells := 0, slots := 0, locals := 0 } : Room) Z [.ref (a 3), .ref (a 9)] (zf [pW Z a (N 6) (pkF N 0) (pkF N 1) (pkF N 2) (pkF N 3) (pkF N 4) (pkF N 5) (pkF N 6) (pkF N 7) (pkF N 8) (pkF N 9)]) (fun _ => zf [pW Z a (N 6) (pkF N 0) (pkF N 1) (pkF N 2) (pkF N 3) (pkF N 4) (pkF N 5) (pkF N 6) (pkF N 7) (pkF N 8) (pkF N 9)]) (fun ρ _ => ρ = sumOf N 5) := by
  refine zI_of (C := RX2) (by decide +kernel) rfl (Nat.le_of_ble_eq_true rfl) (fun _ => True) znI (fun X ok fin => ?_)
  refine z_lsub ok (lv' := [(0, .ref (a 3)), (1, .ref (a 9))]) [0, 1] rfl ?_
  refine z_iconst ok dX2_sum_0 ?_
  refine z_istore_n (lv' := [(2, .int (iI 0)), (0, .ref (a 3)), (1, .ref (a 9))]) ok dX2_sum_1 (by decide) rfl ?_
  refine z_iconst ok dX2_sum_2 ?_
  refine z_istore_n (lv' := [(3, .int (iI 0)), (2, .int (iI 0)), (0, .ref (a 3)), (1, .ref (a 9))]) ok dX2_sum_3 (by decide) rfl ?_
  have L4 : ∀ (fuel : Nat) (i n : Int), (0 ≤ i) → (i ≤ N 6) → (n = zS (fun p => pk N p 5) i.toNat) → (N 6 - i).toNat < fuel → zV X 0 0 (zf [pW Z a (N 6) (pkF N 0) (pkF N 1) (pkF N 2) (pkF N 3) (pkF N 4) (pkF N 5) (pkF N 6) (pkF N 7) (pkF N 8) (pkF N 9)]) 4 [(0, .ref (a 3)), (1, .ref (a 9)), (2, .int (iI n)), (3, .int (iI i))] [] := by
    intro fuel
    induction fuel with
    | zero => intro i n h4_0 h4_1 h4_2 hf; exact absurd hf (Nat.not_lt_zero _)
    | succ fuel ih4 =>
      intro i n h4_0 h4_1 h4_2 hf
      refine z_iload_n ok dX2_sum_4 rfl ?_
      refine z_aload_n ok dX2_sum_5 rfl ?_
      refine z_get (v := .int (iI (N 6))) ok zc2 0 rfl 0 (by decide) qf_RX2_9 rfl rfl dX2_sum_6 ?_
      refine z_icmp_ge (tgt := 24) ok dX2_sum_9 (by decide) (by omega) (by omega) (fun c9 => ?_) (fun c9 => ?_)
      · -- t
        refine z_iload_n ok dX2_sum_24 rfl ?_
        exact fin n () 25 _ _ _ dX2_sum_25 (trivial) (by rw [h4_2, show i = N 6 by omega]; rfl) (by decide) (by decide)
      · -- f
        refine z_iload_n ok dX2_sum_12 rfl ?_
        refine z_aload_n ok dX2_sum_13 rfl ?_
        refine z_iload_n ok dX2_sum_14 rfl ?_
        refine z_iale (f := pkF N 5) (v := pk N i 5) ok 6 rfl rfl dX2_sum_15 (by omega) (by decide) ?_
        refine z_iadd ok dX2_sum_16 ?_
        refine z_istore_n (lv' := [(2, .int (iI (n + (pk N i 5)))), (0, .ref (a 3)), (1, .ref (a 9)), (3, .int (iI i))]) ok dX2_sum_17 (by decide) rfl ?_
        refine z_iinc (lv' := [(3, .int (iI (i + 1))), (2, .int (iI (n + (pk N i 5)))), (0, .ref (a 3)), (1, .ref (a 9))]) ok dX2_sum_18 3 rfl (by decide) rfl ?_
        refine z_goto (tgt := 4) ok dX2_sum_21 (by decide) ?_
        refine z_lsub ok (lv' := [(0, .ref (a 3)), (1, .ref (a 9)), (2, .int (iI (n + (pk N i 5)))), (3, .int (iI (i + 1)))]) [2, 3, 1, 0] rfl ?_
        exact ih4 _ _ (by omega) (by omega) (by rw [zS_s (by omega), h4_2]) (by omega)
  refine z_lsub ok (lv' := [(0, .ref (a 3)), (1, .ref (a 9)), (2, .int (iI 0)), (3, .int (iI 0))]) [2, 3, 1, 0] rfl ?_
  exact L4 _ _ _ (by omega) (by omega) (rfl) (Nat.lt_succ_self _)
set_option maxRecDepth 20000 in
theorem c_X2_sum_6 {l : Launch} {Z : zZ} {a : Nat → Nat} {N : Int → Int} (h6 : 0 ≤ N 6 ∧ N 6 ≤ 40) : zI (T := Unit) l yX2_sum (Cond.code yX2_sum cX2_sum 4 (some .int) :: wsL_law) ({ frames := 0, cells := 0, slots := 0, locals := 0 } : Room) Z [.ref (a 3), .ref (a 10)] (zf [pW Z a (N 6) (pkF N 0) (pkF N 1) (pkF N 2) (pkF N 3) (pkF N 4) (pkF N 5) (pkF N 6) (pkF N 7) (pkF N 8) (pkF N 9)]) (fun _ => zf [pW Z a (N 6) (pkF N 0) (pkF N 1) (pkF N 2) (pkF N 3) (pkF N 4) (pkF N 5) (pkF N 6) (pkF N 7) (pkF N 8) (pkF N 9)]) (fun ρ _ => ρ = sumOf N 6) := by
  refine zI_of (C := RX2) (by decide +kernel) rfl (Nat.le_of_ble_eq_true rfl) (fun _ => True) znI (fun X ok fin => ?_)
  refine z_lsub ok (lv' := [(0, .ref (a 3)), (1, .ref (a 10))]) [0, 1] rfl ?_
  refine z_iconst ok dX2_sum_0 ?_
  refine z_istore_n (lv' := [(2, .int (iI 0)), (0, .ref (a 3)), (1, .ref (a 10))]) ok dX2_sum_1 (by decide) rfl ?_
  refine z_iconst ok dX2_sum_2 ?_
  refine z_istore_n (lv' := [(3, .int (iI 0)), (2, .int (iI 0)), (0, .ref (a 3)), (1, .ref (a 10))]) ok dX2_sum_3 (by decide) rfl ?_
  have L4 : ∀ (fuel : Nat) (i n : Int), (0 ≤ i) → (i ≤ N 6) → (n = zS (fun p => pk N p 6) i.toNat) → (N 6 - i).toNat < fuel → zV X 0 0 (zf [pW Z a (N 6) (pkF N 0) (pkF N 1) (pkF N 2) (pkF N 3) (pkF N 4) (pkF N 5) (pkF N 6) (pkF N 7) (pkF N 8) (pkF N 9)]) 4 [(0, .ref (a 3)), (1, .ref (a 10)), (2, .int (iI n)), (3, .int (iI i))] [] := by
    intro fuel
    induction fuel with
    | zero => intro i n h4_0 h4_1 h4_2 hf; exact absurd hf (Nat.not_lt_zero _)
    | succ fuel ih4 =>
      intro i n h4_0 h4_1 h4_2 hf
      refine z_iload_n ok dX2_sum_4 rfl ?_
      refine z_aload_n ok dX2_sum_5 rfl ?_
      refine z_get (v := .int (iI (N 6))) ok zc2 0 rfl 0 (by decide) qf_RX2_9 rfl rfl dX2_sum_6 ?_
      refine z_icmp_ge (tgt := 24) ok dX2_sum_9 (by decide) (by omega) (by omega) (fun c9 => ?_) (fun c9 => ?_)
      · -- t
        refine z_iload_n ok dX2_sum_24 rfl ?_
        exact fin n () 25 _ _ _ dX2_sum_25 (trivial) (by rw [h4_2, show i = N 6 by omega]; rfl) (by decide) (by decide)
      · -- f
        refine z_iload_n ok dX2_sum_12 rfl ?_
        refine z_aload_n ok dX2_sum_13 rfl ?_
        refine z_iload_n ok dX2_sum_14 rfl ?_
        refine z_iale (f := pkF N 6) (v := pk N i 6) ok 7 rfl rfl dX2_sum_15 (by omega) (by decide) ?_
        refine z_iadd ok dX2_sum_16 ?_
        refine z_istore_n (lv' := [(2, .int (iI (n + (pk N i 6)))), (0, .ref (a 3)), (1, .ref (a 10)), (3, .int (iI i))]) ok dX2_sum_17 (by decide) rfl ?_
        refine z_iinc (lv' := [(3, .int (iI (i + 1))), (2, .int (iI (n + (pk N i 6)))), (0, .ref (a 3)), (1, .ref (a 10))]) ok dX2_sum_18 3 rfl (by decide) rfl ?_
        refine z_goto (tgt := 4) ok dX2_sum_21 (by decide) ?_
        refine z_lsub ok (lv' := [(0, .ref (a 3)), (1, .ref (a 10)), (2, .int (iI (n + (pk N i 6)))), (3, .int (iI (i + 1)))]) [2, 3, 1, 0] rfl ?_
        exact ih4 _ _ (by omega) (by omega) (by rw [zS_s (by omega), h4_2]) (by omega)
  refine z_lsub ok (lv' := [(0, .ref (a 3)), (1, .ref (a 10)), (2, .int (iI 0)), (3, .int (iI 0))]) [2, 3, 1, 0] rfl ?_
  exact L4 _ _ _ (by omega) (by omega) (rfl) (Nat.lt_succ_self _)
set_option maxRecDepth 20000 in
theorem c_X2_noteMove {l : Launch} {Z : zZ} {a : Nat → Nat} {N : Int → Int} {p nx sd dt : Int} (hp : 0 ≤ p ∧ p < 40) (hsd : 0 ≤ sd ∧ sd ≤ 3) (hdt : 0 ≤ dt ∧ dt ≤ 1) : zN (T := Unit) l yX2_noteMove (Cond.code yX2_noteMove cX2_noteMove 5 none :: wsL_law) ({ frames := 0, cells := 0, slots := 0, locals := 0 } : Room) Z [.ref (a 3), .int (iI p), .int (iI nx), .int (iI sd), .int (iI dt)] (zf [pW Z a (N 6) (pkF N 0) (pkF N 1) (pkF N 2) (pkF N 3) (pkF N 4) (pkF N 5) (pkF N 6) (pkF N 7) (pkF N 8) (pkF N 9)]) (fun _ => zf [pW Z a (N 6) (pkF N 0) (pkF N 1) (pkF N 2) (zu (pkF N 3) p nx) (zu (pkF N 4) p (pk N p 4 + 1)) (zu (pkF N 5) p (pk N p 5 + dt)) (pkF N 6) (pkF N 7) (pkF N 8) (zu (pkF N 9) p (if sd = 0 then pk N p 9 else 1))]) (fun _ => True) := by
  refine zN_of (C := RX2) (by decide +kernel) rfl (Nat.le_of_ble_eq_true rfl) (fun X ok fin => ?_)
  refine z_lsub ok (lv' := [(0, .ref (a 3)), (1, .int (iI p)), (2, .int (iI nx)), (3, .int (iI sd)), (4, .int (iI dt))]) [0, 1, 2, 3, 4] rfl ?_
  refine z_aload_n ok dX2_noteMove_0 rfl ?_
  refine z_get (v := .ref (a 7)) ok zc2 0 rfl 4 (by decide) qf_RX2_25 rfl rfl dX2_noteMove_1 ?_
  refine z_iload_n ok dX2_noteMove_4 rfl ?_
  refine z_iload_n ok dX2_noteMove_5 rfl ?_
  refine z_iast (f := pkF N 3) (v := nx) (ws' := zf [pW Z a (N 6) (pkF N 0) (pkF N 1) (pkF N 2) (zu (pkF N 3) p nx) (pkF N 4) (pkF N 5) (pkF N 6) (pkF N 7) (pkF N 8) (pkF N 9)]) ok 4 rfl dX2_noteMove_6 (by omega) (by decide) rfl ?_
  refine z_aload_n ok dX2_noteMove_7 rfl ?_
  refine z_get (v := .ref (a 8)) ok zc2 0 rfl 5 (by decide) qf_RX2_28 rfl rfl dX2_noteMove_8 ?_
  refine z_iload_n ok dX2_noteMove_11 rfl ?_
  refine z_dup2 ok dX2_noteMove_12 rfl rfl ?_
  refine z_iale (f := pkF N 4) (v := pk N p 4) ok 5 rfl rfl dX2_noteMove_13 (by omega) (by decide) ?_
  refine z_iconst ok dX2_noteMove_14 ?_
  refine z_iadd ok dX2_noteMove_15 ?_
  refine z_iast (f := pkF N 4) (v := (pk N p 4) + 1) (ws' := zf [pW Z a (N 6) (pkF N 0) (pkF N 1) (pkF N 2) (zu (pkF N 3) p nx) (zu (pkF N 4) p ((pk N p 4) + 1)) (pkF N 5) (pkF N 6) (pkF N 7) (pkF N 8) (pkF N 9)]) ok 5 rfl dX2_noteMove_16 (by omega) (by decide) rfl ?_
  refine z_iload ok dX2_noteMove_17 rfl ?_
  refine z_if_eq (tgt := 32) ok dX2_noteMove_19 (by decide) (by omega) (fun c19 => ?_) (fun c19 => ?_)
  · -- t
    refine z_iload_n ok dX2_noteMove_32 rfl ?_
    refine z_if_eq (tgt := 43) ok dX2_noteMove_33 (by decide) (by omega) (fun c33 => ?_) (fun c33 => ?_)
    · -- t
      have h5 : (pkF N 5) = zu (pkF N 5) p (pk N p 5 + dt) := by first | (rw [show dt = 1 by omega]) | (rw [show dt = 0 by omega]; exact (zu_id (f := pkF N 5) (show pk N p 5 = pk N p 5 + 0 by omega)).symm)
      have h9 : (pkF N 9) = zu (pkF N 9) p (if sd = 0 then pk N p 9 else 1) := by first | (rw [if_neg c33]) | (rw [if_pos c33]; exact (zu_id rfl).symm)
      refine z_eq (ws' := zf [pW Z a (N 6) (pkF N 0) (pkF N 1) (pkF N 2) (zu (pkF N 3) p nx) (zu (pkF N 4) p (pk N p 4 + 1)) (zu (pkF N 5) p (pk N p 5 + dt)) (pkF N 6) (pkF N 7) (pkF N 8) (zu (pkF N 9) p (if sd = 0 then pk N p 9 else 1))]) (zcg2 (fun x y => zf [pW Z a (N 6) (pkF N 0) (pkF N 1) (pkF N 2) (zu (pkF N 3) p nx) (zu (pkF N 4) p (pk N p 4 + 1)) x (pkF N 6) (pkF N 7) (pkF N 8) y]) h5 h9) ?_
      exact fin () 43 _ _ _ dX2_noteMove_43 (trivial) (by decide) (by decide)
    · -- f
      refine z_aload_n ok dX2_noteMove_36 rfl ?_
      refine z_get (v := .ref (a 13)) ok zc2 0 rfl 10 (by decide) qf_RX2_43 rfl rfl dX2_noteMove_37 ?_
      refine z_iload_n ok dX2_noteMove_40 rfl ?_
      refine z_iconst ok dX2_noteMove_41 ?_
      refine z_iast (f := pkF N 9) (v := 1) (ws' := zf [pW Z a (N 6) (pkF N 0) (pkF N 1) (pkF N 2) (zu (pkF N 3) p nx) (zu (pkF N 4) p ((pk N p 4) + 1)) (pkF N 5) (pkF N 6) (pkF N 7) (pkF N 8) (zu (pkF N 9) p 1)]) ok 10 rfl dX2_noteMove_42 (by omega) (by decide) rfl ?_
      have h5 : (pkF N 5) = zu (pkF N 5) p (pk N p 5 + dt) := by first | (rw [show dt = 1 by omega]) | (rw [show dt = 0 by omega]; exact (zu_id (f := pkF N 5) (show pk N p 5 = pk N p 5 + 0 by omega)).symm)
      have h9 : (zu (pkF N 9) p 1) = zu (pkF N 9) p (if sd = 0 then pk N p 9 else 1) := by first | (rw [if_neg c33]) | (rw [if_pos c33]; exact (zu_id rfl).symm)
      refine z_eq (ws' := zf [pW Z a (N 6) (pkF N 0) (pkF N 1) (pkF N 2) (zu (pkF N 3) p nx) (zu (pkF N 4) p (pk N p 4 + 1)) (zu (pkF N 5) p (pk N p 5 + dt)) (pkF N 6) (pkF N 7) (pkF N 8) (zu (pkF N 9) p (if sd = 0 then pk N p 9 else 1))]) (zcg2 (fun x y => zf [pW Z a (N 6) (pkF N 0) (pkF N 1) (pkF N 2) (zu (pkF N 3) p nx) (zu (pkF N 4) p (pk N p 4 + 1)) x (pkF N 6) (pkF N 7) (pkF N 8) y]) h5 h9) ?_
      exact fin () 43 _ _ _ dX2_noteMove_43 (trivial) (by decide) (by decide)
  · -- f
    refine z_aload_n ok dX2_noteMove_22 rfl ?_
    refine z_get (v := .ref (a 9)) ok zc2 0 rfl 6 (by decide) qf_RX2_31 rfl rfl dX2_noteMove_23 ?_
    refine z_iload_n ok dX2_noteMove_26 rfl ?_
    refine z_dup2 ok dX2_noteMove_27 rfl rfl ?_
    refine z_iale (f := pkF N 5) (v := pk N p 5) ok 6 rfl rfl dX2_noteMove_28 (by omega) (by decide) ?_
    refine z_iconst ok dX2_noteMove_29 ?_
    refine z_iadd ok dX2_noteMove_30 ?_
    refine z_iast (f := pkF N 5) (v := (pk N p 5) + 1) (ws' := zf [pW Z a (N 6) (pkF N 0) (pkF N 1) (pkF N 2) (zu (pkF N 3) p nx) (zu (pkF N 4) p ((pk N p 4) + 1)) (zu (pkF N 5) p ((pk N p 5) + 1)) (pkF N 6) (pkF N 7) (pkF N 8) (pkF N 9)]) ok 6 rfl dX2_noteMove_31 (by omega) (by decide) rfl ?_
    refine z_iload_n ok dX2_noteMove_32 rfl ?_
    refine z_if_eq (tgt := 43) ok dX2_noteMove_33 (by decide) (by omega) (fun c33 => ?_) (fun c33 => ?_)
    · -- t
      have h5 : (zu (pkF N 5) p ((pk N p 5) + 1)) = zu (pkF N 5) p (pk N p 5 + dt) := by first | (rw [show dt = 1 by omega]) | (rw [show dt = 0 by omega]; exact (zu_id (f := pkF N 5) (show pk N p 5 = pk N p 5 + 0 by omega)).symm)
      have h9 : (pkF N 9) = zu (pkF N 9) p (if sd = 0 then pk N p 9 else 1) := by first | (rw [if_neg c33]) | (rw [if_pos c33]; exact (zu_id rfl).symm)
      refine z_eq (ws' := zf [pW Z a (N 6) (pkF N 0) (pkF N 1) (pkF N 2) (zu (pkF N 3) p nx) (zu (pkF N 4) p (pk N p 4 + 1)) (zu (pkF N 5) p (pk N p 5 + dt)) (pkF N 6) (pkF N 7) (pkF N 8) (zu (pkF N 9) p (if sd = 0 then pk N p 9 else 1))]) (zcg2 (fun x y => zf [pW Z a (N 6) (pkF N 0) (pkF N 1) (pkF N 2) (zu (pkF N 3) p nx) (zu (pkF N 4) p (pk N p 4 + 1)) x (pkF N 6) (pkF N 7) (pkF N 8) y]) h5 h9) ?_
      exact fin () 43 _ _ _ dX2_noteMove_43 (trivial) (by decide) (by decide)
    · -- f
      refine z_aload_n ok dX2_noteMove_36 rfl ?_
      refine z_get (v := .ref (a 13)) ok zc2 0 rfl 10 (by decide) qf_RX2_43 rfl rfl dX2_noteMove_37 ?_
      refine z_iload_n ok dX2_noteMove_40 rfl ?_
      refine z_iconst ok dX2_noteMove_41 ?_
      refine z_iast (f := pkF N 9) (v := 1) (ws' := zf [pW Z a (N 6) (pkF N 0) (pkF N 1) (pkF N 2) (zu (pkF N 3) p nx) (zu (pkF N 4) p ((pk N p 4) + 1)) (zu (pkF N 5) p ((pk N p 5) + 1)) (pkF N 6) (pkF N 7) (pkF N 8) (zu (pkF N 9) p 1)]) ok 10 rfl dX2_noteMove_42 (by omega) (by decide) rfl ?_
      have h5 : (zu (pkF N 5) p ((pk N p 5) + 1)) = zu (pkF N 5) p (pk N p 5 + dt) := by first | (rw [show dt = 1 by omega]) | (rw [show dt = 0 by omega]; exact (zu_id (f := pkF N 5) (show pk N p 5 = pk N p 5 + 0 by omega)).symm)
      have h9 : (zu (pkF N 9) p 1) = zu (pkF N 9) p (if sd = 0 then pk N p 9 else 1) := by first | (rw [if_neg c33]) | (rw [if_pos c33]; exact (zu_id rfl).symm)
      refine z_eq (ws' := zf [pW Z a (N 6) (pkF N 0) (pkF N 1) (pkF N 2) (zu (pkF N 3) p nx) (zu (pkF N 4) p (pk N p 4 + 1)) (zu (pkF N 5) p (pk N p 5 + dt)) (pkF N 6) (pkF N 7) (pkF N 8) (zu (pkF N 9) p (if sd = 0 then pk N p 9 else 1))]) (zcg2 (fun x y => zf [pW Z a (N 6) (pkF N 0) (pkF N 1) (pkF N 2) (zu (pkF N 3) p nx) (zu (pkF N 4) p (pk N p 4 + 1)) x (pkF N 6) (pkF N 7) (pkF N 8) y]) h5 h9) ?_
      exact fin () 43 _ _ _ dX2_noteMove_43 (trivial) (by decide) (by decide)
set_option maxRecDepth 20000 in
theorem c_X2_add {l : Launch} {Z : zZ} {a : Nat → Nat} {N : Int → Int} {f t : Int} (h6 : 0 ≤ N 6 ∧ N 6 < 40) : zI (T := Unit) l yX2_add (Cond.code yX2_add cX2_add 5 (some .int) :: wsL_law) ({ frames := 0, cells := 0, slots := 0, locals := 0 } : Room) Z [.ref (a 3), .int (iI f), .int (iI t), .int (iI (N 3))] (zf [pW Z a (N 6) (pkF N 0) (pkF N 1) (pkF N 2) (pkF N 3) (pkF N 4) (pkF N 5) (pkF N 6) (pkF N 7) (pkF N 8) (pkF N 9)]) (fun _ => zf [pW Z a (N 6 + 1) (zu (pkF N 0) (N 6) f) (zu (pkF N 1) (N 6) t) (zu (pkF N 2) (N 6) 0) (zu (pkF N 3) (N 6) f) (zu (pkF N 4) (N 6) 0) (zu (pkF N 5) (N 6) 0) (zu (pkF N 6) (N 6) 0) (zu (pkF N 7) (N 6) (N 3)) (zu (pkF N 8) (N 6) (-6)) (zu (pkF N 9) (N 6) 0)]) (fun ρ _ => ρ = N 6) := by
  refine zI_of (C := RX2) (by decide +kernel) rfl (Nat.le_of_ble_eq_true rfl) (fun _ => True) znI (fun X ok fin => ?_)
  refine z_lsub ok (lv' := [(0, .ref (a 3)), (1, .int (iI f)), (2, .int (iI t)), (3, .int (iI (N 3)))]) [0, 1, 2, 3] rfl ?_
  refine z_aload_n ok dX2_add_0 rfl ?_
  refine z_get (v := .int (iI (N 6))) ok zc2 0 rfl 0 (by decide) qf_RX2_9 rfl rfl dX2_add_1 ?_
  refine z_istore (lv' := [(4, .int (iI (N 6))), (0, .ref (a 3)), (1, .int (iI f)), (2, .int (iI t)), (3, .int (iI (N 3)))]) ok dX2_add_4 (by decide) rfl ?_
  refine z_iload ok dX2_add_6 rfl ?_
  refine z_bipush ok dX2_add_8 (by decide) ?_
  refine z_icmp_lt (tgt := 16) ok dX2_add_10 (by decide) (by omega) (by omega) (fun c10 => ?_) (fun c10 => ?_)
  · -- t
    refine z_aload_n ok dX2_add_16 rfl ?_
    refine z_get (v := .ref (a 4)) ok zc2 0 rfl 1 (by decide) qf_RX2_15 rfl rfl dX2_add_17 ?_
    refine z_iload ok dX2_add_20 rfl ?_
    refine z_iload_n ok dX2_add_22 rfl ?_
    refine z_iast (f := pkF N 0) (v := f) (ws' := zf [pW Z a (N 6) (zu (pkF N 0) (N 6) f) (pkF N 1) (pkF N 2) (pkF N 3) (pkF N 4) (pkF N 5) (pkF N 6) (pkF N 7) (pkF N 8) (pkF N 9)]) ok 1 rfl dX2_add_23 (by omega) (by decide) rfl ?_
    refine z_aload_n ok dX2_add_24 rfl ?_
    refine z_get (v := .ref (a 5)) ok zc2 0 rfl 2 (by decide) qf_RX2_19 rfl rfl dX2_add_25 ?_
    refine z_iload ok dX2_add_28 rfl ?_
    refine z_iload_n ok dX2_add_30 rfl ?_
    refine z_iast (f := pkF N 1) (v := t) (ws' := zf [pW Z a (N 6) (zu (pkF N 0) (N 6) f) (zu (pkF N 1) (N 6) t) (pkF N 2) (pkF N 3) (pkF N 4) (pkF N 5) (pkF N 6) (pkF N 7) (pkF N 8) (pkF N 9)]) ok 2 rfl dX2_add_31 (by omega) (by decide) rfl ?_
    refine z_aload_n ok dX2_add_32 rfl ?_
    refine z_get (v := .ref (a 6)) ok zc2 0 rfl 3 (by decide) qf_RX2_22 rfl rfl dX2_add_33 ?_
    refine z_iload ok dX2_add_36 rfl ?_
    refine z_iconst ok dX2_add_38 ?_
    refine z_iast (f := pkF N 2) (v := 0) (ws' := zf [pW Z a (N 6) (zu (pkF N 0) (N 6) f) (zu (pkF N 1) (N 6) t) (zu (pkF N 2) (N 6) 0) (pkF N 3) (pkF N 4) (pkF N 5) (pkF N 6) (pkF N 7) (pkF N 8) (pkF N 9)]) ok 3 rfl dX2_add_39 (by omega) (by decide) rfl ?_
    refine z_aload_n ok dX2_add_40 rfl ?_
    refine z_get (v := .ref (a 7)) ok zc2 0 rfl 4 (by decide) qf_RX2_25 rfl rfl dX2_add_41 ?_
    refine z_iload ok dX2_add_44 rfl ?_
    refine z_iload_n ok dX2_add_46 rfl ?_
    refine z_iast (f := pkF N 3) (v := f) (ws' := zf [pW Z a (N 6) (zu (pkF N 0) (N 6) f) (zu (pkF N 1) (N 6) t) (zu (pkF N 2) (N 6) 0) (zu (pkF N 3) (N 6) f) (pkF N 4) (pkF N 5) (pkF N 6) (pkF N 7) (pkF N 8) (pkF N 9)]) ok 4 rfl dX2_add_47 (by omega) (by decide) rfl ?_
    refine z_aload_n ok dX2_add_48 rfl ?_
    refine z_get (v := .ref (a 8)) ok zc2 0 rfl 5 (by decide) qf_RX2_28 rfl rfl dX2_add_49 ?_
    refine z_iload ok dX2_add_52 rfl ?_
    refine z_iconst ok dX2_add_54 ?_
    refine z_iast (f := pkF N 4) (v := 0) (ws' := zf [pW Z a (N 6) (zu (pkF N 0) (N 6) f) (zu (pkF N 1) (N 6) t) (zu (pkF N 2) (N 6) 0) (zu (pkF N 3) (N 6) f) (zu (pkF N 4) (N 6) 0) (pkF N 5) (pkF N 6) (pkF N 7) (pkF N 8) (pkF N 9)]) ok 5 rfl dX2_add_55 (by omega) (by decide) rfl ?_
    refine z_aload_n ok dX2_add_56 rfl ?_
    refine z_get (v := .ref (a 9)) ok zc2 0 rfl 6 (by decide) qf_RX2_31 rfl rfl dX2_add_57 ?_
    refine z_iload ok dX2_add_60 rfl ?_
    refine z_iconst ok dX2_add_62 ?_
    refine z_iast (f := pkF N 5) (v := 0) (ws' := zf [pW Z a (N 6) (zu (pkF N 0) (N 6) f) (zu (pkF N 1) (N 6) t) (zu (pkF N 2) (N 6) 0) (zu (pkF N 3) (N 6) f) (zu (pkF N 4) (N 6) 0) (zu (pkF N 5) (N 6) 0) (pkF N 6) (pkF N 7) (pkF N 8) (pkF N 9)]) ok 6 rfl dX2_add_63 (by omega) (by decide) rfl ?_
    refine z_aload_n ok dX2_add_64 rfl ?_
    refine z_get (v := .ref (a 10)) ok zc2 0 rfl 7 (by decide) qf_RX2_34 rfl rfl dX2_add_65 ?_
    refine z_iload ok dX2_add_68 rfl ?_
    refine z_iconst ok dX2_add_70 ?_
    refine z_iast (f := pkF N 6) (v := 0) (ws' := zf [pW Z a (N 6) (zu (pkF N 0) (N 6) f) (zu (pkF N 1) (N 6) t) (zu (pkF N 2) (N 6) 0) (zu (pkF N 3) (N 6) f) (zu (pkF N 4) (N 6) 0) (zu (pkF N 5) (N 6) 0) (zu (pkF N 6) (N 6) 0) (pkF N 7) (pkF N 8) (pkF N 9)]) ok 7 rfl dX2_add_71 (by omega) (by decide) rfl ?_
    refine z_aload_n ok dX2_add_72 rfl ?_
    refine z_get (v := .ref (a 11)) ok zc2 0 rfl 8 (by decide) qf_RX2_37 rfl rfl dX2_add_73 ?_
    refine z_iload ok dX2_add_76 rfl ?_
    refine z_iload_n ok dX2_add_78 rfl ?_
    refine z_iast (f := pkF N 7) (v := N 3) (ws' := zf [pW Z a (N 6) (zu (pkF N 0) (N 6) f) (zu (pkF N 1) (N 6) t) (zu (pkF N 2) (N 6) 0) (zu (pkF N 3) (N 6) f) (zu (pkF N 4) (N 6) 0) (zu (pkF N 5) (N 6) 0) (zu (pkF N 6) (N 6) 0) (zu (pkF N 7) (N 6) (N 3)) (pkF N 8) (pkF N 9)]) ok 8 rfl dX2_add_79 (by omega) (by decide) rfl ?_
    refine z_aload_n ok dX2_add_80 rfl ?_
    refine z_get (v := .ref (a 12)) ok zc2 0 rfl 9 (by decide) qf_RX2_40 rfl rfl dX2_add_81 ?_
    refine z_iload ok dX2_add_84 rfl ?_
    refine z_bipush ok dX2_add_86 (by decide) ?_
    refine z_iast (f := pkF N 8) (v := (-6)) (ws' := zf [pW Z a (N 6) (zu (pkF N 0) (N 6) f) (zu (pkF N 1) (N 6) t) (zu (pkF N 2) (N 6) 0) (zu (pkF N 3) (N 6) f) (zu (pkF N 4) (N 6) 0) (zu (pkF N 5) (N 6) 0) (zu (pkF N 6) (N 6) 0) (zu (pkF N 7) (N 6) (N 3)) (zu (pkF N 8) (N 6) (-6)) (pkF N 9)]) ok 9 rfl dX2_add_88 (by omega) (by decide) rfl ?_
    refine z_aload_n ok dX2_add_89 rfl ?_
    refine z_get (v := .ref (a 13)) ok zc2 0 rfl 10 (by decide) qf_RX2_43 rfl rfl dX2_add_90 ?_
    refine z_iload ok dX2_add_93 rfl ?_
    refine z_iconst ok dX2_add_95 ?_
    refine z_iast (f := pkF N 9) (v := 0) (ws' := zf [pW Z a (N 6) (zu (pkF N 0) (N 6) f) (zu (pkF N 1) (N 6) t) (zu (pkF N 2) (N 6) 0) (zu (pkF N 3) (N 6) f) (zu (pkF N 4) (N 6) 0) (zu (pkF N 5) (N 6) 0) (zu (pkF N 6) (N 6) 0) (zu (pkF N 7) (N 6) (N 3)) (zu (pkF N 8) (N 6) (-6)) (zu (pkF N 9) (N 6) 0)]) ok 10 rfl dX2_add_96 (by omega) (by decide) rfl ?_
    refine z_aload_n ok dX2_add_97 rfl ?_
    refine z_dup ok dX2_add_98 rfl ?_
    refine z_get (v := .int (iI (N 6))) ok zc2 0 rfl 0 (by decide) qf_RX2_9 rfl rfl dX2_add_99 ?_
    refine z_iconst ok dX2_add_102 ?_
    refine z_iadd ok dX2_add_103 ?_
    refine z_put (ws' := zf [pW Z a ((N 6) + 1) (zu (pkF N 0) (N 6) f) (zu (pkF N 1) (N 6) t) (zu (pkF N 2) (N 6) 0) (zu (pkF N 3) (N 6) f) (zu (pkF N 4) (N 6) 0) (zu (pkF N 5) (N 6) 0) (zu (pkF N 6) (N 6) 0) (zu (pkF N 7) (N 6) (N 3)) (zu (pkF N 8) (N 6) (-6)) (zu (pkF N 9) (N 6) 0)]) ok zc2 0 rfl 0 (by decide) qf_RX2_9 rfl rfl rfl rfl (Nat.le_of_ble_eq_true rfl) dX2_add_104 rfl ?_
    refine z_iload ok dX2_add_107 rfl ?_
    exact fin (N 6) () 109 _ _ _ dX2_add_109 (trivial) (rfl) (by decide) (by decide)
  · -- f
    exact absurd c10 (by omega)
