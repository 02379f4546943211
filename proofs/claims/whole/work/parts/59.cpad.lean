set_option maxRecDepth 20000 in
theorem c_X3_signHere {l : Launch} {Z : zZ} {e : Nat → Nat} {P : Int → Int} {ln od : Int} {k1 f1 s1 : Int → Int} {pl : Int} (hpd : padOK P ln) (hpl : 0 ≤ pl ∧ pl ≤ 1000) : zI (T := Unit) l yX3_signHere (Cond.code yX3_signHere cX3_signHere 1 (some .char) :: wsL_law) ({ frames := 0, cells := 0, slots := 0, locals := 0 } : Room) Z [.ref (e 0)] (zf [dW Z e P ln od k1 f1 s1 pl]) (fun _ => zf [dW Z e P ln od k1 f1 s1 pl]) (fun ρ _ => ρ = sgn P ln pl) := by
  refine zI_of (C := RX3) (by decide +kernel) rfl (Nat.le_of_ble_eq_true rfl) (fun ρ => 0 ≤ ρ ∧ ρ < 65536) znC (fun X ok fin => ?_)
  have hln := hpd.1
  have hsg := sgn_rng hpd hpl.1
  refine z_lsub ok (lv' := [(0, .ref (e 0))]) [0] rfl ?_
  refine z_aload_n ok dX3_signHere_0 rfl ?_
  refine z_get (v := .int (iI pl)) ok zc3 0 rfl 6 (by decide) qf_RX3_32 rfl rfl dX3_signHere_1 ?_
  refine z_if_lt (tgt := 39) ok dX3_signHere_4 (by decide) (by omega) (fun c4 => ?_) (fun c4 => ?_)
  · -- t
    refine z_iconst ok dX3_signHere_39 ?_
    exact fin 0 () 40 _ _ _ dX3_signHere_40 (by omega) (by first | exact hse.symm | (unfold sgn; rw [if_neg (by omega)])) (by decide) (by decide)
  · -- f
    refine z_aload_n ok dX3_signHere_7 rfl ?_
    refine z_get (v := .int (iI pl)) ok zc3 0 rfl 6 (by decide) qf_RX3_32 rfl rfl dX3_signHere_8 ?_
    refine z_aload_n ok dX3_signHere_11 rfl ?_
    refine z_get (v := .int (iI ln)) ok zc3 0 rfl 1 (by decide) qf_RX3_15 rfl rfl dX3_signHere_12 ?_
    refine z_icmp_ge (tgt := 39) ok dX3_signHere_15 (by decide) (by omega) (by omega) (fun c15 => ?_) (fun c15 => ?_)
    · -- t
      refine z_iconst ok dX3_signHere_39 ?_
      exact fin 0 () 40 _ _ _ dX3_signHere_40 (by omega) (by first | exact hse.symm | (unfold sgn; rw [if_neg (by omega)])) (by decide) (by decide)
    · -- f
      refine z_aload_n ok dX3_signHere_18 rfl ?_
      refine z_get (v := .int (iI pl)) ok zc3 0 rfl 6 (by decide) qf_RX3_32 rfl rfl dX3_signHere_19 ?_
      refine z_bipush ok dX3_signHere_22 (by decide) ?_
      refine z_icmp_ge (tgt := 39) ok dX3_signHere_24 (by decide) (by omega) (by omega) (fun c24 => ?_) (fun c24 => ?_)
      · -- t
        refine z_iconst ok dX3_signHere_39 ?_
        exact fin 0 () 40 _ _ _ dX3_signHere_40 (by omega) (by first | exact hse.symm | (unfold sgn; rw [if_neg (by omega)])) (by decide) (by decide)
      · -- f
        have hse : sgn P ln pl = P pl := if_pos (by omega)
        refine z_aload_n ok dX3_signHere_27 rfl ?_
        refine z_get (v := .ref (e 1)) ok zc3 0 rfl 0 (by decide) qf_RX3_11 rfl rfl dX3_signHere_28 ?_
        refine z_aload_n ok dX3_signHere_31 rfl ?_
        refine z_get (v := .int (iI pl)) ok zc3 0 rfl 6 (by decide) qf_RX3_32 rfl rfl dX3_signHere_32 ?_
        refine z_cald (f := P) ok 1 rfl dX3_signHere_35 (by omega) (by decide) ?_
        refine z_goto (tgt := 40) ok dX3_signHere_36 (by decide) ?_
        exact fin (P pl) () 40 _ _ _ dX3_signHere_40 (by omega) (by first | exact hse.symm | (unfold sgn; rw [if_neg (by omega)])) (by decide) (by decide)
set_option maxRecDepth 20000 in
theorem c_X3_readSign {l : Launch} {Z : zZ} {e : Nat → Nat} {P : Int → Int} {ln od : Int} {k1 f1 s1 : Int → Int} {pl : Int} {c : Int} (hpd : padOK P ln) (hpl : 0 ≤ pl ∧ pl ≤ 1000) (hc : 0 ≤ c ∧ c ≤ 1000) : zI (T := Int) l yX3_readSign (Cond.code yX3_readSign cX3_readSign 2 (some .boolean) :: wsL_law) ({ frames := 1, cells := 0, slots := 0, locals := 20 } : Room) Z [.ref (e 0), .int (iI c)] (zf [dW Z e P ln od k1 f1 s1 pl]) (fun u => zf [dW Z e P ln od k1 f1 s1 u]) (fun ρ u => (sgn P ln pl = c ∧ ρ = 1 ∧ u = pl + 1) ∨ (¬ sgn P ln pl = c ∧ ρ = 0 ∧ u = pl)) := by
  refine zI_of (C := RX3) (by decide +kernel) rfl (Nat.le_of_ble_eq_true rfl) (fun ρ => ρ = 0 ∨ ρ = 1) znZ (fun X ok fin => ?_)
  have hln := hpd.1
  have hsg := sgn_rng hpd hpl.1
  refine z_lsub ok (lv' := [(0, .ref (e 0)), (1, .int (iI c))]) [0, 1] rfl ?_
  refine z_aload_n ok dX3_readSign_0 rfl ?_
  refine z_callVi0 ok (fun l => c_X3_signHere  (by omega) (by omega)) zm_X3_signHere zv_X3_signHere qm_RX3_49 dX3_readSign_1 (by decide) (by decide) rfl rfl (Nat.le_of_ble_eq_true rfl) (q0 := 0) rfl rfl rfl (fun ρ _ hρ => ?_)
  subst hρ
  refine z_eq (ws' := zf [dW Z e P ln od k1 f1 s1 pl]) rfl ?_
  refine z_iload_n ok dX3_readSign_4 rfl ?_
  refine z_icmp_eq (tgt := 10) ok dX3_readSign_5 (by decide) (by omega) (by omega) (fun c5 => ?_) (fun c5 => ?_)
  · -- t
    refine z_aload_n ok dX3_readSign_10 rfl ?_
    refine z_dup ok dX3_readSign_11 rfl ?_
    refine z_get (v := .int (iI pl)) ok zc3 0 rfl 6 (by decide) qf_RX3_32 rfl rfl dX3_readSign_12 ?_
    refine z_iconst ok dX3_readSign_15 ?_
    refine z_iadd ok dX3_readSign_16 ?_
    refine z_put (ws' := zf [dW Z e P ln od k1 f1 s1 (pl + 1)]) ok zc3 0 rfl 6 (by decide) qf_RX3_32 rfl rfl rfl rfl (Nat.le_of_ble_eq_true rfl) dX3_readSign_17 rfl ?_
    refine z_iconst ok dX3_readSign_20 ?_
    exact fin 1 (pl + 1) 21 _ _ _ dX3_readSign_21 (by first | decide | exact zb_01 _ | omega) (by first | exact Or.inl ⟨by omega, rfl, rfl⟩ | exact Or.inr ⟨by omega, rfl, rfl⟩) (by decide) (by decide)
  · -- f
    refine z_iconst ok dX3_readSign_8 ?_
    exact fin 0 pl 9 _ _ _ dX3_readSign_9 (by first | decide | exact zb_01 _ | omega) (by first | exact Or.inl ⟨by omega, rfl, rfl⟩ | exact Or.inr ⟨by omega, rfl, rfl⟩) (by decide) (by decide)
set_option maxRecDepth 20000 in
theorem c_X3_readDigit {l : Launch} {Z : zZ} {e : Nat → Nat} {P : Int → Int} {ln od : Int} {k1 f1 s1 : Int → Int} {pl : Int} (hpd : padOK P ln) (hpl : 0 ≤ pl ∧ pl ≤ 1000) : zI (T := Int) l yX3_readDigit (Cond.code yX3_readDigit cX3_readDigit 2 (some .int) :: wsL_law) ({ frames := 1, cells := 0, slots := 0, locals := 20 } : Room) Z [.ref (e 0)] (zf [dW Z e P ln od k1 f1 s1 pl]) (fun u => zf [dW Z e P ln od k1 f1 s1 u]) (fun ρ u => ((48 ≤ sgn P ln pl ∧ sgn P ln pl ≤ 57) ∧ ρ = sgn P ln pl - 48 ∧ u = pl + 1) ∨ (¬ (48 ≤ sgn P ln pl ∧ sgn P ln pl ≤ 57) ∧ ρ = -1 ∧ u = pl)) := by
  refine zI_of (C := RX3) (by decide +kernel) rfl (Nat.le_of_ble_eq_true rfl) (fun _ => True) znI (fun X ok fin => ?_)
  have hln := hpd.1
  have hsg := sgn_rng hpd hpl.1
  refine z_lsub ok (lv' := [(0, .ref (e 0))]) [0] rfl ?_
  refine z_aload_n ok dX3_readDigit_0 rfl ?_
  refine z_callVi0 ok (fun l => c_X3_signHere  (by omega) (by omega)) zm_X3_signHere zv_X3_signHere qm_RX3_49 dX3_readDigit_1 (by decide) (by decide) rfl rfl (Nat.le_of_ble_eq_true rfl) (q0 := 0) rfl rfl rfl (fun ρ _ hρ => ?_)
  subst hρ
  refine z_eq (ws' := zf [dW Z e P ln od k1 f1 s1 pl]) rfl ?_
  refine z_istore_n (lv' := [(1, .int (iI (sgn P ln pl))), (0, .ref (e 0))]) ok dX3_readDigit_4 (by decide) rfl ?_
  refine z_iload_n ok dX3_readDigit_5 rfl ?_
  refine z_bipush ok dX3_readDigit_6 (by decide) ?_
  refine z_icmp_lt (tgt := 17) ok dX3_readDigit_8 (by decide) (by omega) (by omega) (fun c8 => ?_) (fun c8 => ?_)
  · -- t
    refine z_iconst ok dX3_readDigit_17 ?_
    exact fin (-1) pl 18 _ _ _ dX3_readDigit_18 (trivial) (by first | exact Or.inl ⟨by omega, rfl, rfl⟩ | exact Or.inr ⟨by omega, rfl, rfl⟩) (by decide) (by decide)
  · -- f
    refine z_iload_n ok dX3_readDigit_11 rfl ?_
    refine z_bipush ok dX3_readDigit_12 (by decide) ?_
    refine z_icmp_le (tgt := 19) ok dX3_readDigit_14 (by decide) (by omega) (by omega) (fun c14 => ?_) (fun c14 => ?_)
    · -- t
      refine z_aload_n ok dX3_readDigit_19 rfl ?_
      refine z_dup ok dX3_readDigit_20 rfl ?_
      refine z_get (v := .int (iI pl)) ok zc3 0 rfl 6 (by decide) qf_RX3_32 rfl rfl dX3_readDigit_21 ?_
      refine z_iconst ok dX3_readDigit_24 ?_
      refine z_iadd ok dX3_readDigit_25 ?_
      refine z_put (ws' := zf [dW Z e P ln od k1 f1 s1 (pl + 1)]) ok zc3 0 rfl 6 (by decide) qf_RX3_32 rfl rfl rfl rfl (Nat.le_of_ble_eq_true rfl) dX3_readDigit_26 rfl ?_
      refine z_iload_n ok dX3_readDigit_29 rfl ?_
      refine z_bipush ok dX3_readDigit_30 (by decide) ?_
      refine z_isub ok dX3_readDigit_32 ?_
      exact fin ((sgn P ln pl) - 48) (pl + 1) 33 _ _ _ dX3_readDigit_33 (trivial) (by first | exact Or.inl ⟨by omega, rfl, rfl⟩ | exact Or.inr ⟨by omega, rfl, rfl⟩) (by decide) (by decide)
    · -- f
      refine z_iconst ok dX3_readDigit_17 ?_
      exact fin (-1) pl 18 _ _ _ dX3_readDigit_18 (trivial) (by first | exact Or.inl ⟨by omega, rfl, rfl⟩ | exact Or.inr ⟨by omega, rfl, rfl⟩) (by decide) (by decide)
set_option maxRecDepth 20000 in
theorem c_X3_readNumber {l : Launch} {Z : zZ} {e : Nat → Nat} {P : Int → Int} {ln od : Int} {k1 f1 s1 : Int → Int} {pl : Int} (hpd : padOK P ln) (hpl : 0 ≤ pl ∧ pl ≤ 900) : zI (T := Int) l yX3_readNumber (Cond.code yX3_readNumber cX3_readNumber 3 (some .int) :: wsL_law) ({ frames := 2, cells := 0, slots := 0, locals := 41 } : Room) Z [.ref (e 0)] (zf [dW Z e P ln od k1 f1 s1 pl]) (fun u => zf [dW Z e P ln od k1 f1 s1 u]) (fun ρ u => ρ = numV P ln pl ∧ u = numP P ln pl) := by
  refine zI_of (C := RX3) (by decide +kernel) rfl (Nat.le_of_ble_eq_true rfl) (fun _ => True) znI (fun X ok fin => ?_)
  have hln := hpd.1
  have hsg := sgn_rng hpd hpl.1
  have hsg2 := sgn_rng hpd (by omega : 0 ≤ pl + 1)
  refine z_lsub ok (lv' := [(0, .ref (e 0))]) [0] rfl ?_
  refine z_aload_n ok dX3_readNumber_0 rfl ?_
  refine z_callVi0 ok (fun l => c_X3_readDigit  (hpd) (by omega)) zm_X3_readDigit zv_X3_readDigit qm_RX3_60 dX3_readNumber_1 (by decide) (by decide) rfl rfl (Nat.le_of_ble_eq_true rfl) (q0 := 0) rfl rfl rfl (fun r1 u1 hp1 => ?_)
  obtain ⟨pl_1, rfl⟩ : ∃ z, z = u1 := ⟨_, rfl⟩
  try dsimp only at hp1
  refine z_eq (ws' := zf [dW Z e P ln od k1 f1 s1 pl_1]) rfl ?_
  have hr1 : -1 ≤ r1 ∧ r1 ≤ 9 ∧ pl ≤ pl_1 ∧ pl_1 ≤ pl + 1 := by rcases hp1 with ⟨e1, e2, e3⟩ | ⟨e1, e2, e3⟩ <;> omega
  refine z_istore_n (lv' := [(1, .int (iI r1)), (0, .ref (e 0))]) ok dX3_readNumber_4 (by decide) rfl ?_
  refine z_iload_n ok dX3_readNumber_5 rfl ?_
  refine z_if_gt (tgt := 11) ok dX3_readNumber_6 (by decide) (by omega) (fun c6 => ?_) (fun c6 => ?_)
  · -- t
    refine z_aload_n ok dX3_readNumber_11 rfl ?_
    refine z_callVi0 ok (fun l => c_X3_readDigit  (hpd) (by omega)) zm_X3_readDigit zv_X3_readDigit qm_RX3_60 dX3_readNumber_12 (by decide) (by decide) rfl rfl (Nat.le_of_ble_eq_true rfl) (q0 := 0) rfl rfl rfl (fun r12 u12 hp12 => ?_)
    obtain ⟨pl_12, rfl⟩ : ∃ z, z = u12 := ⟨_, rfl⟩
    try dsimp only at hp12
    refine z_eq (ws' := zf [dW Z e P ln od k1 f1 s1 pl_12]) rfl ?_
    have hq1 : (48 ≤ sgn P ln pl ∧ sgn P ln pl ≤ 57) ∧ r1 = sgn P ln pl - 48 ∧ pl_1 = pl + 1 := by rcases hp1 with h | ⟨e1, e2, e3⟩; exact h; omega
    have hpe := hq1.2.2
    rw [hpe] at hp12
    have hr2 : -1 ≤ r12 ∧ r12 ≤ 9 := by rcases hp12 with ⟨e1, e2, e3⟩ | ⟨e1, e2, e3⟩ <;> omega
    refine z_istore_n (lv' := [(2, .int (iI r12)), (1, .int (iI r1)), (0, .ref (e 0))]) ok dX3_readNumber_15 (by decide) rfl ?_
    refine z_iload_n ok dX3_readNumber_16 rfl ?_
    refine z_iconst ok dX3_readNumber_17 ?_
    refine z_icmp_ne (tgt := 25) ok dX3_readNumber_18 (by decide) (by omega) (by omega) (fun c18 => ?_) (fun c18 => ?_)
    · -- t
      refine z_bipush ok dX3_readNumber_25 (by decide) ?_
      refine z_iload_n ok dX3_readNumber_27 rfl ?_
      refine z_imul ok dX3_readNumber_28 ?_
      refine z_iload_n ok dX3_readNumber_29 rfl ?_
      refine z_iadd ok dX3_readNumber_30 ?_
      exact fin ((10 * r1) + r12) pl_12 31 _ _ _ dX3_readNumber_31 (trivial) (by obtain ⟨f1, f2, f3⟩ := hq1; rcases hp12 with ⟨e1, e2, e3⟩ | ⟨e1, e2, e3⟩; (unfold numV numP; rw [if_pos f1, if_pos f1, if_pos (by omega), if_pos (by omega)]; constructor <;> omega); (unfold numV numP; rw [if_pos f1, if_pos f1, if_neg (by omega), if_neg (by omega)]; constructor <;> omega)) (by decide) (by decide)
    · -- f
      refine z_iload_n ok dX3_readNumber_21 rfl ?_
      refine z_goto (tgt := 31) ok dX3_readNumber_22 (by decide) ?_
      exact fin r1 pl_12 31 _ _ _ dX3_readNumber_31 (trivial) (by obtain ⟨f1, f2, f3⟩ := hq1; rcases hp12 with ⟨e1, e2, e3⟩ | ⟨e1, e2, e3⟩; (unfold numV numP; rw [if_pos f1, if_pos f1, if_pos (by omega), if_pos (by omega)]; constructor <;> omega); (unfold numV numP; rw [if_pos f1, if_pos f1, if_neg (by omega), if_neg (by omega)]; constructor <;> omega)) (by decide) (by decide)
  · -- f
    refine z_iload_n ok dX3_readNumber_9 rfl ?_
    exact fin r1 pl_1 10 _ _ _ dX3_readNumber_10 (trivial) (by rcases hp1 with ⟨e1, e2, e3⟩ | ⟨e1, e2, e3⟩; (unfold numV numP; rw [if_pos e1, if_pos e1, if_neg (by omega), if_neg (by omega)]; constructor <;> omega); (unfold numV numP; rw [if_neg e1, if_neg e1]; constructor <;> omega)) (by decide) (by decide)
set_option maxRecDepth 20000 in
theorem c_X3_sideOfSign {l : Launch} {Z : zZ} {c : Int} (hc : 0 ≤ c ∧ c ≤ 1000) : zI (T := Unit) l yX3_sideOfSign (Cond.code yX3_sideOfSign cX3_sideOfSign 1 (some .int) :: wsL_law) ({ frames := 0, cells := 0, slots := 0, locals := 0 } : Room) Z [.int (iI c)] [] (fun _ => []) (fun ρ _ => ρ = sdC c) := by
  refine zI_of (C := RX3) (by decide +kernel) rfl (Nat.le_of_ble_eq_true rfl) (fun _ => True) znI (fun X ok fin => ?_)
  refine z_lsub ok (lv' := [(0, .int (iI c))]) [0] rfl ?_
  refine z_iload_n ok dX3_sideOfSign_0 rfl ?_
  rcases (show (c ≠ 101 ∧ c ≠ 110 ∧ c ≠ 115 ∧ c ≠ 119) ∨ c = 101 ∨ c = 110 ∨ c = 115 ∨ c = 119 by omega) with c1 | c1 | c1 | c1 | c1
  · -- switch
    refine z_lookup (off := 51) (tgt := 52) ok dX3_sideOfSign_1 (by omega) (by decide) (zlk_no (by simp; omega)) (by decide) ?_
    refine z_iconst ok dX3_sideOfSign_52 ?_
    exact fin (-1) () 53 _ _ _ dX3_sideOfSign_53 (trivial) (by unfold sdC; (repeat' split) <;> omega) (by decide) (by decide)
  · -- switch
    refine z_lookup (off := 43) (tgt := 44) ok dX3_sideOfSign_1 (by omega) (by decide) (by rw [c1]; rfl) (by decide) ?_
    refine z_iconst ok dX3_sideOfSign_44 ?_
    exact fin 0 () 45 _ _ _ dX3_sideOfSign_45 (trivial) (by unfold sdC; (repeat' split) <;> omega) (by decide) (by decide)
  · -- switch
    refine z_lookup (off := 47) (tgt := 48) ok dX3_sideOfSign_1 (by omega) (by decide) (by rw [c1]; rfl) (by decide) ?_
    refine z_iconst ok dX3_sideOfSign_48 ?_
    exact fin 2 () 49 _ _ _ dX3_sideOfSign_49 (trivial) (by unfold sdC; (repeat' split) <;> omega) (by decide) (by decide)
  · -- switch
    refine z_lookup (off := 49) (tgt := 50) ok dX3_sideOfSign_1 (by omega) (by decide) (by rw [c1]; rfl) (by decide) ?_
    refine z_iconst ok dX3_sideOfSign_50 ?_
    exact fin 3 () 51 _ _ _ dX3_sideOfSign_51 (trivial) (by unfold sdC; (repeat' split) <;> omega) (by decide) (by decide)
  · -- switch
    refine z_lookup (off := 45) (tgt := 46) ok dX3_sideOfSign_1 (by omega) (by decide) (by rw [c1]; rfl) (by decide) ?_
    refine z_iconst ok dX3_sideOfSign_46 ?_
    exact fin 1 () 47 _ _ _ dX3_sideOfSign_47 (trivial) (by unfold sdC; (repeat' split) <;> omega) (by decide) (by decide)
set_option maxRecDepth 20000 in
theorem c_X3_readSide {l : Launch} {Z : zZ} {e : Nat → Nat} {P : Int → Int} {ln od : Int} {k1 f1 s1 : Int → Int} {pl : Int} (hpd : padOK P ln) (hpl : 0 ≤ pl ∧ pl ≤ 1000) : zI (T := Int) l yX3_readSide (Cond.code yX3_readSide cX3_readSide 3 (some .int) :: wsL_law) ({ frames := 1, cells := 0, slots := 0, locals := 20 } : Room) Z [.ref (e 0)] (zf [dW Z e P ln od k1 f1 s1 pl]) (fun u => zf [dW Z e P ln od k1 f1 s1 u]) (fun ρ u => ρ = sdV P ln pl ∧ u = (if sdV P ln pl < 0 then pl else pl + 1)) := by
  refine zI_of (C := RX3) (by decide +kernel) rfl (Nat.le_of_ble_eq_true rfl) (fun _ => True) znI (fun X ok fin => ?_)
  have hln := hpd.1
  have hsg := sgn_rng hpd hpl.1
  have hsd := sd_rng P ln pl
  have hsc : sdC (sgn P ln pl) = sdV P ln pl := rfl
  refine z_lsub ok (lv' := [(0, .ref (e 0))]) [0] rfl ?_
  refine z_aload_n ok dX3_readSide_0 rfl ?_
  refine z_callVi0 ok (fun l => c_X3_signHere  (by omega) (by omega)) zm_X3_signHere zv_X3_signHere qm_RX3_49 dX3_readSide_1 (by decide) (by decide) rfl rfl (Nat.le_of_ble_eq_true rfl) (q0 := 0) rfl rfl rfl (fun ρ _ hρ => ?_)
  subst hρ
  refine z_eq (ws' := zf [dW Z e P ln od k1 f1 s1 pl]) rfl ?_
  refine z_istore_n (lv' := [(1, .int (iI (sgn P ln pl))), (0, .ref (e 0))]) ok dX3_readSide_4 (by decide) rfl ?_
  refine z_iload_n ok dX3_readSide_5 rfl ?_
  refine z_callSie ok (fun l => c_X3_sideOfSign  (by omega)) zm_X3_sideOfSign qt_X3_sideOfSign qm_RX3_63 dX3_readSide_6 (by decide) (by decide) rfl rfl (Nat.le_of_ble_eq_true rfl) (fun ρ _ hρ => ?_)
  subst hρ
  rw [hsc]
  refine z_istore_n (lv' := [(2, .int (iI (sdV P ln pl))), (1, .int (iI (sgn P ln pl))), (0, .ref (e 0))]) ok dX3_readSide_9 (by decide) rfl ?_
  refine z_iload_n ok dX3_readSide_10 rfl ?_
  refine z_iconst ok dX3_readSide_11 ?_
  refine z_icmp_eq (tgt := 25) ok dX3_readSide_12 (by decide) (by omega) (by omega) (fun c12 => ?_) (fun c12 => ?_)
  · -- t
    refine z_iload_n ok dX3_readSide_25 rfl ?_
    exact fin (sdV P ln pl) pl 26 _ _ _ dX3_readSide_26 (trivial) (⟨rfl, by first | (rw [if_pos (by omega)]; done) | (rw [if_neg (by omega)]; done)⟩) (by decide) (by decide)
  · -- f
    refine z_aload_n ok dX3_readSide_15 rfl ?_
    refine z_dup ok dX3_readSide_16 rfl ?_
    refine z_get (v := .int (iI pl)) ok zc3 0 rfl 6 (by decide) qf_RX3_32 rfl rfl dX3_readSide_17 ?_
    refine z_iconst ok dX3_readSide_20 ?_
    refine z_iadd ok dX3_readSide_21 ?_
    refine z_put (ws' := zf [dW Z e P ln od k1 f1 s1 (pl + 1)]) ok zc3 0 rfl 6 (by decide) qf_RX3_32 rfl rfl rfl rfl (Nat.le_of_ble_eq_true rfl) dX3_readSide_22 rfl ?_
    refine z_iload_n ok dX3_readSide_25 rfl ?_
    exact fin (sdV P ln pl) (pl + 1) 26 _ _ _ dX3_readSide_26 (trivial) (⟨rfl, by first | (rw [if_pos (by omega)]; done) | (rw [if_neg (by omega)]; done)⟩) (by decide) (by decide)
