set_option maxRecDepth 20000 in
theorem c_X4_reach {l : Launch} {Z : zZ} {b : Nat → Nat} {ef : Int} {op ln nm qu : Int → Int} {qd : Int} {to x len wy : Int} (hto : 0 ≤ to ∧ to < 25) (hx : 0 ≤ x ∧ x < 50) (hq : 0 ≤ qd ∧ qd ≤ 50) (hk : 0 ≤ ln (to * 50 + x) ∧ ln (to * 50 + x) ≤ 1000) (hl : 0 ≤ len ∧ len ≤ 1000) : zN (T := (Int → Int) × (Int → Int) × (Int → Int) × Int) l yX4_reach (Cond.code yX4_reach cX4_reach 6 none :: wsL_law) ({ frames := 0, cells := 0, slots := 0, locals := 0 } : Room) Z [.ref (b 0), .int (iI to), .int (iI x), .int (iI len), .int (iI wy)] (zf [rW Z b ef op ln nm qu qd]) (fun u => zf [rW Z b ef op u.1 u.2.1 u.2.2.1 u.2.2.2]) (fun u => rch to x len wy ln nm qu qd u.1 u.2.1 u.2.2.1 u.2.2.2) := by
  refine zN_of (C := RX4) (by decide +kernel) rfl (Nat.le_of_ble_eq_true rfl) (fun X ok fin => ?_)
  refine z_lsub ok (lv' := [(0, .ref (b 0)), (1, .int (iI to)), (2, .int (iI x)), (3, .int (iI len)), (4, .int (iI wy))]) [0, 1, 2, 3, 4] rfl ?_
  refine z_aload_n ok dX4_reach_0 rfl ?_
  refine z_get (v := .ref (b 2)) ok zc4 0 rfl 2 (by decide) qf_RX4_19 rfl rfl dX4_reach_1 ?_
  refine z_iload_n ok dX4_reach_4 rfl ?_
  refine z_bipush ok dX4_reach_5 (by decide) ?_
  refine z_imul ok dX4_reach_7 ?_
  refine z_iload_n ok dX4_reach_8 rfl ?_
  refine z_iadd ok dX4_reach_9 ?_
  refine z_iald (f := ln) ok 2 rfl dX4_reach_10 (by omega) (by decide) ?_
  refine z_istore (lv' := [(5, .int (iI (ln ((to * 50) + x)))), (0, .ref (b 0)), (1, .int (iI to)), (2, .int (iI x)), (3, .int (iI len)), (4, .int (iI wy))]) ok dX4_reach_11 (by decide) rfl ?_
  refine z_iload ok dX4_reach_13 rfl ?_
  refine z_sipush ok dX4_reach_15 (by decide) ?_
  refine z_icmp_ne (tgt := 62) ok dX4_reach_18 (by decide) (by omega) (by omega) (fun c18 => ?_) (fun c18 => ?_)
  · -- t
    refine z_iload ok dX4_reach_62 rfl ?_
    refine z_iload_n ok dX4_reach_64 rfl ?_
    refine z_icmp_lt (tgt := 79) ok dX4_reach_65 (by decide) (by omega) (by omega) (fun c65 => ?_) (fun c65 => ?_)
    · -- t
      exact fin (ln, nm, qu, qd) 79 _ _ _ dX4_reach_79 (⟨by first | exact Or.inl ⟨by omega, by omega, rfl, rfl, rfl⟩ | exact Or.inr ⟨by omega, rfl, rfl, rfl⟩, by first | exact Or.inl ⟨by omega, rfl⟩ | exact Or.inr ⟨by omega, rfl⟩⟩) (by decide) (by decide)
    · -- f
      refine z_aload_n ok dX4_reach_68 rfl ?_
      refine z_get (v := .ref (b 3)) ok zc4 0 rfl 3 (by decide) qf_RX4_22 rfl rfl dX4_reach_69 ?_
      refine z_iload_n ok dX4_reach_72 rfl ?_
      refine z_dup2 ok dX4_reach_73 rfl rfl ?_
      refine z_iald (f := nm) ok 3 rfl dX4_reach_74 (by omega) (by decide) ?_
      refine z_iload ok dX4_reach_75 rfl ?_
      refine z_iadd ok dX4_reach_77 ?_
      refine z_iast (f := nm) (v := (nm x) + wy) (ws' := zf [rW Z b ef op ln (zu nm x ((nm x) + wy)) qu qd]) ok 3 rfl dX4_reach_78 (by omega) (by decide) rfl ?_
      exact fin (ln, zu nm x ((nm x) + wy), qu, qd) 79 _ _ _ dX4_reach_79 (⟨by first | exact Or.inl ⟨by omega, by omega, rfl, rfl, rfl⟩ | exact Or.inr ⟨by omega, rfl, rfl, rfl⟩, by first | exact Or.inl ⟨by omega, rfl⟩ | exact Or.inr ⟨by omega, rfl⟩⟩) (by decide) (by decide)
  · -- f
    refine z_aload_n ok dX4_reach_21 rfl ?_
    refine z_get (v := .int (iI qd)) ok zc4 0 rfl 5 (by decide) qf_RX4_28 rfl rfl dX4_reach_22 ?_
    refine z_bipush ok dX4_reach_25 (by decide) ?_
    refine z_icmp_ge (tgt := 62) ok dX4_reach_27 (by decide) (by omega) (by omega) (fun c27 => ?_) (fun c27 => ?_)
    · -- t
      refine z_iload ok dX4_reach_62 rfl ?_
      refine z_iload_n ok dX4_reach_64 rfl ?_
      refine z_icmp_lt (tgt := 79) ok dX4_reach_65 (by decide) (by omega) (by omega) (fun c65 => ?_) (fun c65 => ?_)
      · -- t
        exact fin (ln, nm, qu, qd) 79 _ _ _ dX4_reach_79 (⟨by first | exact Or.inl ⟨by omega, by omega, rfl, rfl, rfl⟩ | exact Or.inr ⟨by omega, rfl, rfl, rfl⟩, by first | exact Or.inl ⟨by omega, rfl⟩ | exact Or.inr ⟨by omega, rfl⟩⟩) (by decide) (by decide)
      · -- f
        refine z_aload_n ok dX4_reach_68 rfl ?_
        refine z_get (v := .ref (b 3)) ok zc4 0 rfl 3 (by decide) qf_RX4_22 rfl rfl dX4_reach_69 ?_
        refine z_iload_n ok dX4_reach_72 rfl ?_
        refine z_dup2 ok dX4_reach_73 rfl rfl ?_
        refine z_iald (f := nm) ok 3 rfl dX4_reach_74 (by omega) (by decide) ?_
        refine z_iload ok dX4_reach_75 rfl ?_
        refine z_iadd ok dX4_reach_77 ?_
        refine z_iast (f := nm) (v := (nm x) + wy) (ws' := zf [rW Z b ef op ln (zu nm x ((nm x) + wy)) qu qd]) ok 3 rfl dX4_reach_78 (by omega) (by decide) rfl ?_
        exact fin (ln, zu nm x ((nm x) + wy), qu, qd) 79 _ _ _ dX4_reach_79 (⟨by first | exact Or.inl ⟨by omega, by omega, rfl, rfl, rfl⟩ | exact Or.inr ⟨by omega, rfl, rfl, rfl⟩, by first | exact Or.inl ⟨by omega, rfl⟩ | exact Or.inr ⟨by omega, rfl⟩⟩) (by decide) (by decide)
    · -- f
      refine z_aload_n ok dX4_reach_30 rfl ?_
      refine z_get (v := .ref (b 2)) ok zc4 0 rfl 2 (by decide) qf_RX4_19 rfl rfl dX4_reach_31 ?_
      refine z_iload_n ok dX4_reach_34 rfl ?_
      refine z_bipush ok dX4_reach_35 (by decide) ?_
      refine z_imul ok dX4_reach_37 ?_
      refine z_iload_n ok dX4_reach_38 rfl ?_
      refine z_iadd ok dX4_reach_39 ?_
      refine z_iload_n ok dX4_reach_40 rfl ?_
      refine z_iast (f := ln) (v := len) (ws' := zf [rW Z b ef op (zu ln ((to * 50) + x) len) nm qu qd]) ok 2 rfl dX4_reach_41 (by omega) (by decide) rfl ?_
      refine z_aload_n ok dX4_reach_42 rfl ?_
      refine z_get (v := .ref (b 4)) ok zc4 0 rfl 4 (by decide) qf_RX4_25 rfl rfl dX4_reach_43 ?_
      refine z_aload_n ok dX4_reach_46 rfl ?_
      refine z_get (v := .int (iI qd)) ok zc4 0 rfl 5 (by decide) qf_RX4_28 rfl rfl dX4_reach_47 ?_
      refine z_iload_n ok dX4_reach_50 rfl ?_
      refine z_iast (f := qu) (v := x) (ws' := zf [rW Z b ef op (zu ln ((to * 50) + x) len) nm (zu qu qd x) qd]) ok 4 rfl dX4_reach_51 (by omega) (by decide) rfl ?_
      refine z_aload_n ok dX4_reach_52 rfl ?_
      refine z_dup ok dX4_reach_53 rfl ?_
      refine z_get (v := .int (iI qd)) ok zc4 0 rfl 5 (by decide) qf_RX4_28 rfl rfl dX4_reach_54 ?_
      refine z_iconst ok dX4_reach_57 ?_
      refine z_iadd ok dX4_reach_58 ?_
      refine z_put (ws' := zf [rW Z b ef op (zu ln ((to * 50) + x) len) nm (zu qu qd x) (qd + 1)]) ok zc4 0 rfl 5 (by decide) qf_RX4_28 rfl rfl rfl rfl (Nat.le_of_ble_eq_true rfl) dX4_reach_59 rfl ?_
      refine z_iload ok dX4_reach_62 rfl ?_
      refine z_iload_n ok dX4_reach_64 rfl ?_
      refine z_icmp_lt (tgt := 79) ok dX4_reach_65 (by decide) (by omega) (by omega) (fun c65 => ?_) (fun c65 => ?_)
      · -- t
        exact fin (zu ln ((to * 50) + x) len, nm, zu qu qd x, qd + 1) 79 _ _ _ dX4_reach_79 (⟨by first | exact Or.inl ⟨by omega, by omega, rfl, rfl, rfl⟩ | exact Or.inr ⟨by omega, rfl, rfl, rfl⟩, by first | exact Or.inl ⟨by omega, rfl⟩ | exact Or.inr ⟨by omega, rfl⟩⟩) (by decide) (by decide)
      · -- f
        refine z_aload_n ok dX4_reach_68 rfl ?_
        refine z_get (v := .ref (b 3)) ok zc4 0 rfl 3 (by decide) qf_RX4_22 rfl rfl dX4_reach_69 ?_
        refine z_iload_n ok dX4_reach_72 rfl ?_
        refine z_dup2 ok dX4_reach_73 rfl rfl ?_
        refine z_iald (f := nm) ok 3 rfl dX4_reach_74 (by omega) (by decide) ?_
        refine z_iload ok dX4_reach_75 rfl ?_
        refine z_iadd ok dX4_reach_77 ?_
        refine z_iast (f := nm) (v := (nm x) + wy) (ws' := zf [rW Z b ef op (zu ln ((to * 50) + x) len) (zu nm x ((nm x) + wy)) (zu qu qd x) (qd + 1)]) ok 3 rfl dX4_reach_78 (by omega) (by decide) rfl ?_
        exact fin (zu ln ((to * 50) + x) len, zu nm x ((nm x) + wy), zu qu qd x, qd + 1) 79 _ _ _ dX4_reach_79 (⟨by first | exact Or.inl ⟨by omega, by omega, rfl, rfl, rfl⟩ | exact Or.inr ⟨by omega, rfl, rfl, rfl⟩, by first | exact Or.inl ⟨by omega, rfl⟩ | exact Or.inr ⟨by omega, rfl⟩⟩) (by decide) (by decide)
