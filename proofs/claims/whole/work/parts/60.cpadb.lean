set_option maxRecDepth 20000 in
theorem c_X3_readOrder {l : Launch} {Z : zZ} {e : Nat → Nat} {P : Int → Int} {ln od : Int} {k1 f1 s1 : Int → Int} {pl : Int} (hpd : padOK P ln) (hpl : 0 ≤ pl ∧ pl ≤ 80) (hod : 0 ≤ od ∧ od < 27) : zI (T := Int × Int × (Int → Int) × (Int → Int) × (Int → Int)) l yX3_readOrder (Cond.code yX3_readOrder cX3_readOrder 4 (some .boolean) :: wsL_law) ({ frames := 3, cells := 0, slots := 0, locals := 63 } : Room) Z [.ref (e 0)] (zf [dW Z e P ln od k1 f1 s1 pl]) (fun u => zf [dW Z e P ln u.2.1 u.2.2.1 u.2.2.2.1 u.2.2.2.2 u.1]) (fun ρ u => rdO P ln pl od k1 f1 s1 ρ u.1 u.2.1 u.2.2.1 u.2.2.2.1 u.2.2.2.2) := by
  refine zI_of (C := RX3) (by decide +kernel) rfl (Nat.le_of_ble_eq_true rfl) (fun ρ => ρ = 0 ∨ ρ = 1) znZ (fun X ok fin => ?_)
  have hln := hpd.1
  have hsg := sgn_rng hpd hpl.1
  have hnr := num_rng hpd (by omega : 0 ≤ pl + 1)
  have hs2 := sgn_rng hpd (by omega : 0 ≤ numP P ln (pl + 1))
  have hnr2 := num_rng hpd (by omega : 0 ≤ numP P ln (pl + 1) + 1)
  have hsd := sd_rng P ln (numP P ln (pl + 1))
  refine z_lsub ok (lv' := [(0, .ref (e 0))]) [0] rfl ?_
  refine z_aload_n ok dX3_readOrder_0 rfl ?_
  refine z_callVi0 ok (fun l => c_X3_signHere  (by omega) (by omega)) zm_X3_signHere zv_X3_signHere qm_RX3_49 dX3_readOrder_1 (by decide) (by decide) rfl rfl (Nat.le_of_ble_eq_true rfl) (q0 := 0) rfl rfl rfl (fun ρ _ hρ => ?_)
  subst hρ
  refine z_eq (ws' := zf [dW Z e P ln od k1 f1 s1 pl]) rfl ?_
  refine z_istore_n (lv' := [(1, .int (iI (sgn P ln pl))), (0, .ref (e 0))]) ok dX3_readOrder_4 (by decide) rfl ?_
  refine z_iload_n ok dX3_readOrder_5 rfl ?_
  refine z_bipush ok dX3_readOrder_6 (by decide) ?_
  refine z_icmp_eq (tgt := 31) ok dX3_readOrder_8 (by decide) (by omega) (by omega) (fun c8 => ?_) (fun c8 => ?_)
  · -- t
    refine z_aload_n ok dX3_readOrder_31 rfl ?_
    refine z_dup ok dX3_readOrder_32 rfl ?_
    refine z_get (v := .int (iI pl)) ok zc3 0 rfl 6 (by decide) qf_RX3_32 rfl rfl dX3_readOrder_33 ?_
    refine z_iconst ok dX3_readOrder_36 ?_
    refine z_iadd ok dX3_readOrder_37 ?_
    refine z_put (ws' := zf [dW Z e P ln od k1 f1 s1 (pl + 1)]) ok zc3 0 rfl 6 (by decide) qf_RX3_32 rfl rfl rfl rfl (Nat.le_of_ble_eq_true rfl) dX3_readOrder_38 rfl ?_
    refine z_aload_n ok dX3_readOrder_41 rfl ?_
    refine z_callVi0 ok (fun l => c_X3_readNumber  (hpd) (by omega)) zm_X3_readNumber zv_X3_readNumber qm_RX3_53 dX3_readOrder_42 (by decide) (by decide) rfl rfl (Nat.le_of_ble_eq_true rfl) (q0 := 0) rfl rfl rfl (fun r42 u42 hp42 => ?_)
    obtain ⟨pl_42, rfl⟩ : ∃ z, z = u42 := ⟨_, rfl⟩
    try dsimp only at hp42
    refine z_eq (ws' := zf [dW Z e P ln od k1 f1 s1 pl_42]) rfl ?_
    obtain ⟨hr42, hq42⟩ := hp42
    refine z_istore_n (lv' := [(2, .int (iI r42)), (1, .int (iI (sgn P ln pl))), (0, .ref (e 0))]) ok dX3_readOrder_45 (by decide) rfl ?_
    refine z_iload_n ok dX3_readOrder_46 rfl ?_
    refine z_iconst ok dX3_readOrder_47 ?_
    refine z_icmp_ne (tgt := 53) ok dX3_readOrder_48 (by decide) (by omega) (by omega) (fun c48 => ?_) (fun c48 => ?_)
    · -- t
      refine z_iconst ok dX3_readOrder_53 ?_
      refine z_istore_n (lv' := [(3, .int (iI 0)), (2, .int (iI r42)), (1, .int (iI (sgn P ln pl))), (0, .ref (e 0))]) ok dX3_readOrder_54 (by decide) rfl ?_
      refine z_iload_n ok dX3_readOrder_55 rfl ?_
      refine z_bipush ok dX3_readOrder_56 (by decide) ?_
      refine z_icmp_ne (tgt := 82) ok dX3_readOrder_58 (by decide) (by omega) (by omega) (fun c58 => ?_) (fun c58 => ?_)
      · -- t
        refine z_iload_n ok dX3_readOrder_82 rfl ?_
        refine z_bipush ok dX3_readOrder_83 (by decide) ?_
        refine z_icmp_eq (tgt := 93) ok dX3_readOrder_85 (by decide) (by omega) (by omega) (fun c85 => ?_) (fun c85 => ?_)
        · -- t
          refine z_iload_n ok dX3_readOrder_93 rfl ?_
          refine z_if_lt (tgt := 106) ok dX3_readOrder_94 (by decide) (by omega) (fun c94 => ?_) (fun c94 => ?_)
          · -- t
            exact absurd c94 (by decide)
          · -- f
            refine z_aload_n ok dX3_readOrder_97 rfl ?_
            refine z_get (v := .int (iI od)) ok zc3 0 rfl 2 (by decide) qf_RX3_19 rfl rfl dX3_readOrder_98 ?_
            refine z_bipush ok dX3_readOrder_101 (by decide) ?_
            refine z_icmp_lt (tgt := 108) ok dX3_readOrder_103 (by decide) (by omega) (by omega) (fun c103 => ?_) (fun c103 => ?_)
            · -- t
              refine z_aload_n ok dX3_readOrder_108 rfl ?_
              refine z_get (v := .ref (e 2)) ok zc3 0 rfl 3 (by decide) qf_RX3_22 rfl rfl dX3_readOrder_109 ?_
              refine z_aload_n ok dX3_readOrder_112 rfl ?_
              refine z_get (v := .int (iI od)) ok zc3 0 rfl 2 (by decide) qf_RX3_19 rfl rfl dX3_readOrder_113 ?_
              refine z_iload_n ok dX3_readOrder_116 rfl ?_
              refine z_iast (f := k1) (v := sgn P ln pl) (ws' := zf [dW Z e P ln od (zu k1 od (sgn P ln pl)) f1 s1 pl_42]) ok 2 rfl dX3_readOrder_117 (by omega) (by decide) rfl ?_
              refine z_aload_n ok dX3_readOrder_118 rfl ?_
              refine z_get (v := .ref (e 3)) ok zc3 0 rfl 4 (by decide) qf_RX3_26 rfl rfl dX3_readOrder_119 ?_
              refine z_aload_n ok dX3_readOrder_122 rfl ?_
              refine z_get (v := .int (iI od)) ok zc3 0 rfl 2 (by decide) qf_RX3_19 rfl rfl dX3_readOrder_123 ?_
              refine z_iload_n ok dX3_readOrder_126 rfl ?_
              refine z_iast (f := f1) (v := r42) (ws' := zf [dW Z e P ln od (zu k1 od (sgn P ln pl)) (zu f1 od r42) s1 pl_42]) ok 3 rfl dX3_readOrder_127 (by omega) (by decide) rfl ?_
              refine z_aload_n ok dX3_readOrder_128 rfl ?_
              refine z_get (v := .ref (e 4)) ok zc3 0 rfl 5 (by decide) qf_RX3_29 rfl rfl dX3_readOrder_129 ?_
              refine z_aload_n ok dX3_readOrder_132 rfl ?_
              refine z_get (v := .int (iI od)) ok zc3 0 rfl 2 (by decide) qf_RX3_19 rfl rfl dX3_readOrder_133 ?_
              refine z_iload_n ok dX3_readOrder_136 rfl ?_
              refine z_iast (f := s1) (v := 0) (ws' := zf [dW Z e P ln od (zu k1 od (sgn P ln pl)) (zu f1 od r42) (zu s1 od 0) pl_42]) ok 4 rfl dX3_readOrder_137 (by omega) (by decide) rfl ?_
              refine z_aload_n ok dX3_readOrder_138 rfl ?_
              refine z_dup ok dX3_readOrder_139 rfl ?_
              refine z_get (v := .int (iI od)) ok zc3 0 rfl 2 (by decide) qf_RX3_19 rfl rfl dX3_readOrder_140 ?_
              refine z_iconst ok dX3_readOrder_143 ?_
              refine z_iadd ok dX3_readOrder_144 ?_
              refine z_put (ws' := zf [dW Z e P ln (od + 1) (zu k1 od (sgn P ln pl)) (zu f1 od r42) (zu s1 od 0) pl_42]) ok zc3 0 rfl 2 (by decide) qf_RX3_19 rfl rfl rfl rfl (Nat.le_of_ble_eq_true rfl) dX3_readOrder_145 rfl ?_
              refine z_iconst ok dX3_readOrder_148 ?_
              exact fin 1 (pl_42, od + 1, zu k1 od (sgn P ln pl), zu f1 od r42, zu s1 od 0) 149 _ _ _ dX3_readOrder_149 (by first | decide | exact zb_01 _ | omega) (by first | exact Or.inl (rdO_yt (by omega) hr42 (by omega) hq42) | exact Or.inl (rdO_ys (by omega) hr42 (by omega) h62 hr71 (by omega) hq71) | exact Or.inl (rdO_yd (by unfold knd; omega) (by omega) (by omega) hr42 (by omega) hr89 (by omega) hq89)) (by decide) (by decide)
            · -- f
              refine z_iconst ok dX3_readOrder_106 ?_
              exact fin 0 (pl_42, od, k1, f1, s1) 107 _ _ _ dX3_readOrder_107 (by first | decide | exact zb_01 _ | omega) (by first | exact Or.inr (rdO_ns (by omega) (by omega) h62 (by omega) hq71) | exact Or.inr (rdO_ng (by omega) (by omega) h62 hpe64) | exact Or.inr (rdO_nd (by unfold knd; omega) (by omega) (by omega) (by omega) (by omega) hq89) | exact absurd hod (by omega)) (by decide) (by decide)
        · -- f
          refine z_aload_n ok dX3_readOrder_88 rfl ?_
          refine z_callVi0 ok (fun l => c_X3_readSide  (hpd) (by omega)) zm_X3_readSide zv_X3_readSide qm_RX3_57 dX3_readOrder_89 (by decide) (by decide) rfl rfl (Nat.le_of_ble_eq_true rfl) (q0 := 0) rfl rfl rfl (fun r89 u89 hp89 => ?_)
          obtain ⟨pl_89, rfl⟩ : ∃ z, z = u89 := ⟨_, rfl⟩
          try dsimp only at hp89
          refine z_eq (ws' := zf [dW Z e P ln od k1 f1 s1 pl_89]) rfl ?_
          obtain ⟨hr89, hq89⟩ := hp89
          rw [hq42] at hr89 hq89
          refine z_istore_n (lv' := [(3, .int (iI r89)), (2, .int (iI r42)), (1, .int (iI (sgn P ln pl))), (0, .ref (e 0))]) ok dX3_readOrder_92 (by decide) rfl ?_
          refine z_iload_n ok dX3_readOrder_93 rfl ?_
          refine z_if_lt (tgt := 106) ok dX3_readOrder_94 (by decide) (by omega) (fun c94 => ?_) (fun c94 => ?_)
          · -- t
            refine z_iconst ok dX3_readOrder_106 ?_
            exact fin 0 (pl_89, od, k1, f1, s1) 107 _ _ _ dX3_readOrder_107 (by first | decide | exact zb_01 _ | omega) (by first | exact Or.inr (rdO_ns (by omega) (by omega) h62 (by omega) hq71) | exact Or.inr (rdO_ng (by omega) (by omega) h62 hpe64) | exact Or.inr (rdO_nd (by unfold knd; omega) (by omega) (by omega) (by omega) (by omega) hq89) | exact absurd hod (by omega)) (by decide) (by decide)
          · -- f
            refine z_aload_n ok dX3_readOrder_97 rfl ?_
            refine z_get (v := .int (iI od)) ok zc3 0 rfl 2 (by decide) qf_RX3_19 rfl rfl dX3_readOrder_98 ?_
            refine z_bipush ok dX3_readOrder_101 (by decide) ?_
            refine z_icmp_lt (tgt := 108) ok dX3_readOrder_103 (by decide) (by omega) (by omega) (fun c103 => ?_) (fun c103 => ?_)
            · -- t
              refine z_aload_n ok dX3_readOrder_108 rfl ?_
              refine z_get (v := .ref (e 2)) ok zc3 0 rfl 3 (by decide) qf_RX3_22 rfl rfl dX3_readOrder_109 ?_
              refine z_aload_n ok dX3_readOrder_112 rfl ?_
              refine z_get (v := .int (iI od)) ok zc3 0 rfl 2 (by decide) qf_RX3_19 rfl rfl dX3_readOrder_113 ?_
              refine z_iload_n ok dX3_readOrder_116 rfl ?_
              refine z_iast (f := k1) (v := sgn P ln pl) (ws' := zf [dW Z e P ln od (zu k1 od (sgn P ln pl)) f1 s1 pl_89]) ok 2 rfl dX3_readOrder_117 (by omega) (by decide) rfl ?_
              refine z_aload_n ok dX3_readOrder_118 rfl ?_
              refine z_get (v := .ref (e 3)) ok zc3 0 rfl 4 (by decide) qf_RX3_26 rfl rfl dX3_readOrder_119 ?_
              refine z_aload_n ok dX3_readOrder_122 rfl ?_
              refine z_get (v := .int (iI od)) ok zc3 0 rfl 2 (by decide) qf_RX3_19 rfl rfl dX3_readOrder_123 ?_
              refine z_iload_n ok dX3_readOrder_126 rfl ?_
              refine z_iast (f := f1) (v := r42) (ws' := zf [dW Z e P ln od (zu k1 od (sgn P ln pl)) (zu f1 od r42) s1 pl_89]) ok 3 rfl dX3_readOrder_127 (by omega) (by decide) rfl ?_
              refine z_aload_n ok dX3_readOrder_128 rfl ?_
              refine z_get (v := .ref (e 4)) ok zc3 0 rfl 5 (by decide) qf_RX3_29 rfl rfl dX3_readOrder_129 ?_
              refine z_aload_n ok dX3_readOrder_132 rfl ?_
              refine z_get (v := .int (iI od)) ok zc3 0 rfl 2 (by decide) qf_RX3_19 rfl rfl dX3_readOrder_133 ?_
              refine z_iload_n ok dX3_readOrder_136 rfl ?_
              refine z_iast (f := s1) (v := r89) (ws' := zf [dW Z e P ln od (zu k1 od (sgn P ln pl)) (zu f1 od r42) (zu s1 od r89) pl_89]) ok 4 rfl dX3_readOrder_137 (by omega) (by decide) rfl ?_
              refine z_aload_n ok dX3_readOrder_138 rfl ?_
              refine z_dup ok dX3_readOrder_139 rfl ?_
              refine z_get (v := .int (iI od)) ok zc3 0 rfl 2 (by decide) qf_RX3_19 rfl rfl dX3_readOrder_140 ?_
              refine z_iconst ok dX3_readOrder_143 ?_
              refine z_iadd ok dX3_readOrder_144 ?_
              refine z_put (ws' := zf [dW Z e P ln (od + 1) (zu k1 od (sgn P ln pl)) (zu f1 od r42) (zu s1 od r89) pl_89]) ok zc3 0 rfl 2 (by decide) qf_RX3_19 rfl rfl rfl rfl (Nat.le_of_ble_eq_true rfl) dX3_readOrder_145 rfl ?_
              refine z_iconst ok dX3_readOrder_148 ?_
              exact fin 1 (pl_89, od + 1, zu k1 od (sgn P ln pl), zu f1 od r42, zu s1 od r89) 149 _ _ _ dX3_readOrder_149 (by first | decide | exact zb_01 _ | omega) (by first | exact Or.inl (rdO_yt (by omega) hr42 (by omega) hq42) | exact Or.inl (rdO_ys (by omega) hr42 (by omega) h62 hr71 (by omega) hq71) | exact Or.inl (rdO_yd (by unfold knd; omega) (by omega) (by omega) hr42 (by omega) hr89 (by omega) hq89)) (by decide) (by decide)
            · -- f
              refine z_iconst ok dX3_readOrder_106 ?_
              exact fin 0 (pl_89, od, k1, f1, s1) 107 _ _ _ dX3_readOrder_107 (by first | decide | exact zb_01 _ | omega) (by first | exact Or.inr (rdO_ns (by omega) (by omega) h62 (by omega) hq71) | exact Or.inr (rdO_ng (by omega) (by omega) h62 hpe64) | exact Or.inr (rdO_nd (by unfold knd; omega) (by omega) (by omega) (by omega) (by omega) hq89) | exact absurd hod (by omega)) (by decide) (by decide)
      · -- f
        refine z_aload_n ok dX3_readOrder_61 rfl ?_
        refine z_bipush ok dX3_readOrder_62 (by decide) ?_
        refine z_callVi0 ok (fun l => c_X3_readSign  (hpd) (by omega) (by decide)) zm_X3_readSign zv_X3_readSign qm_RX3_45 dX3_readOrder_64 (by decide) (by decide) rfl rfl (Nat.le_of_ble_eq_true rfl) (q0 := 0) rfl rfl rfl (fun r64 u64 hp64 => ?_)
        obtain ⟨pl_64, rfl⟩ : ∃ z, z = u64 := ⟨_, rfl⟩
        try dsimp only at hp64
        refine z_eq (ws' := zf [dW Z e P ln od k1 f1 s1 pl_64]) rfl ?_
        rw [hq42] at hp64
        refine z_if_eq (tgt := 77) ok dX3_readOrder_67 (by decide) (by rcases hp64 with ⟨e1, e2, e3⟩ | ⟨e1, e2, e3⟩ <;> omega) (fun c67 => ?_) (fun c67 => ?_)
        · -- t
          obtain ⟨h62, hpe64⟩ : ¬ sgn P ln (numP P ln (pl + 1)) = 62 ∧ pl_64 = numP P ln (pl + 1) := by rcases hp64 with ⟨e1, e2, e3⟩ | ⟨e1, e2, e3⟩; omega; exact ⟨e1, e3⟩
          refine z_iconst ok dX3_readOrder_77 ?_
          refine z_istore_n (lv' := [(3, .int (iI (-1))), (2, .int (iI r42)), (1, .int (iI (sgn P ln pl))), (0, .ref (e 0))]) ok dX3_readOrder_78 (by decide) rfl ?_
          refine z_goto (tgt := 93) ok dX3_readOrder_79 (by decide) ?_
          refine z_iload_n ok dX3_readOrder_93 rfl ?_
          refine z_if_lt (tgt := 106) ok dX3_readOrder_94 (by decide) (by omega) (fun c94 => ?_) (fun c94 => ?_)
          · -- t
            refine z_iconst ok dX3_readOrder_106 ?_
            exact fin 0 (pl_64, od, k1, f1, s1) 107 _ _ _ dX3_readOrder_107 (by first | decide | exact zb_01 _ | omega) (by first | exact Or.inr (rdO_ns (by omega) (by omega) h62 (by omega) hq71) | exact Or.inr (rdO_ng (by omega) (by omega) h62 hpe64) | exact Or.inr (rdO_nd (by unfold knd; omega) (by omega) (by omega) (by omega) (by omega) hq89) | exact absurd hod (by omega)) (by decide) (by decide)
          · -- f
            exact absurd c94 (by decide)
        · -- f
          obtain ⟨h62, hpe64⟩ : sgn P ln (numP P ln (pl + 1)) = 62 ∧ pl_64 = numP P ln (pl + 1) + 1 := by rcases hp64 with ⟨e1, e2, e3⟩ | ⟨e1, e2, e3⟩; exact ⟨e1, e3⟩; omega
          refine z_aload_n ok dX3_readOrder_70 rfl ?_
          refine z_callVi0 ok (fun l => c_X3_readNumber  (hpd) (by omega)) zm_X3_readNumber zv_X3_readNumber qm_RX3_53 dX3_readOrder_71 (by decide) (by decide) rfl rfl (Nat.le_of_ble_eq_true rfl) (q0 := 0) rfl rfl rfl (fun r71 u71 hp71 => ?_)
          obtain ⟨pl_71, rfl⟩ : ∃ z, z = u71 := ⟨_, rfl⟩
          try dsimp only at hp71
          refine z_eq (ws' := zf [dW Z e P ln od k1 f1 s1 pl_71]) rfl ?_
          obtain ⟨hr71, hq71⟩ := hp71
          rw [hpe64] at hr71 hq71
          refine z_goto (tgt := 78) ok dX3_readOrder_74 (by decide) ?_
          refine z_istore_n (lv' := [(3, .int (iI r71)), (2, .int (iI r42)), (1, .int (iI (sgn P ln pl))), (0, .ref (e 0))]) ok dX3_readOrder_78 (by decide) rfl ?_
          refine z_goto (tgt := 93) ok dX3_readOrder_79 (by decide) ?_
          refine z_iload_n ok dX3_readOrder_93 rfl ?_
          refine z_if_lt (tgt := 106) ok dX3_readOrder_94 (by decide) (by omega) (fun c94 => ?_) (fun c94 => ?_)
          · -- t
            refine z_iconst ok dX3_readOrder_106 ?_
            exact fin 0 (pl_71, od, k1, f1, s1) 107 _ _ _ dX3_readOrder_107 (by first | decide | exact zb_01 _ | omega) (by first | exact Or.inr (rdO_ns (by omega) (by omega) h62 (by omega) hq71) | exact Or.inr (rdO_ng (by omega) (by omega) h62 hpe64) | exact Or.inr (rdO_nd (by unfold knd; omega) (by omega) (by omega) (by omega) (by omega) hq89) | exact absurd hod (by omega)) (by decide) (by decide)
          · -- f
            refine z_aload_n ok dX3_readOrder_97 rfl ?_
            refine z_get (v := .int (iI od)) ok zc3 0 rfl 2 (by decide) qf_RX3_19 rfl rfl dX3_readOrder_98 ?_
            refine z_bipush ok dX3_readOrder_101 (by decide) ?_
            refine z_icmp_lt (tgt := 108) ok dX3_readOrder_103 (by decide) (by omega) (by omega) (fun c103 => ?_) (fun c103 => ?_)
            · -- t
              refine z_aload_n ok dX3_readOrder_108 rfl ?_
              refine z_get (v := .ref (e 2)) ok zc3 0 rfl 3 (by decide) qf_RX3_22 rfl rfl dX3_readOrder_109 ?_
              refine z_aload_n ok dX3_readOrder_112 rfl ?_
              refine z_get (v := .int (iI od)) ok zc3 0 rfl 2 (by decide) qf_RX3_19 rfl rfl dX3_readOrder_113 ?_
              refine z_iload_n ok dX3_readOrder_116 rfl ?_
              refine z_iast (f := k1) (v := sgn P ln pl) (ws' := zf [dW Z e P ln od (zu k1 od (sgn P ln pl)) f1 s1 pl_71]) ok 2 rfl dX3_readOrder_117 (by omega) (by decide) rfl ?_
              refine z_aload_n ok dX3_readOrder_118 rfl ?_
              refine z_get (v := .ref (e 3)) ok zc3 0 rfl 4 (by decide) qf_RX3_26 rfl rfl dX3_readOrder_119 ?_
              refine z_aload_n ok dX3_readOrder_122 rfl ?_
              refine z_get (v := .int (iI od)) ok zc3 0 rfl 2 (by decide) qf_RX3_19 rfl rfl dX3_readOrder_123 ?_
              refine z_iload_n ok dX3_readOrder_126 rfl ?_
              refine z_iast (f := f1) (v := r42) (ws' := zf [dW Z e P ln od (zu k1 od (sgn P ln pl)) (zu f1 od r42) s1 pl_71]) ok 3 rfl dX3_readOrder_127 (by omega) (by decide) rfl ?_
              refine z_aload_n ok dX3_readOrder_128 rfl ?_
              refine z_get (v := .ref (e 4)) ok zc3 0 rfl 5 (by decide) qf_RX3_29 rfl rfl dX3_readOrder_129 ?_
              refine z_aload_n ok dX3_readOrder_132 rfl ?_
              refine z_get (v := .int (iI od)) ok zc3 0 rfl 2 (by decide) qf_RX3_19 rfl rfl dX3_readOrder_133 ?_
              refine z_iload_n ok dX3_readOrder_136 rfl ?_
              refine z_iast (f := s1) (v := r71) (ws' := zf [dW Z e P ln od (zu k1 od (sgn P ln pl)) (zu f1 od r42) (zu s1 od r71) pl_71]) ok 4 rfl dX3_readOrder_137 (by omega) (by decide) rfl ?_
              refine z_aload_n ok dX3_readOrder_138 rfl ?_
              refine z_dup ok dX3_readOrder_139 rfl ?_
              refine z_get (v := .int (iI od)) ok zc3 0 rfl 2 (by decide) qf_RX3_19 rfl rfl dX3_readOrder_140 ?_
              refine z_iconst ok dX3_readOrder_143 ?_
              refine z_iadd ok dX3_readOrder_144 ?_
              refine z_put (ws' := zf [dW Z e P ln (od + 1) (zu k1 od (sgn P ln pl)) (zu f1 od r42) (zu s1 od r71) pl_71]) ok zc3 0 rfl 2 (by decide) qf_RX3_19 rfl rfl rfl rfl (Nat.le_of_ble_eq_true rfl) dX3_readOrder_145 rfl ?_
              refine z_iconst ok dX3_readOrder_148 ?_
              exact fin 1 (pl_71, od + 1, zu k1 od (sgn P ln pl), zu f1 od r42, zu s1 od r71) 149 _ _ _ dX3_readOrder_149 (by first | decide | exact zb_01 _ | omega) (by first | exact Or.inl (rdO_yt (by omega) hr42 (by omega) hq42) | exact Or.inl (rdO_ys (by omega) hr42 (by omega) h62 hr71 (by omega) hq71) | exact Or.inl (rdO_yd (by unfold knd; omega) (by omega) (by omega) hr42 (by omega) hr89 (by omega) hq89)) (by decide) (by decide)
            · -- f
              refine z_iconst ok dX3_readOrder_106 ?_
              exact fin 0 (pl_71, od, k1, f1, s1) 107 _ _ _ dX3_readOrder_107 (by first | decide | exact zb_01 _ | omega) (by first | exact Or.inr (rdO_ns (by omega) (by omega) h62 (by omega) hq71) | exact Or.inr (rdO_ng (by omega) (by omega) h62 hpe64) | exact Or.inr (rdO_nd (by unfold knd; omega) (by omega) (by omega) (by omega) (by omega) hq89) | exact absurd hod (by omega)) (by decide) (by decide)
    · -- f
      refine z_iconst ok dX3_readOrder_51 ?_
      exact fin 0 (pl_42, od, k1, f1, s1) 52 _ _ _ dX3_readOrder_52 (by first | decide | exact zb_01 _ | omega) (Or.inr (rdO_n1 (by unfold knd; omega) (by omega) hq42)) (by decide) (by decide)
  · -- f
    refine z_iload_n ok dX3_readOrder_11 rfl ?_
    refine z_bipush ok dX3_readOrder_12 (by decide) ?_
    refine z_icmp_eq (tgt := 31) ok dX3_readOrder_14 (by decide) (by omega) (by omega) (fun c14 => ?_) (fun c14 => ?_)
    · -- t
      refine z_aload_n ok dX3_readOrder_31 rfl ?_
      refine z_dup ok dX3_readOrder_32 rfl ?_
      refine z_get (v := .int (iI pl)) ok zc3 0 rfl 6 (by decide) qf_RX3_32 rfl rfl dX3_readOrder_33 ?_
      refine z_iconst ok dX3_readOrder_36 ?_
      refine z_iadd ok dX3_readOrder_37 ?_
      refine z_put (ws' := zf [dW Z e P ln od k1 f1 s1 (pl + 1)]) ok zc3 0 rfl 6 (by decide) qf_RX3_32 rfl rfl rfl rfl (Nat.le_of_ble_eq_true rfl) dX3_readOrder_38 rfl ?_
      refine z_aload_n ok dX3_readOrder_41 rfl ?_
      refine z_callVi0 ok (fun l => c_X3_readNumber  (hpd) (by omega)) zm_X3_readNumber zv_X3_readNumber qm_RX3_53 dX3_readOrder_42 (by decide) (by decide) rfl rfl (Nat.le_of_ble_eq_true rfl) (q0 := 0) rfl rfl rfl (fun r42 u42 hp42 => ?_)
      obtain ⟨pl_42, rfl⟩ : ∃ z, z = u42 := ⟨_, rfl⟩
      try dsimp only at hp42
      refine z_eq (ws' := zf [dW Z e P ln od k1 f1 s1 pl_42]) rfl ?_
      obtain ⟨hr42, hq42⟩ := hp42
      refine z_istore_n (lv' := [(2, .int (iI r42)), (1, .int (iI (sgn P ln pl))), (0, .ref (e 0))]) ok dX3_readOrder_45 (by decide) rfl ?_
      refine z_iload_n ok dX3_readOrder_46 rfl ?_
      refine z_iconst ok dX3_readOrder_47 ?_
      refine z_icmp_ne (tgt := 53) ok dX3_readOrder_48 (by decide) (by omega) (by omega) (fun c48 => ?_) (fun c48 => ?_)
      · -- t
        refine z_iconst ok dX3_readOrder_53 ?_
        refine z_istore_n (lv' := [(3, .int (iI 0)), (2, .int (iI r42)), (1, .int (iI (sgn P ln pl))), (0, .ref (e 0))]) ok dX3_readOrder_54 (by decide) rfl ?_
        refine z_iload_n ok dX3_readOrder_55 rfl ?_
        refine z_bipush ok dX3_readOrder_56 (by decide) ?_
        refine z_icmp_ne (tgt := 82) ok dX3_readOrder_58 (by decide) (by omega) (by omega) (fun c58 => ?_) (fun c58 => ?_)
        · -- t
          refine z_iload_n ok dX3_readOrder_82 rfl ?_
          refine z_bipush ok dX3_readOrder_83 (by decide) ?_
          refine z_icmp_eq (tgt := 93) ok dX3_readOrder_85 (by decide) (by omega) (by omega) (fun c85 => ?_) (fun c85 => ?_)
          · -- t
            refine z_iload_n ok dX3_readOrder_93 rfl ?_
            refine z_if_lt (tgt := 106) ok dX3_readOrder_94 (by decide) (by omega) (fun c94 => ?_) (fun c94 => ?_)
            · -- t
              exact absurd c94 (by decide)
            · -- f
              refine z_aload_n ok dX3_readOrder_97 rfl ?_
              refine z_get (v := .int (iI od)) ok zc3 0 rfl 2 (by decide) qf_RX3_19 rfl rfl dX3_readOrder_98 ?_
              refine z_bipush ok dX3_readOrder_101 (by decide) ?_
              refine z_icmp_lt (tgt := 108) ok dX3_readOrder_103 (by decide) (by omega) (by omega) (fun c103 => ?_) (fun c103 => ?_)
              · -- t
                refine z_aload_n ok dX3_readOrder_108 rfl ?_
                refine z_get (v := .ref (e 2)) ok zc3 0 rfl 3 (by decide) qf_RX3_22 rfl rfl dX3_readOrder_109 ?_
                refine z_aload_n ok dX3_readOrder_112 rfl ?_
                refine z_get (v := .int (iI od)) ok zc3 0 rfl 2 (by decide) qf_RX3_19 rfl rfl dX3_readOrder_113 ?_
                refine z_iload_n ok dX3_readOrder_116 rfl ?_
                refine z_iast (f := k1) (v := sgn P ln pl) (ws' := zf [dW Z e P ln od (zu k1 od (sgn P ln pl)) f1 s1 pl_42]) ok 2 rfl dX3_readOrder_117 (by omega) (by decide) rfl ?_
                refine z_aload_n ok dX3_readOrder_118 rfl ?_
                refine z_get (v := .ref (e 3)) ok zc3 0 rfl 4 (by decide) qf_RX3_26 rfl rfl dX3_readOrder_119 ?_
                refine z_aload_n ok dX3_readOrder_122 rfl ?_
                refine z_get (v := .int (iI od)) ok zc3 0 rfl 2 (by decide) qf_RX3_19 rfl rfl dX3_readOrder_123 ?_
                refine z_iload_n ok dX3_readOrder_126 rfl ?_
                refine z_iast (f := f1) (v := r42) (ws' := zf [dW Z e P ln od (zu k1 od (sgn P ln pl)) (zu f1 od r42) s1 pl_42]) ok 3 rfl dX3_readOrder_127 (by omega) (by decide) rfl ?_
                refine z_aload_n ok dX3_readOrder_128 rfl ?_
                refine z_get (v := .ref (e 4)) ok zc3 0 rfl 5 (by decide) qf_RX3_29 rfl rfl dX3_readOrder_129 ?_
                refine z_aload_n ok dX3_readOrder_132 rfl ?_
                refine z_get (v := .int (iI od)) ok zc3 0 rfl 2 (by decide) qf_RX3_19 rfl rfl dX3_readOrder_133 ?_
                refine z_iload_n ok dX3_readOrder_136 rfl ?_
                refine z_iast (f := s1) (v := 0) (ws' := zf [dW Z e P ln od (zu k1 od (sgn P ln pl)) (zu f1 od r42) (zu s1 od 0) pl_42]) ok 4 rfl dX3_readOrder_137 (by omega) (by decide) rfl ?_
                refine z_aload_n ok dX3_readOrder_138 rfl ?_
                refine z_dup ok dX3_readOrder_139 rfl ?_
                refine z_get (v := .int (iI od)) ok zc3 0 rfl 2 (by decide) qf_RX3_19 rfl rfl dX3_readOrder_140 ?_
                refine z_iconst ok dX3_readOrder_143 ?_
                refine z_iadd ok dX3_readOrder_144 ?_
                refine z_put (ws' := zf [dW Z e P ln (od + 1) (zu k1 od (sgn P ln pl)) (zu f1 od r42) (zu s1 od 0) pl_42]) ok zc3 0 rfl 2 (by decide) qf_RX3_19 rfl rfl rfl rfl (Nat.le_of_ble_eq_true rfl) dX3_readOrder_145 rfl ?_
                refine z_iconst ok dX3_readOrder_148 ?_
                exact fin 1 (pl_42, od + 1, zu k1 od (sgn P ln pl), zu f1 od r42, zu s1 od 0) 149 _ _ _ dX3_readOrder_149 (by first | decide | exact zb_01 _ | omega) (by first | exact Or.inl (rdO_yt (by omega) hr42 (by omega) hq42) | exact Or.inl (rdO_ys (by omega) hr42 (by omega) h62 hr71 (by omega) hq71) | exact Or.inl (rdO_yd (by unfold knd; omega) (by omega) (by omega) hr42 (by omega) hr89 (by omega) hq89)) (by decide) (by decide)
              · -- f
                refine z_iconst ok dX3_readOrder_106 ?_
                exact fin 0 (pl_42, od, k1, f1, s1) 107 _ _ _ dX3_readOrder_107 (by first | decide | exact zb_01 _ | omega) (by first | exact Or.inr (rdO_ns (by omega) (by omega) h62 (by omega) hq71) | exact Or.inr (rdO_ng (by omega) (by omega) h62 hpe64) | exact Or.inr (rdO_nd (by unfold knd; omega) (by omega) (by omega) (by omega) (by omega) hq89) | exact absurd hod (by omega)) (by decide) (by decide)
          · -- f
            refine z_aload_n ok dX3_readOrder_88 rfl ?_
            refine z_callVi0 ok (fun l => c_X3_readSide  (hpd) (by omega)) zm_X3_readSide zv_X3_readSide qm_RX3_57 dX3_readOrder_89 (by decide) (by decide) rfl rfl (Nat.le_of_ble_eq_true rfl) (q0 := 0) rfl rfl rfl (fun r89 u89 hp89 => ?_)
            obtain ⟨pl_89, rfl⟩ : ∃ z, z = u89 := ⟨_, rfl⟩
            try dsimp only at hp89
            refine z_eq (ws' := zf [dW Z e P ln od k1 f1 s1 pl_89]) rfl ?_
            obtain ⟨hr89, hq89⟩ := hp89
            rw [hq42] at hr89 hq89
            refine z_istore_n (lv' := [(3, .int (iI r89)), (2, .int (iI r42)), (1, .int (iI (sgn P ln pl))), (0, .ref (e 0))]) ok dX3_readOrder_92 (by decide) rfl ?_
            refine z_iload_n ok dX3_readOrder_93 rfl ?_
            refine z_if_lt (tgt := 106) ok dX3_readOrder_94 (by decide) (by omega) (fun c94 => ?_) (fun c94 => ?_)
            · -- t
              refine z_iconst ok dX3_readOrder_106 ?_
              exact fin 0 (pl_89, od, k1, f1, s1) 107 _ _ _ dX3_readOrder_107 (by first | decide | exact zb_01 _ | omega) (by first | exact Or.inr (rdO_ns (by omega) (by omega) h62 (by omega) hq71) | exact Or.inr (rdO_ng (by omega) (by omega) h62 hpe64) | exact Or.inr (rdO_nd (by unfold knd; omega) (by omega) (by omega) (by omega) (by omega) hq89) | exact absurd hod (by omega)) (by decide) (by decide)
            · -- f
              refine z_aload_n ok dX3_readOrder_97 rfl ?_
              refine z_get (v := .int (iI od)) ok zc3 0 rfl 2 (by decide) qf_RX3_19 rfl rfl dX3_readOrder_98 ?_
              refine z_bipush ok dX3_readOrder_101 (by decide) ?_
              refine z_icmp_lt (tgt := 108) ok dX3_readOrder_103 (by decide) (by omega) (by omega) (fun c103 => ?_) (fun c103 => ?_)
              · -- t
                refine z_aload_n ok dX3_readOrder_108 rfl ?_
                refine z_get (v := .ref (e 2)) ok zc3 0 rfl 3 (by decide) qf_RX3_22 rfl rfl dX3_readOrder_109 ?_
                refine z_aload_n ok dX3_readOrder_112 rfl ?_
                refine z_get (v := .int (iI od)) ok zc3 0 rfl 2 (by decide) qf_RX3_19 rfl rfl dX3_readOrder_113 ?_
                refine z_iload_n ok dX3_readOrder_116 rfl ?_
                refine z_iast (f := k1) (v := sgn P ln pl) (ws' := zf [dW Z e P ln od (zu k1 od (sgn P ln pl)) f1 s1 pl_89]) ok 2 rfl dX3_readOrder_117 (by omega) (by decide) rfl ?_
                refine z_aload_n ok dX3_readOrder_118 rfl ?_
                refine z_get (v := .ref (e 3)) ok zc3 0 rfl 4 (by decide) qf_RX3_26 rfl rfl dX3_readOrder_119 ?_
                refine z_aload_n ok dX3_readOrder_122 rfl ?_
                refine z_get (v := .int (iI od)) ok zc3 0 rfl 2 (by decide) qf_RX3_19 rfl rfl dX3_readOrder_123 ?_
                refine z_iload_n ok dX3_readOrder_126 rfl ?_
                refine z_iast (f := f1) (v := r42) (ws' := zf [dW Z e P ln od (zu k1 od (sgn P ln pl)) (zu f1 od r42) s1 pl_89]) ok 3 rfl dX3_readOrder_127 (by omega) (by decide) rfl ?_
                refine z_aload_n ok dX3_readOrder_128 rfl ?_
                refine z_get (v := .ref (e 4)) ok zc3 0 rfl 5 (by decide) qf_RX3_29 rfl rfl dX3_readOrder_129 ?_
                refine z_aload_n ok dX3_readOrder_132 rfl ?_
                refine z_get (v := .int (iI od)) ok zc3 0 rfl 2 (by decide) qf_RX3_19 rfl rfl dX3_readOrder_133 ?_
                refine z_iload_n ok dX3_readOrder_136 rfl ?_
                refine z_iast (f := s1) (v := r89) (ws' := zf [dW Z e P ln od (zu k1 od (sgn P ln pl)) (zu f1 od r42) (zu s1 od r89) pl_89]) ok 4 rfl dX3_readOrder_137 (by omega) (by decide) rfl ?_
                refine z_aload_n ok dX3_readOrder_138 rfl ?_
                refine z_dup ok dX3_readOrder_139 rfl ?_
                refine z_get (v := .int (iI od)) ok zc3 0 rfl 2 (by decide) qf_RX3_19 rfl rfl dX3_readOrder_140 ?_
                refine z_iconst ok dX3_readOrder_143 ?_
                refine z_iadd ok dX3_readOrder_144 ?_
                refine z_put (ws' := zf [dW Z e P ln (od + 1) (zu k1 od (sgn P ln pl)) (zu f1 od r42) (zu s1 od r89) pl_89]) ok zc3 0 rfl 2 (by decide) qf_RX3_19 rfl rfl rfl rfl (Nat.le_of_ble_eq_true rfl) dX3_readOrder_145 rfl ?_
                refine z_iconst ok dX3_readOrder_148 ?_
                exact fin 1 (pl_89, od + 1, zu k1 od (sgn P ln pl), zu f1 od r42, zu s1 od r89) 149 _ _ _ dX3_readOrder_149 (by first | decide | exact zb_01 _ | omega) (by first | exact Or.inl (rdO_yt (by omega) hr42 (by omega) hq42) | exact Or.inl (rdO_ys (by omega) hr42 (by omega) h62 hr71 (by omega) hq71) | exact Or.inl (rdO_yd (by unfold knd; omega) (by omega) (by omega) hr42 (by omega) hr89 (by omega) hq89)) (by decide) (by decide)
              · -- f
                refine z_iconst ok dX3_readOrder_106 ?_
                exact fin 0 (pl_89, od, k1, f1, s1) 107 _ _ _ dX3_readOrder_107 (by first | decide | exact zb_01 _ | omega) (by first | exact Or.inr (rdO_ns (by omega) (by omega) h62 (by omega) hq71) | exact Or.inr (rdO_ng (by omega) (by omega) h62 hpe64) | exact Or.inr (rdO_nd (by unfold knd; omega) (by omega) (by omega) (by omega) (by omega) hq89) | exact absurd hod (by omega)) (by decide) (by decide)
        · -- f
          refine z_aload_n ok dX3_readOrder_61 rfl ?_
          refine z_bipush ok dX3_readOrder_62 (by decide) ?_
          refine z_callVi0 ok (fun l => c_X3_readSign  (hpd) (by omega) (by decide)) zm_X3_readSign zv_X3_readSign qm_RX3_45 dX3_readOrder_64 (by decide) (by decide) rfl rfl (Nat.le_of_ble_eq_true rfl) (q0 := 0) rfl rfl rfl (fun r64 u64 hp64 => ?_)
          obtain ⟨pl_64, rfl⟩ : ∃ z, z = u64 := ⟨_, rfl⟩
          try dsimp only at hp64
          refine z_eq (ws' := zf [dW Z e P ln od k1 f1 s1 pl_64]) rfl ?_
          rw [hq42] at hp64
          refine z_if_eq (tgt := 77) ok dX3_readOrder_67 (by decide) (by rcases hp64 with ⟨e1, e2, e3⟩ | ⟨e1, e2, e3⟩ <;> omega) (fun c67 => ?_) (fun c67 => ?_)
          · -- t
            obtain ⟨h62, hpe64⟩ : ¬ sgn P ln (numP P ln (pl + 1)) = 62 ∧ pl_64 = numP P ln (pl + 1) := by rcases hp64 with ⟨e1, e2, e3⟩ | ⟨e1, e2, e3⟩; omega; exact ⟨e1, e3⟩
            refine z_iconst ok dX3_readOrder_77 ?_
            refine z_istore_n (lv' := [(3, .int (iI (-1))), (2, .int (iI r42)), (1, .int (iI (sgn P ln pl))), (0, .ref (e 0))]) ok dX3_readOrder_78 (by decide) rfl ?_
            refine z_goto (tgt := 93) ok dX3_readOrder_79 (by decide) ?_
            refine z_iload_n ok dX3_readOrder_93 rfl ?_
            refine z_if_lt (tgt := 106) ok dX3_readOrder_94 (by decide) (by omega) (fun c94 => ?_) (fun c94 => ?_)
            · -- t
              refine z_iconst ok dX3_readOrder_106 ?_
              exact fin 0 (pl_64, od, k1, f1, s1) 107 _ _ _ dX3_readOrder_107 (by first | decide | exact zb_01 _ | omega) (by first | exact Or.inr (rdO_ns (by omega) (by omega) h62 (by omega) hq71) | exact Or.inr (rdO_ng (by omega) (by omega) h62 hpe64) | exact Or.inr (rdO_nd (by unfold knd; omega) (by omega) (by omega) (by omega) (by omega) hq89) | exact absurd hod (by omega)) (by decide) (by decide)
            · -- f
              exact absurd c94 (by decide)
          · -- f
            obtain ⟨h62, hpe64⟩ : sgn P ln (numP P ln (pl + 1)) = 62 ∧ pl_64 = numP P ln (pl + 1) + 1 := by rcases hp64 with ⟨e1, e2, e3⟩ | ⟨e1, e2, e3⟩; exact ⟨e1, e3⟩; omega
            refine z_aload_n ok dX3_readOrder_70 rfl ?_
            refine z_callVi0 ok (fun l => c_X3_readNumber  (hpd) (by omega)) zm_X3_readNumber zv_X3_readNumber qm_RX3_53 dX3_readOrder_71 (by decide) (by decide) rfl rfl (Nat.le_of_ble_eq_true rfl) (q0 := 0) rfl rfl rfl (fun r71 u71 hp71 => ?_)
            obtain ⟨pl_71, rfl⟩ : ∃ z, z = u71 := ⟨_, rfl⟩
            try dsimp only at hp71
            refine z_eq (ws' := zf [dW Z e P ln od k1 f1 s1 pl_71]) rfl ?_
            obtain ⟨hr71, hq71⟩ := hp71
            rw [hpe64] at hr71 hq71
            refine z_goto (tgt := 78) ok dX3_readOrder_74 (by decide) ?_
            refine z_istore_n (lv' := [(3, .int (iI r71)), (2, .int (iI r42)), (1, .int (iI (sgn P ln pl))), (0, .ref (e 0))]) ok dX3_readOrder_78 (by decide) rfl ?_
            refine z_goto (tgt := 93) ok dX3_readOrder_79 (by decide) ?_
            refine z_iload_n ok dX3_readOrder_93 rfl ?_
            refine z_if_lt (tgt := 106) ok dX3_readOrder_94 (by decide) (by omega) (fun c94 => ?_) (fun c94 => ?_)
            · -- t
              refine z_iconst ok dX3_readOrder_106 ?_
              exact fin 0 (pl_71, od, k1, f1, s1) 107 _ _ _ dX3_readOrder_107 (by first | decide | exact zb_01 _ | omega) (by first | exact Or.inr (rdO_ns (by omega) (by omega) h62 (by omega) hq71) | exact Or.inr (rdO_ng (by omega) (by omega) h62 hpe64) | exact Or.inr (rdO_nd (by unfold knd; omega) (by omega) (by omega) (by omega) (by omega) hq89) | exact absurd hod (by omega)) (by decide) (by decide)
            · -- f
              refine z_aload_n ok dX3_readOrder_97 rfl ?_
              refine z_get (v := .int (iI od)) ok zc3 0 rfl 2 (by decide) qf_RX3_19 rfl rfl dX3_readOrder_98 ?_
              refine z_bipush ok dX3_readOrder_101 (by decide) ?_
              refine z_icmp_lt (tgt := 108) ok dX3_readOrder_103 (by decide) (by omega) (by omega) (fun c103 => ?_) (fun c103 => ?_)
              · -- t
                refine z_aload_n ok dX3_readOrder_108 rfl ?_
                refine z_get (v := .ref (e 2)) ok zc3 0 rfl 3 (by decide) qf_RX3_22 rfl rfl dX3_readOrder_109 ?_
                refine z_aload_n ok dX3_readOrder_112 rfl ?_
                refine z_get (v := .int (iI od)) ok zc3 0 rfl 2 (by decide) qf_RX3_19 rfl rfl dX3_readOrder_113 ?_
                refine z_iload_n ok dX3_readOrder_116 rfl ?_
                refine z_iast (f := k1) (v := sgn P ln pl) (ws' := zf [dW Z e P ln od (zu k1 od (sgn P ln pl)) f1 s1 pl_71]) ok 2 rfl dX3_readOrder_117 (by omega) (by decide) rfl ?_
                refine z_aload_n ok dX3_readOrder_118 rfl ?_
                refine z_get (v := .ref (e 3)) ok zc3 0 rfl 4 (by decide) qf_RX3_26 rfl rfl dX3_readOrder_119 ?_
                refine z_aload_n ok dX3_readOrder_122 rfl ?_
                refine z_get (v := .int (iI od)) ok zc3 0 rfl 2 (by decide) qf_RX3_19 rfl rfl dX3_readOrder_123 ?_
                refine z_iload_n ok dX3_readOrder_126 rfl ?_
                refine z_iast (f := f1) (v := r42) (ws' := zf [dW Z e P ln od (zu k1 od (sgn P ln pl)) (zu f1 od r42) s1 pl_71]) ok 3 rfl dX3_readOrder_127 (by omega) (by decide) rfl ?_
                refine z_aload_n ok dX3_readOrder_128 rfl ?_
                refine z_get (v := .ref (e 4)) ok zc3 0 rfl 5 (by decide) qf_RX3_29 rfl rfl dX3_readOrder_129 ?_
                refine z_aload_n ok dX3_readOrder_132 rfl ?_
                refine z_get (v := .int (iI od)) ok zc3 0 rfl 2 (by decide) qf_RX3_19 rfl rfl dX3_readOrder_133 ?_
                refine z_iload_n ok dX3_readOrder_136 rfl ?_
                refine z_iast (f := s1) (v := r71) (ws' := zf [dW Z e P ln od (zu k1 od (sgn P ln pl)) (zu f1 od r42) (zu s1 od r71) pl_71]) ok 4 rfl dX3_readOrder_137 (by omega) (by decide) rfl ?_
                refine z_aload_n ok dX3_readOrder_138 rfl ?_
                refine z_dup ok dX3_readOrder_139 rfl ?_
                refine z_get (v := .int (iI od)) ok zc3 0 rfl 2 (by decide) qf_RX3_19 rfl rfl dX3_readOrder_140 ?_
                refine z_iconst ok dX3_readOrder_143 ?_
                refine z_iadd ok dX3_readOrder_144 ?_
                refine z_put (ws' := zf [dW Z e P ln (od + 1) (zu k1 od (sgn P ln pl)) (zu f1 od r42) (zu s1 od r71) pl_71]) ok zc3 0 rfl 2 (by decide) qf_RX3_19 rfl rfl rfl rfl (Nat.le_of_ble_eq_true rfl) dX3_readOrder_145 rfl ?_
                refine z_iconst ok dX3_readOrder_148 ?_
                exact fin 1 (pl_71, od + 1, zu k1 od (sgn P ln pl), zu f1 od r42, zu s1 od r71) 149 _ _ _ dX3_readOrder_149 (by first | decide | exact zb_01 _ | omega) (by first | exact Or.inl (rdO_yt (by omega) hr42 (by omega) hq42) | exact Or.inl (rdO_ys (by omega) hr42 (by omega) h62 hr71 (by omega) hq71) | exact Or.inl (rdO_yd (by unfold knd; omega) (by omega) (by omega) hr42 (by omega) hr89 (by omega) hq89)) (by decide) (by decide)
              · -- f
                refine z_iconst ok dX3_readOrder_106 ?_
                exact fin 0 (pl_71, od, k1, f1, s1) 107 _ _ _ dX3_readOrder_107 (by first | decide | exact zb_01 _ | omega) (by first | exact Or.inr (rdO_ns (by omega) (by omega) h62 (by omega) hq71) | exact Or.inr (rdO_ng (by omega) (by omega) h62 hpe64) | exact Or.inr (rdO_nd (by unfold knd; omega) (by omega) (by omega) (by omega) (by omega) hq89) | exact absurd hod (by omega)) (by decide) (by decide)
      · -- f
        refine z_iconst ok dX3_readOrder_51 ?_
        exact fin 0 (pl_42, od, k1, f1, s1) 52 _ _ _ dX3_readOrder_52 (by first | decide | exact zb_01 _ | omega) (Or.inr (rdO_n1 (by unfold knd; omega) (by omega) hq42)) (by decide) (by decide)
    · -- f
      refine z_iload_n ok dX3_readOrder_17 rfl ?_
      refine z_bipush ok dX3_readOrder_18 (by decide) ?_
      refine z_icmp_eq (tgt := 31) ok dX3_readOrder_20 (by decide) (by omega) (by omega) (fun c20 => ?_) (fun c20 => ?_)
      · -- t
        refine z_aload_n ok dX3_readOrder_31 rfl ?_
        refine z_dup ok dX3_readOrder_32 rfl ?_
        refine z_get (v := .int (iI pl)) ok zc3 0 rfl 6 (by decide) qf_RX3_32 rfl rfl dX3_readOrder_33 ?_
        refine z_iconst ok dX3_readOrder_36 ?_
        refine z_iadd ok dX3_readOrder_37 ?_
        refine z_put (ws' := zf [dW Z e P ln od k1 f1 s1 (pl + 1)]) ok zc3 0 rfl 6 (by decide) qf_RX3_32 rfl rfl rfl rfl (Nat.le_of_ble_eq_true rfl) dX3_readOrder_38 rfl ?_
        refine z_aload_n ok dX3_readOrder_41 rfl ?_
        refine z_callVi0 ok (fun l => c_X3_readNumber  (hpd) (by omega)) zm_X3_readNumber zv_X3_readNumber qm_RX3_53 dX3_readOrder_42 (by decide) (by decide) rfl rfl (Nat.le_of_ble_eq_true rfl) (q0 := 0) rfl rfl rfl (fun r42 u42 hp42 => ?_)
        obtain ⟨pl_42, rfl⟩ : ∃ z, z = u42 := ⟨_, rfl⟩
        try dsimp only at hp42
        refine z_eq (ws' := zf [dW Z e P ln od k1 f1 s1 pl_42]) rfl ?_
        obtain ⟨hr42, hq42⟩ := hp42
        refine z_istore_n (lv' := [(2, .int (iI r42)), (1, .int (iI (sgn P ln pl))), (0, .ref (e 0))]) ok dX3_readOrder_45 (by decide) rfl ?_
        refine z_iload_n ok dX3_readOrder_46 rfl ?_
        refine z_iconst ok dX3_readOrder_47 ?_
        refine z_icmp_ne (tgt := 53) ok dX3_readOrder_48 (by decide) (by omega) (by omega) (fun c48 => ?_) (fun c48 => ?_)
        · -- t
          refine z_iconst ok dX3_readOrder_53 ?_
          refine z_istore_n (lv' := [(3, .int (iI 0)), (2, .int (iI r42)), (1, .int (iI (sgn P ln pl))), (0, .ref (e 0))]) ok dX3_readOrder_54 (by decide) rfl ?_
          refine z_iload_n ok dX3_readOrder_55 rfl ?_
          refine z_bipush ok dX3_readOrder_56 (by decide) ?_
          refine z_icmp_ne (tgt := 82) ok dX3_readOrder_58 (by decide) (by omega) (by omega) (fun c58 => ?_) (fun c58 => ?_)
          · -- t
            refine z_iload_n ok dX3_readOrder_82 rfl ?_
            refine z_bipush ok dX3_readOrder_83 (by decide) ?_
            refine z_icmp_eq (tgt := 93) ok dX3_readOrder_85 (by decide) (by omega) (by omega) (fun c85 => ?_) (fun c85 => ?_)
            · -- t
              refine z_iload_n ok dX3_readOrder_93 rfl ?_
              refine z_if_lt (tgt := 106) ok dX3_readOrder_94 (by decide) (by omega) (fun c94 => ?_) (fun c94 => ?_)
              · -- t
                exact absurd c94 (by decide)
              · -- f
                refine z_aload_n ok dX3_readOrder_97 rfl ?_
                refine z_get (v := .int (iI od)) ok zc3 0 rfl 2 (by decide) qf_RX3_19 rfl rfl dX3_readOrder_98 ?_
                refine z_bipush ok dX3_readOrder_101 (by decide) ?_
                refine z_icmp_lt (tgt := 108) ok dX3_readOrder_103 (by decide) (by omega) (by omega) (fun c103 => ?_) (fun c103 => ?_)
                · -- t
                  refine z_aload_n ok dX3_readOrder_108 rfl ?_
                  refine z_get (v := .ref (e 2)) ok zc3 0 rfl 3 (by decide) qf_RX3_22 rfl rfl dX3_readOrder_109 ?_
                  refine z_aload_n ok dX3_readOrder_112 rfl ?_
                  refine z_get (v := .int (iI od)) ok zc3 0 rfl 2 (by decide) qf_RX3_19 rfl rfl dX3_readOrder_113 ?_
                  refine z_iload_n ok dX3_readOrder_116 rfl ?_
                  refine z_iast (f := k1) (v := sgn P ln pl) (ws' := zf [dW Z e P ln od (zu k1 od (sgn P ln pl)) f1 s1 pl_42]) ok 2 rfl dX3_readOrder_117 (by omega) (by decide) rfl ?_
                  refine z_aload_n ok dX3_readOrder_118 rfl ?_
                  refine z_get (v := .ref (e 3)) ok zc3 0 rfl 4 (by decide) qf_RX3_26 rfl rfl dX3_readOrder_119 ?_
                  refine z_aload_n ok dX3_readOrder_122 rfl ?_
                  refine z_get (v := .int (iI od)) ok zc3 0 rfl 2 (by decide) qf_RX3_19 rfl rfl dX3_readOrder_123 ?_
                  refine z_iload_n ok dX3_readOrder_126 rfl ?_
                  refine z_iast (f := f1) (v := r42) (ws' := zf [dW Z e P ln od (zu k1 od (sgn P ln pl)) (zu f1 od r42) s1 pl_42]) ok 3 rfl dX3_readOrder_127 (by omega) (by decide) rfl ?_
                  refine z_aload_n ok dX3_readOrder_128 rfl ?_
                  refine z_get (v := .ref (e 4)) ok zc3 0 rfl 5 (by decide) qf_RX3_29 rfl rfl dX3_readOrder_129 ?_
                  refine z_aload_n ok dX3_readOrder_132 rfl ?_
                  refine z_get (v := .int (iI od)) ok zc3 0 rfl 2 (by decide) qf_RX3_19 rfl rfl dX3_readOrder_133 ?_
                  refine z_iload_n ok dX3_readOrder_136 rfl ?_
                  refine z_iast (f := s1) (v := 0) (ws' := zf [dW Z e P ln od (zu k1 od (sgn P ln pl)) (zu f1 od r42) (zu s1 od 0) pl_42]) ok 4 rfl dX3_readOrder_137 (by omega) (by decide) rfl ?_
                  refine z_aload_n ok dX3_readOrder_138 rfl ?_
                  refine z_dup ok dX3_readOrder_139 rfl ?_
                  refine z_get (v := .int (iI od)) ok zc3 0 rfl 2 (by decide) qf_RX3_19 rfl rfl dX3_readOrder_140 ?_
                  refine z_iconst ok dX3_readOrder_143 ?_
                  refine z_iadd ok dX3_readOrder_144 ?_
                  refine z_put (ws' := zf [dW Z e P ln (od + 1) (zu k1 od (sgn P ln pl)) (zu f1 od r42) (zu s1 od 0) pl_42]) ok zc3 0 rfl 2 (by decide) qf_RX3_19 rfl rfl rfl rfl (Nat.le_of_ble_eq_true rfl) dX3_readOrder_145 rfl ?_
                  refine z_iconst ok dX3_readOrder_148 ?_
                  exact fin 1 (pl_42, od + 1, zu k1 od (sgn P ln pl), zu f1 od r42, zu s1 od 0) 149 _ _ _ dX3_readOrder_149 (by first | decide | exact zb_01 _ | omega) (by first | exact Or.inl (rdO_yt (by omega) hr42 (by omega) hq42) | exact Or.inl (rdO_ys (by omega) hr42 (by omega) h62 hr71 (by omega) hq71) | exact Or.inl (rdO_yd (by unfold knd; omega) (by omega) (by omega) hr42 (by omega) hr89 (by omega) hq89)) (by decide) (by decide)
                · -- f
                  refine z_iconst ok dX3_readOrder_106 ?_
                  exact fin 0 (pl_42, od, k1, f1, s1) 107 _ _ _ dX3_readOrder_107 (by first | decide | exact zb_01 _ | omega) (by first | exact Or.inr (rdO_ns (by omega) (by omega) h62 (by omega) hq71) | exact Or.inr (rdO_ng (by omega) (by omega) h62 hpe64) | exact Or.inr (rdO_nd (by unfold knd; omega) (by omega) (by omega) (by omega) (by omega) hq89) | exact absurd hod (by omega)) (by decide) (by decide)
            · -- f
              refine z_aload_n ok dX3_readOrder_88 rfl ?_
              refine z_callVi0 ok (fun l => c_X3_readSide  (hpd) (by omega)) zm_X3_readSide zv_X3_readSide qm_RX3_57 dX3_readOrder_89 (by decide) (by decide) rfl rfl (Nat.le_of_ble_eq_true rfl) (q0 := 0) rfl rfl rfl (fun r89 u89 hp89 => ?_)
              obtain ⟨pl_89, rfl⟩ : ∃ z, z = u89 := ⟨_, rfl⟩
              try dsimp only at hp89
              refine z_eq (ws' := zf [dW Z e P ln od k1 f1 s1 pl_89]) rfl ?_
              obtain ⟨hr89, hq89⟩ := hp89
              rw [hq42] at hr89 hq89
              refine z_istore_n (lv' := [(3, .int (iI r89)), (2, .int (iI r42)), (1, .int (iI (sgn P ln pl))), (0, .ref (e 0))]) ok dX3_readOrder_92 (by decide) rfl ?_
              refine z_iload_n ok dX3_readOrder_93 rfl ?_
              refine z_if_lt (tgt := 106) ok dX3_readOrder_94 (by decide) (by omega) (fun c94 => ?_) (fun c94 => ?_)
              · -- t
                refine z_iconst ok dX3_readOrder_106 ?_
                exact fin 0 (pl_89, od, k1, f1, s1) 107 _ _ _ dX3_readOrder_107 (by first | decide | exact zb_01 _ | omega) (by first | exact Or.inr (rdO_ns (by omega) (by omega) h62 (by omega) hq71) | exact Or.inr (rdO_ng (by omega) (by omega) h62 hpe64) | exact Or.inr (rdO_nd (by unfold knd; omega) (by omega) (by omega) (by omega) (by omega) hq89) | exact absurd hod (by omega)) (by decide) (by decide)
              · -- f
                refine z_aload_n ok dX3_readOrder_97 rfl ?_
                refine z_get (v := .int (iI od)) ok zc3 0 rfl 2 (by decide) qf_RX3_19 rfl rfl dX3_readOrder_98 ?_
                refine z_bipush ok dX3_readOrder_101 (by decide) ?_
                refine z_icmp_lt (tgt := 108) ok dX3_readOrder_103 (by decide) (by omega) (by omega) (fun c103 => ?_) (fun c103 => ?_)
                · -- t
                  refine z_aload_n ok dX3_readOrder_108 rfl ?_
                  refine z_get (v := .ref (e 2)) ok zc3 0 rfl 3 (by decide) qf_RX3_22 rfl rfl dX3_readOrder_109 ?_
                  refine z_aload_n ok dX3_readOrder_112 rfl ?_
                  refine z_get (v := .int (iI od)) ok zc3 0 rfl 2 (by decide) qf_RX3_19 rfl rfl dX3_readOrder_113 ?_
                  refine z_iload_n ok dX3_readOrder_116 rfl ?_
                  refine z_iast (f := k1) (v := sgn P ln pl) (ws' := zf [dW Z e P ln od (zu k1 od (sgn P ln pl)) f1 s1 pl_89]) ok 2 rfl dX3_readOrder_117 (by omega) (by decide) rfl ?_
                  refine z_aload_n ok dX3_readOrder_118 rfl ?_
                  refine z_get (v := .ref (e 3)) ok zc3 0 rfl 4 (by decide) qf_RX3_26 rfl rfl dX3_readOrder_119 ?_
                  refine z_aload_n ok dX3_readOrder_122 rfl ?_
                  refine z_get (v := .int (iI od)) ok zc3 0 rfl 2 (by decide) qf_RX3_19 rfl rfl dX3_readOrder_123 ?_
                  refine z_iload_n ok dX3_readOrder_126 rfl ?_
                  refine z_iast (f := f1) (v := r42) (ws' := zf [dW Z e P ln od (zu k1 od (sgn P ln pl)) (zu f1 od r42) s1 pl_89]) ok 3 rfl dX3_readOrder_127 (by omega) (by decide) rfl ?_
                  refine z_aload_n ok dX3_readOrder_128 rfl ?_
                  refine z_get (v := .ref (e 4)) ok zc3 0 rfl 5 (by decide) qf_RX3_29 rfl rfl dX3_readOrder_129 ?_
                  refine z_aload_n ok dX3_readOrder_132 rfl ?_
                  refine z_get (v := .int (iI od)) ok zc3 0 rfl 2 (by decide) qf_RX3_19 rfl rfl dX3_readOrder_133 ?_
                  refine z_iload_n ok dX3_readOrder_136 rfl ?_
                  refine z_iast (f := s1) (v := r89) (ws' := zf [dW Z e P ln od (zu k1 od (sgn P ln pl)) (zu f1 od r42) (zu s1 od r89) pl_89]) ok 4 rfl dX3_readOrder_137 (by omega) (by decide) rfl ?_
                  refine z_aload_n ok dX3_readOrder_138 rfl ?_
                  refine z_dup ok dX3_readOrder_139 rfl ?_
                  refine z_get (v := .int (iI od)) ok zc3 0 rfl 2 (by decide) qf_RX3_19 rfl rfl dX3_readOrder_140 ?_
                  refine z_iconst ok dX3_readOrder_143 ?_
                  refine z_iadd ok dX3_readOrder_144 ?_
                  refine z_put (ws' := zf [dW Z e P ln (od + 1) (zu k1 od (sgn P ln pl)) (zu f1 od r42) (zu s1 od r89) pl_89]) ok zc3 0 rfl 2 (by decide) qf_RX3_19 rfl rfl rfl rfl (Nat.le_of_ble_eq_true rfl) dX3_readOrder_145 rfl ?_
                  refine z_iconst ok dX3_readOrder_148 ?_
                  exact fin 1 (pl_89, od + 1, zu k1 od (sgn P ln pl), zu f1 od r42, zu s1 od r89) 149 _ _ _ dX3_readOrder_149 (by first | decide | exact zb_01 _ | omega) (by first | exact Or.inl (rdO_yt (by omega) hr42 (by omega) hq42) | exact Or.inl (rdO_ys (by omega) hr42 (by omega) h62 hr71 (by omega) hq71) | exact Or.inl (rdO_yd (by unfold knd; omega) (by omega) (by omega) hr42 (by omega) hr89 (by omega) hq89)) (by decide) (by decide)
                · -- f
                  refine z_iconst ok dX3_readOrder_106 ?_
                  exact fin 0 (pl_89, od, k1, f1, s1) 107 _ _ _ dX3_readOrder_107 (by first | decide | exact zb_01 _ | omega) (by first | exact Or.inr (rdO_ns (by omega) (by omega) h62 (by omega) hq71) | exact Or.inr (rdO_ng (by omega) (by omega) h62 hpe64) | exact Or.inr (rdO_nd (by unfold knd; omega) (by omega) (by omega) (by omega) (by omega) hq89) | exact absurd hod (by omega)) (by decide) (by decide)
          · -- f
            refine z_aload_n ok dX3_readOrder_61 rfl ?_
            refine z_bipush ok dX3_readOrder_62 (by decide) ?_
            refine z_callVi0 ok (fun l => c_X3_readSign  (hpd) (by omega) (by decide)) zm_X3_readSign zv_X3_readSign qm_RX3_45 dX3_readOrder_64 (by decide) (by decide) rfl rfl (Nat.le_of_ble_eq_true rfl) (q0 := 0) rfl rfl rfl (fun r64 u64 hp64 => ?_)
            obtain ⟨pl_64, rfl⟩ : ∃ z, z = u64 := ⟨_, rfl⟩
            try dsimp only at hp64
            refine z_eq (ws' := zf [dW Z e P ln od k1 f1 s1 pl_64]) rfl ?_
            rw [hq42] at hp64
            refine z_if_eq (tgt := 77) ok dX3_readOrder_67 (by decide) (by rcases hp64 with ⟨e1, e2, e3⟩ | ⟨e1, e2, e3⟩ <;> omega) (fun c67 => ?_) (fun c67 => ?_)
            · -- t
              obtain ⟨h62, hpe64⟩ : ¬ sgn P ln (numP P ln (pl + 1)) = 62 ∧ pl_64 = numP P ln (pl + 1) := by rcases hp64 with ⟨e1, e2, e3⟩ | ⟨e1, e2, e3⟩; omega; exact ⟨e1, e3⟩
              refine z_iconst ok dX3_readOrder_77 ?_
              refine z_istore_n (lv' := [(3, .int (iI (-1))), (2, .int (iI r42)), (1, .int (iI (sgn P ln pl))), (0, .ref (e 0))]) ok dX3_readOrder_78 (by decide) rfl ?_
              refine z_goto (tgt := 93) ok dX3_readOrder_79 (by decide) ?_
              refine z_iload_n ok dX3_readOrder_93 rfl ?_
              refine z_if_lt (tgt := 106) ok dX3_readOrder_94 (by decide) (by omega) (fun c94 => ?_) (fun c94 => ?_)
              · -- t
                refine z_iconst ok dX3_readOrder_106 ?_
                exact fin 0 (pl_64, od, k1, f1, s1) 107 _ _ _ dX3_readOrder_107 (by first | decide | exact zb_01 _ | omega) (by first | exact Or.inr (rdO_ns (by omega) (by omega) h62 (by omega) hq71) | exact Or.inr (rdO_ng (by omega) (by omega) h62 hpe64) | exact Or.inr (rdO_nd (by unfold knd; omega) (by omega) (by omega) (by omega) (by omega) hq89) | exact absurd hod (by omega)) (by decide) (by decide)
              · -- f
                exact absurd c94 (by decide)
            · -- f
              obtain ⟨h62, hpe64⟩ : sgn P ln (numP P ln (pl + 1)) = 62 ∧ pl_64 = numP P ln (pl + 1) + 1 := by rcases hp64 with ⟨e1, e2, e3⟩ | ⟨e1, e2, e3⟩; exact ⟨e1, e3⟩; omega
              refine z_aload_n ok dX3_readOrder_70 rfl ?_
              refine z_callVi0 ok (fun l => c_X3_readNumber  (hpd) (by omega)) zm_X3_readNumber zv_X3_readNumber qm_RX3_53 dX3_readOrder_71 (by decide) (by decide) rfl rfl (Nat.le_of_ble_eq_true rfl) (q0 := 0) rfl rfl rfl (fun r71 u71 hp71 => ?_)
              obtain ⟨pl_71, rfl⟩ : ∃ z, z = u71 := ⟨_, rfl⟩
              try dsimp only at hp71
              refine z_eq (ws' := zf [dW Z e P ln od k1 f1 s1 pl_71]) rfl ?_
              obtain ⟨hr71, hq71⟩ := hp71
              rw [hpe64] at hr71 hq71
              refine z_goto (tgt := 78) ok dX3_readOrder_74 (by decide) ?_
              refine z_istore_n (lv' := [(3, .int (iI r71)), (2, .int (iI r42)), (1, .int (iI (sgn P ln pl))), (0, .ref (e 0))]) ok dX3_readOrder_78 (by decide) rfl ?_
              refine z_goto (tgt := 93) ok dX3_readOrder_79 (by decide) ?_
              refine z_iload_n ok dX3_readOrder_93 rfl ?_
              refine z_if_lt (tgt := 106) ok dX3_readOrder_94 (by decide) (by omega) (fun c94 => ?_) (fun c94 => ?_)
              · -- t
                refine z_iconst ok dX3_readOrder_106 ?_
                exact fin 0 (pl_71, od, k1, f1, s1) 107 _ _ _ dX3_readOrder_107 (by first | decide | exact zb_01 _ | omega) (by first | exact Or.inr (rdO_ns (by omega) (by omega) h62 (by omega) hq71) | exact Or.inr (rdO_ng (by omega) (by omega) h62 hpe64) | exact Or.inr (rdO_nd (by unfold knd; omega) (by omega) (by omega) (by omega) (by omega) hq89) | exact absurd hod (by omega)) (by decide) (by decide)
              · -- f
                refine z_aload_n ok dX3_readOrder_97 rfl ?_
                refine z_get (v := .int (iI od)) ok zc3 0 rfl 2 (by decide) qf_RX3_19 rfl rfl dX3_readOrder_98 ?_
                refine z_bipush ok dX3_readOrder_101 (by decide) ?_
                refine z_icmp_lt (tgt := 108) ok dX3_readOrder_103 (by decide) (by omega) (by omega) (fun c103 => ?_) (fun c103 => ?_)
                · -- t
                  refine z_aload_n ok dX3_readOrder_108 rfl ?_
                  refine z_get (v := .ref (e 2)) ok zc3 0 rfl 3 (by decide) qf_RX3_22 rfl rfl dX3_readOrder_109 ?_
                  refine z_aload_n ok dX3_readOrder_112 rfl ?_
                  refine z_get (v := .int (iI od)) ok zc3 0 rfl 2 (by decide) qf_RX3_19 rfl rfl dX3_readOrder_113 ?_
                  refine z_iload_n ok dX3_readOrder_116 rfl ?_
                  refine z_iast (f := k1) (v := sgn P ln pl) (ws' := zf [dW Z e P ln od (zu k1 od (sgn P ln pl)) f1 s1 pl_71]) ok 2 rfl dX3_readOrder_117 (by omega) (by decide) rfl ?_
                  refine z_aload_n ok dX3_readOrder_118 rfl ?_
                  refine z_get (v := .ref (e 3)) ok zc3 0 rfl 4 (by decide) qf_RX3_26 rfl rfl dX3_readOrder_119 ?_
                  refine z_aload_n ok dX3_readOrder_122 rfl ?_
                  refine z_get (v := .int (iI od)) ok zc3 0 rfl 2 (by decide) qf_RX3_19 rfl rfl dX3_readOrder_123 ?_
                  refine z_iload_n ok dX3_readOrder_126 rfl ?_
                  refine z_iast (f := f1) (v := r42) (ws' := zf [dW Z e P ln od (zu k1 od (sgn P ln pl)) (zu f1 od r42) s1 pl_71]) ok 3 rfl dX3_readOrder_127 (by omega) (by decide) rfl ?_
                  refine z_aload_n ok dX3_readOrder_128 rfl ?_
                  refine z_get (v := .ref (e 4)) ok zc3 0 rfl 5 (by decide) qf_RX3_29 rfl rfl dX3_readOrder_129 ?_
                  refine z_aload_n ok dX3_readOrder_132 rfl ?_
                  refine z_get (v := .int (iI od)) ok zc3 0 rfl 2 (by decide) qf_RX3_19 rfl rfl dX3_readOrder_133 ?_
                  refine z_iload_n ok dX3_readOrder_136 rfl ?_
                  refine z_iast (f := s1) (v := r71) (ws' := zf [dW Z e P ln od (zu k1 od (sgn P ln pl)) (zu f1 od r42) (zu s1 od r71) pl_71]) ok 4 rfl dX3_readOrder_137 (by omega) (by decide) rfl ?_
                  refine z_aload_n ok dX3_readOrder_138 rfl ?_
                  refine z_dup ok dX3_readOrder_139 rfl ?_
                  refine z_get (v := .int (iI od)) ok zc3 0 rfl 2 (by decide) qf_RX3_19 rfl rfl dX3_readOrder_140 ?_
                  refine z_iconst ok dX3_readOrder_143 ?_
                  refine z_iadd ok dX3_readOrder_144 ?_
                  refine z_put (ws' := zf [dW Z e P ln (od + 1) (zu k1 od (sgn P ln pl)) (zu f1 od r42) (zu s1 od r71) pl_71]) ok zc3 0 rfl 2 (by decide) qf_RX3_19 rfl rfl rfl rfl (Nat.le_of_ble_eq_true rfl) dX3_readOrder_145 rfl ?_
                  refine z_iconst ok dX3_readOrder_148 ?_
                  exact fin 1 (pl_71, od + 1, zu k1 od (sgn P ln pl), zu f1 od r42, zu s1 od r71) 149 _ _ _ dX3_readOrder_149 (by first | decide | exact zb_01 _ | omega) (by first | exact Or.inl (rdO_yt (by omega) hr42 (by omega) hq42) | exact Or.inl (rdO_ys (by omega) hr42 (by omega) h62 hr71 (by omega) hq71) | exact Or.inl (rdO_yd (by unfold knd; omega) (by omega) (by omega) hr42 (by omega) hr89 (by omega) hq89)) (by decide) (by decide)
                · -- f
                  refine z_iconst ok dX3_readOrder_106 ?_
                  exact fin 0 (pl_71, od, k1, f1, s1) 107 _ _ _ dX3_readOrder_107 (by first | decide | exact zb_01 _ | omega) (by first | exact Or.inr (rdO_ns (by omega) (by omega) h62 (by omega) hq71) | exact Or.inr (rdO_ng (by omega) (by omega) h62 hpe64) | exact Or.inr (rdO_nd (by unfold knd; omega) (by omega) (by omega) (by omega) (by omega) hq89) | exact absurd hod (by omega)) (by decide) (by decide)
        · -- f
          refine z_iconst ok dX3_readOrder_51 ?_
          exact fin 0 (pl_42, od, k1, f1, s1) 52 _ _ _ dX3_readOrder_52 (by first | decide | exact zb_01 _ | omega) (Or.inr (rdO_n1 (by unfold knd; omega) (by omega) hq42)) (by decide) (by decide)
      · -- f
        refine z_iload_n ok dX3_readOrder_23 rfl ?_
        refine z_bipush ok dX3_readOrder_24 (by decide) ?_
        refine z_icmp_eq (tgt := 31) ok dX3_readOrder_26 (by decide) (by omega) (by omega) (fun c26 => ?_) (fun c26 => ?_)
        · -- t
          refine z_aload_n ok dX3_readOrder_31 rfl ?_
          refine z_dup ok dX3_readOrder_32 rfl ?_
          refine z_get (v := .int (iI pl)) ok zc3 0 rfl 6 (by decide) qf_RX3_32 rfl rfl dX3_readOrder_33 ?_
          refine z_iconst ok dX3_readOrder_36 ?_
          refine z_iadd ok dX3_readOrder_37 ?_
          refine z_put (ws' := zf [dW Z e P ln od k1 f1 s1 (pl + 1)]) ok zc3 0 rfl 6 (by decide) qf_RX3_32 rfl rfl rfl rfl (Nat.le_of_ble_eq_true rfl) dX3_readOrder_38 rfl ?_
          refine z_aload_n ok dX3_readOrder_41 rfl ?_
          refine z_callVi0 ok (fun l => c_X3_readNumber  (hpd) (by omega)) zm_X3_readNumber zv_X3_readNumber qm_RX3_53 dX3_readOrder_42 (by decide) (by decide) rfl rfl (Nat.le_of_ble_eq_true rfl) (q0 := 0) rfl rfl rfl (fun r42 u42 hp42 => ?_)
          obtain ⟨pl_42, rfl⟩ : ∃ z, z = u42 := ⟨_, rfl⟩
          try dsimp only at hp42
          refine z_eq (ws' := zf [dW Z e P ln od k1 f1 s1 pl_42]) rfl ?_
          obtain ⟨hr42, hq42⟩ := hp42
          refine z_istore_n (lv' := [(2, .int (iI r42)), (1, .int (iI (sgn P ln pl))), (0, .ref (e 0))]) ok dX3_readOrder_45 (by decide) rfl ?_
          refine z_iload_n ok dX3_readOrder_46 rfl ?_
          refine z_iconst ok dX3_readOrder_47 ?_
          refine z_icmp_ne (tgt := 53) ok dX3_readOrder_48 (by decide) (by omega) (by omega) (fun c48 => ?_) (fun c48 => ?_)
          · -- t
            refine z_iconst ok dX3_readOrder_53 ?_
            refine z_istore_n (lv' := [(3, .int (iI 0)), (2, .int (iI r42)), (1, .int (iI (sgn P ln pl))), (0, .ref (e 0))]) ok dX3_readOrder_54 (by decide) rfl ?_
            refine z_iload_n ok dX3_readOrder_55 rfl ?_
            refine z_bipush ok dX3_readOrder_56 (by decide) ?_
            refine z_icmp_ne (tgt := 82) ok dX3_readOrder_58 (by decide) (by omega) (by omega) (fun c58 => ?_) (fun c58 => ?_)
            · -- t
              refine z_iload_n ok dX3_readOrder_82 rfl ?_
              refine z_bipush ok dX3_readOrder_83 (by decide) ?_
              refine z_icmp_eq (tgt := 93) ok dX3_readOrder_85 (by decide) (by omega) (by omega) (fun c85 => ?_) (fun c85 => ?_)
              · -- t
                refine z_iload_n ok dX3_readOrder_93 rfl ?_
                refine z_if_lt (tgt := 106) ok dX3_readOrder_94 (by decide) (by omega) (fun c94 => ?_) (fun c94 => ?_)
                · -- t
                  exact absurd c94 (by decide)
                · -- f
                  refine z_aload_n ok dX3_readOrder_97 rfl ?_
                  refine z_get (v := .int (iI od)) ok zc3 0 rfl 2 (by decide) qf_RX3_19 rfl rfl dX3_readOrder_98 ?_
                  refine z_bipush ok dX3_readOrder_101 (by decide) ?_
                  refine z_icmp_lt (tgt := 108) ok dX3_readOrder_103 (by decide) (by omega) (by omega) (fun c103 => ?_) (fun c103 => ?_)
                  · -- t
                    refine z_aload_n ok dX3_readOrder_108 rfl ?_
                    refine z_get (v := .ref (e 2)) ok zc3 0 rfl 3 (by decide) qf_RX3_22 rfl rfl dX3_readOrder_109 ?_
                    refine z_aload_n ok dX3_readOrder_112 rfl ?_
                    refine z_get (v := .int (iI od)) ok zc3 0 rfl 2 (by decide) qf_RX3_19 rfl rfl dX3_readOrder_113 ?_
                    refine z_iload_n ok dX3_readOrder_116 rfl ?_
                    refine z_iast (f := k1) (v := sgn P ln pl) (ws' := zf [dW Z e P ln od (zu k1 od (sgn P ln pl)) f1 s1 pl_42]) ok 2 rfl dX3_readOrder_117 (by omega) (by decide) rfl ?_
                    refine z_aload_n ok dX3_readOrder_118 rfl ?_
                    refine z_get (v := .ref (e 3)) ok zc3 0 rfl 4 (by decide) qf_RX3_26 rfl rfl dX3_readOrder_119 ?_
                    refine z_aload_n ok dX3_readOrder_122 rfl ?_
                    refine z_get (v := .int (iI od)) ok zc3 0 rfl 2 (by decide) qf_RX3_19 rfl rfl dX3_readOrder_123 ?_
                    refine z_iload_n ok dX3_readOrder_126 rfl ?_
                    refine z_iast (f := f1) (v := r42) (ws' := zf [dW Z e P ln od (zu k1 od (sgn P ln pl)) (zu f1 od r42) s1 pl_42]) ok 3 rfl dX3_readOrder_127 (by omega) (by decide) rfl ?_
                    refine z_aload_n ok dX3_readOrder_128 rfl ?_
                    refine z_get (v := .ref (e 4)) ok zc3 0 rfl 5 (by decide) qf_RX3_29 rfl rfl dX3_readOrder_129 ?_
                    refine z_aload_n ok dX3_readOrder_132 rfl ?_
                    refine z_get (v := .int (iI od)) ok zc3 0 rfl 2 (by decide) qf_RX3_19 rfl rfl dX3_readOrder_133 ?_
                    refine z_iload_n ok dX3_readOrder_136 rfl ?_
                    refine z_iast (f := s1) (v := 0) (ws' := zf [dW Z e P ln od (zu k1 od (sgn P ln pl)) (zu f1 od r42) (zu s1 od 0) pl_42]) ok 4 rfl dX3_readOrder_137 (by omega) (by decide) rfl ?_
                    refine z_aload_n ok dX3_readOrder_138 rfl ?_
                    refine z_dup ok dX3_readOrder_139 rfl ?_
                    refine z_get (v := .int (iI od)) ok zc3 0 rfl 2 (by decide) qf_RX3_19 rfl rfl dX3_readOrder_140 ?_
                    refine z_iconst ok dX3_readOrder_143 ?_
                    refine z_iadd ok dX3_readOrder_144 ?_
                    refine z_put (ws' := zf [dW Z e P ln (od + 1) (zu k1 od (sgn P ln pl)) (zu f1 od r42) (zu s1 od 0) pl_42]) ok zc3 0 rfl 2 (by decide) qf_RX3_19 rfl rfl rfl rfl (Nat.le_of_ble_eq_true rfl) dX3_readOrder_145 rfl ?_
                    refine z_iconst ok dX3_readOrder_148 ?_
                    exact fin 1 (pl_42, od + 1, zu k1 od (sgn P ln pl), zu f1 od r42, zu s1 od 0) 149 _ _ _ dX3_readOrder_149 (by first | decide | exact zb_01 _ | omega) (by first | exact Or.inl (rdO_yt (by omega) hr42 (by omega) hq42) | exact Or.inl (rdO_ys (by omega) hr42 (by omega) h62 hr71 (by omega) hq71) | exact Or.inl (rdO_yd (by unfold knd; omega) (by omega) (by omega) hr42 (by omega) hr89 (by omega) hq89)) (by decide) (by decide)
                  · -- f
                    refine z_iconst ok dX3_readOrder_106 ?_
                    exact fin 0 (pl_42, od, k1, f1, s1) 107 _ _ _ dX3_readOrder_107 (by first | decide | exact zb_01 _ | omega) (by first | exact Or.inr (rdO_ns (by omega) (by omega) h62 (by omega) hq71) | exact Or.inr (rdO_ng (by omega) (by omega) h62 hpe64) | exact Or.inr (rdO_nd (by unfold knd; omega) (by omega) (by omega) (by omega) (by omega) hq89) | exact absurd hod (by omega)) (by decide) (by decide)
              · -- f
                refine z_aload_n ok dX3_readOrder_88 rfl ?_
                refine z_callVi0 ok (fun l => c_X3_readSide  (hpd) (by omega)) zm_X3_readSide zv_X3_readSide qm_RX3_57 dX3_readOrder_89 (by decide) (by decide) rfl rfl (Nat.le_of_ble_eq_true rfl) (q0 := 0) rfl rfl rfl (fun r89 u89 hp89 => ?_)
                obtain ⟨pl_89, rfl⟩ : ∃ z, z = u89 := ⟨_, rfl⟩
                try dsimp only at hp89
                refine z_eq (ws' := zf [dW Z e P ln od k1 f1 s1 pl_89]) rfl ?_
                obtain ⟨hr89, hq89⟩ := hp89
                rw [hq42] at hr89 hq89
                refine z_istore_n (lv' := [(3, .int (iI r89)), (2, .int (iI r42)), (1, .int (iI (sgn P ln pl))), (0, .ref (e 0))]) ok dX3_readOrder_92 (by decide) rfl ?_
                refine z_iload_n ok dX3_readOrder_93 rfl ?_
                refine z_if_lt (tgt := 106) ok dX3_readOrder_94 (by decide) (by omega) (fun c94 => ?_) (fun c94 => ?_)
                · -- t
                  refine z_iconst ok dX3_readOrder_106 ?_
                  exact fin 0 (pl_89, od, k1, f1, s1) 107 _ _ _ dX3_readOrder_107 (by first | decide | exact zb_01 _ | omega) (by first | exact Or.inr (rdO_ns (by omega) (by omega) h62 (by omega) hq71) | exact Or.inr (rdO_ng (by omega) (by omega) h62 hpe64) | exact Or.inr (rdO_nd (by unfold knd; omega) (by omega) (by omega) (by omega) (by omega) hq89) | exact absurd hod (by omega)) (by decide) (by decide)
                · -- f
                  refine z_aload_n ok dX3_readOrder_97 rfl ?_
                  refine z_get (v := .int (iI od)) ok zc3 0 rfl 2 (by decide) qf_RX3_19 rfl rfl dX3_readOrder_98 ?_
                  refine z_bipush ok dX3_readOrder_101 (by decide) ?_
                  refine z_icmp_lt (tgt := 108) ok dX3_readOrder_103 (by decide) (by omega) (by omega) (fun c103 => ?_) (fun c103 => ?_)
                  · -- t
                    refine z_aload_n ok dX3_readOrder_108 rfl ?_
                    refine z_get (v := .ref (e 2)) ok zc3 0 rfl 3 (by decide) qf_RX3_22 rfl rfl dX3_readOrder_109 ?_
                    refine z_aload_n ok dX3_readOrder_112 rfl ?_
                    refine z_get (v := .int (iI od)) ok zc3 0 rfl 2 (by decide) qf_RX3_19 rfl rfl dX3_readOrder_113 ?_
                    refine z_iload_n ok dX3_readOrder_116 rfl ?_
                    refine z_iast (f := k1) (v := sgn P ln pl) (ws' := zf [dW Z e P ln od (zu k1 od (sgn P ln pl)) f1 s1 pl_89]) ok 2 rfl dX3_readOrder_117 (by omega) (by decide) rfl ?_
                    refine z_aload_n ok dX3_readOrder_118 rfl ?_
                    refine z_get (v := .ref (e 3)) ok zc3 0 rfl 4 (by decide) qf_RX3_26 rfl rfl dX3_readOrder_119 ?_
                    refine z_aload_n ok dX3_readOrder_122 rfl ?_
                    refine z_get (v := .int (iI od)) ok zc3 0 rfl 2 (by decide) qf_RX3_19 rfl rfl dX3_readOrder_123 ?_
                    refine z_iload_n ok dX3_readOrder_126 rfl ?_
                    refine z_iast (f := f1) (v := r42) (ws' := zf [dW Z e P ln od (zu k1 od (sgn P ln pl)) (zu f1 od r42) s1 pl_89]) ok 3 rfl dX3_readOrder_127 (by omega) (by decide) rfl ?_
                    refine z_aload_n ok dX3_readOrder_128 rfl ?_
                    refine z_get (v := .ref (e 4)) ok zc3 0 rfl 5 (by decide) qf_RX3_29 rfl rfl dX3_readOrder_129 ?_
                    refine z_aload_n ok dX3_readOrder_132 rfl ?_
                    refine z_get (v := .int (iI od)) ok zc3 0 rfl 2 (by decide) qf_RX3_19 rfl rfl dX3_readOrder_133 ?_
                    refine z_iload_n ok dX3_readOrder_136 rfl ?_
                    refine z_iast (f := s1) (v := r89) (ws' := zf [dW Z e P ln od (zu k1 od (sgn P ln pl)) (zu f1 od r42) (zu s1 od r89) pl_89]) ok 4 rfl dX3_readOrder_137 (by omega) (by decide) rfl ?_
                    refine z_aload_n ok dX3_readOrder_138 rfl ?_
                    refine z_dup ok dX3_readOrder_139 rfl ?_
                    refine z_get (v := .int (iI od)) ok zc3 0 rfl 2 (by decide) qf_RX3_19 rfl rfl dX3_readOrder_140 ?_
                    refine z_iconst ok dX3_readOrder_143 ?_
                    refine z_iadd ok dX3_readOrder_144 ?_
                    refine z_put (ws' := zf [dW Z e P ln (od + 1) (zu k1 od (sgn P ln pl)) (zu f1 od r42) (zu s1 od r89) pl_89]) ok zc3 0 rfl 2 (by decide) qf_RX3_19 rfl rfl rfl rfl (Nat.le_of_ble_eq_true rfl) dX3_readOrder_145 rfl ?_
                    refine z_iconst ok dX3_readOrder_148 ?_
                    exact fin 1 (pl_89, od + 1, zu k1 od (sgn P ln pl), zu f1 od r42, zu s1 od r89) 149 _ _ _ dX3_readOrder_149 (by first | decide | exact zb_01 _ | omega) (by first | exact Or.inl (rdO_yt (by omega) hr42 (by omega) hq42) | exact Or.inl (rdO_ys (by omega) hr42 (by omega) h62 hr71 (by omega) hq71) | exact Or.inl (rdO_yd (by unfold knd; omega) (by omega) (by omega) hr42 (by omega) hr89 (by omega) hq89)) (by decide) (by decide)
                  · -- f
                    refine z_iconst ok dX3_readOrder_106 ?_
                    exact fin 0 (pl_89, od, k1, f1, s1) 107 _ _ _ dX3_readOrder_107 (by first | decide | exact zb_01 _ | omega) (by first | exact Or.inr (rdO_ns (by omega) (by omega) h62 (by omega) hq71) | exact Or.inr (rdO_ng (by omega) (by omega) h62 hpe64) | exact Or.inr (rdO_nd (by unfold knd; omega) (by omega) (by omega) (by omega) (by omega) hq89) | exact absurd hod (by omega)) (by decide) (by decide)
            · -- f
              refine z_aload_n ok dX3_readOrder_61 rfl ?_
              refine z_bipush ok dX3_readOrder_62 (by decide) ?_
              refine z_callVi0 ok (fun l => c_X3_readSign  (hpd) (by omega) (by decide)) zm_X3_readSign zv_X3_readSign qm_RX3_45 dX3_readOrder_64 (by decide) (by decide) rfl rfl (Nat.le_of_ble_eq_true rfl) (q0 := 0) rfl rfl rfl (fun r64 u64 hp64 => ?_)
              obtain ⟨pl_64, rfl⟩ : ∃ z, z = u64 := ⟨_, rfl⟩
              try dsimp only at hp64
              refine z_eq (ws' := zf [dW Z e P ln od k1 f1 s1 pl_64]) rfl ?_
              rw [hq42] at hp64
              refine z_if_eq (tgt := 77) ok dX3_readOrder_67 (by decide) (by rcases hp64 with ⟨e1, e2, e3⟩ | ⟨e1, e2, e3⟩ <;> omega) (fun c67 => ?_) (fun c67 => ?_)
              · -- t
                obtain ⟨h62, hpe64⟩ : ¬ sgn P ln (numP P ln (pl + 1)) = 62 ∧ pl_64 = numP P ln (pl + 1) := by rcases hp64 with ⟨e1, e2, e3⟩ | ⟨e1, e2, e3⟩; omega; exact ⟨e1, e3⟩
                refine z_iconst ok dX3_readOrder_77 ?_
                refine z_istore_n (lv' := [(3, .int (iI (-1))), (2, .int (iI r42)), (1, .int (iI (sgn P ln pl))), (0, .ref (e 0))]) ok dX3_readOrder_78 (by decide) rfl ?_
                refine z_goto (tgt := 93) ok dX3_readOrder_79 (by decide) ?_
                refine z_iload_n ok dX3_readOrder_93 rfl ?_
                refine z_if_lt (tgt := 106) ok dX3_readOrder_94 (by decide) (by omega) (fun c94 => ?_) (fun c94 => ?_)
                · -- t
                  refine z_iconst ok dX3_readOrder_106 ?_
                  exact fin 0 (pl_64, od, k1, f1, s1) 107 _ _ _ dX3_readOrder_107 (by first | decide | exact zb_01 _ | omega) (by first | exact Or.inr (rdO_ns (by omega) (by omega) h62 (by omega) hq71) | exact Or.inr (rdO_ng (by omega) (by omega) h62 hpe64) | exact Or.inr (rdO_nd (by unfold knd; omega) (by omega) (by omega) (by omega) (by omega) hq89) | exact absurd hod (by omega)) (by decide) (by decide)
                · -- f
                  exact absurd c94 (by decide)
              · -- f
                obtain ⟨h62, hpe64⟩ : sgn P ln (numP P ln (pl + 1)) = 62 ∧ pl_64 = numP P ln (pl + 1) + 1 := by rcases hp64 with ⟨e1, e2, e3⟩ | ⟨e1, e2, e3⟩; exact ⟨e1, e3⟩; omega
                refine z_aload_n ok dX3_readOrder_70 rfl ?_
                refine z_callVi0 ok (fun l => c_X3_readNumber  (hpd) (by omega)) zm_X3_readNumber zv_X3_readNumber qm_RX3_53 dX3_readOrder_71 (by decide) (by decide) rfl rfl (Nat.le_of_ble_eq_true rfl) (q0 := 0) rfl rfl rfl (fun r71 u71 hp71 => ?_)
                obtain ⟨pl_71, rfl⟩ : ∃ z, z = u71 := ⟨_, rfl⟩
                try dsimp only at hp71
                refine z_eq (ws' := zf [dW Z e P ln od k1 f1 s1 pl_71]) rfl ?_
                obtain ⟨hr71, hq71⟩ := hp71
                rw [hpe64] at hr71 hq71
                refine z_goto (tgt := 78) ok dX3_readOrder_74 (by decide) ?_
                refine z_istore_n (lv' := [(3, .int (iI r71)), (2, .int (iI r42)), (1, .int (iI (sgn P ln pl))), (0, .ref (e 0))]) ok dX3_readOrder_78 (by decide) rfl ?_
                refine z_goto (tgt := 93) ok dX3_readOrder_79 (by decide) ?_
                refine z_iload_n ok dX3_readOrder_93 rfl ?_
                refine z_if_lt (tgt := 106) ok dX3_readOrder_94 (by decide) (by omega) (fun c94 => ?_) (fun c94 => ?_)
                · -- t
                  refine z_iconst ok dX3_readOrder_106 ?_
                  exact fin 0 (pl_71, od, k1, f1, s1) 107 _ _ _ dX3_readOrder_107 (by first | decide | exact zb_01 _ | omega) (by first | exact Or.inr (rdO_ns (by omega) (by omega) h62 (by omega) hq71) | exact Or.inr (rdO_ng (by omega) (by omega) h62 hpe64) | exact Or.inr (rdO_nd (by unfold knd; omega) (by omega) (by omega) (by omega) (by omega) hq89) | exact absurd hod (by omega)) (by decide) (by decide)
                · -- f
                  refine z_aload_n ok dX3_readOrder_97 rfl ?_
                  refine z_get (v := .int (iI od)) ok zc3 0 rfl 2 (by decide) qf_RX3_19 rfl rfl dX3_readOrder_98 ?_
                  refine z_bipush ok dX3_readOrder_101 (by decide) ?_
                  refine z_icmp_lt (tgt := 108) ok dX3_readOrder_103 (by decide) (by omega) (by omega) (fun c103 => ?_) (fun c103 => ?_)
                  · -- t
                    refine z_aload_n ok dX3_readOrder_108 rfl ?_
                    refine z_get (v := .ref (e 2)) ok zc3 0 rfl 3 (by decide) qf_RX3_22 rfl rfl dX3_readOrder_109 ?_
                    refine z_aload_n ok dX3_readOrder_112 rfl ?_
                    refine z_get (v := .int (iI od)) ok zc3 0 rfl 2 (by decide) qf_RX3_19 rfl rfl dX3_readOrder_113 ?_
                    refine z_iload_n ok dX3_readOrder_116 rfl ?_
                    refine z_iast (f := k1) (v := sgn P ln pl) (ws' := zf [dW Z e P ln od (zu k1 od (sgn P ln pl)) f1 s1 pl_71]) ok 2 rfl dX3_readOrder_117 (by omega) (by decide) rfl ?_
                    refine z_aload_n ok dX3_readOrder_118 rfl ?_
                    refine z_get (v := .ref (e 3)) ok zc3 0 rfl 4 (by decide) qf_RX3_26 rfl rfl dX3_readOrder_119 ?_
                    refine z_aload_n ok dX3_readOrder_122 rfl ?_
                    refine z_get (v := .int (iI od)) ok zc3 0 rfl 2 (by decide) qf_RX3_19 rfl rfl dX3_readOrder_123 ?_
                    refine z_iload_n ok dX3_readOrder_126 rfl ?_
                    refine z_iast (f := f1) (v := r42) (ws' := zf [dW Z e P ln od (zu k1 od (sgn P ln pl)) (zu f1 od r42) s1 pl_71]) ok 3 rfl dX3_readOrder_127 (by omega) (by decide) rfl ?_
                    refine z_aload_n ok dX3_readOrder_128 rfl ?_
                    refine z_get (v := .ref (e 4)) ok zc3 0 rfl 5 (by decide) qf_RX3_29 rfl rfl dX3_readOrder_129 ?_
                    refine z_aload_n ok dX3_readOrder_132 rfl ?_
                    refine z_get (v := .int (iI od)) ok zc3 0 rfl 2 (by decide) qf_RX3_19 rfl rfl dX3_readOrder_133 ?_
                    refine z_iload_n ok dX3_readOrder_136 rfl ?_
                    refine z_iast (f := s1) (v := r71) (ws' := zf [dW Z e P ln od (zu k1 od (sgn P ln pl)) (zu f1 od r42) (zu s1 od r71) pl_71]) ok 4 rfl dX3_readOrder_137 (by omega) (by decide) rfl ?_
                    refine z_aload_n ok dX3_readOrder_138 rfl ?_
                    refine z_dup ok dX3_readOrder_139 rfl ?_
                    refine z_get (v := .int (iI od)) ok zc3 0 rfl 2 (by decide) qf_RX3_19 rfl rfl dX3_readOrder_140 ?_
                    refine z_iconst ok dX3_readOrder_143 ?_
                    refine z_iadd ok dX3_readOrder_144 ?_
                    refine z_put (ws' := zf [dW Z e P ln (od + 1) (zu k1 od (sgn P ln pl)) (zu f1 od r42) (zu s1 od r71) pl_71]) ok zc3 0 rfl 2 (by decide) qf_RX3_19 rfl rfl rfl rfl (Nat.le_of_ble_eq_true rfl) dX3_readOrder_145 rfl ?_
                    refine z_iconst ok dX3_readOrder_148 ?_
                    exact fin 1 (pl_71, od + 1, zu k1 od (sgn P ln pl), zu f1 od r42, zu s1 od r71) 149 _ _ _ dX3_readOrder_149 (by first | decide | exact zb_01 _ | omega) (by first | exact Or.inl (rdO_yt (by omega) hr42 (by omega) hq42) | exact Or.inl (rdO_ys (by omega) hr42 (by omega) h62 hr71 (by omega) hq71) | exact Or.inl (rdO_yd (by unfold knd; omega) (by omega) (by omega) hr42 (by omega) hr89 (by omega) hq89)) (by decide) (by decide)
                  · -- f
                    refine z_iconst ok dX3_readOrder_106 ?_
                    exact fin 0 (pl_71, od, k1, f1, s1) 107 _ _ _ dX3_readOrder_107 (by first | decide | exact zb_01 _ | omega) (by first | exact Or.inr (rdO_ns (by omega) (by omega) h62 (by omega) hq71) | exact Or.inr (rdO_ng (by omega) (by omega) h62 hpe64) | exact Or.inr (rdO_nd (by unfold knd; omega) (by omega) (by omega) (by omega) (by omega) hq89) | exact absurd hod (by omega)) (by decide) (by decide)
          · -- f
            refine z_iconst ok dX3_readOrder_51 ?_
            exact fin 0 (pl_42, od, k1, f1, s1) 52 _ _ _ dX3_readOrder_52 (by first | decide | exact zb_01 _ | omega) (Or.inr (rdO_n1 (by unfold knd; omega) (by omega) hq42)) (by decide) (by decide)
        · -- f
          refine z_iconst ok dX3_readOrder_29 ?_
          exact fin 0 (pl, od, k1, f1, s1) 30 _ _ _ dX3_readOrder_30 (by first | decide | exact zb_01 _ | omega) (Or.inr (rdO_n0 (by omega))) (by decide) (by decide)
set_option maxRecDepth 20000 in
theorem c_X3_fits {l : Launch} {Z : zZ} {e : Nat → Nat} {P : Int → Int} {ln od : Int} {k1 f1 s1 : Int → Int} {pl : Int} {n : Int} (hln : 0 ≤ ln ∧ ln ≤ 80) (hn : 0 ≤ n ∧ n ≤ 100) : zI (T := Unit) l yX3_fits (Cond.code yX3_fits cX3_fits 2 (some .boolean) :: wsL_law) ({ frames := 0, cells := 0, slots := 0, locals := 0 } : Room) Z [.ref (e 0), .int (iI n)] (zf [dW Z e P ln od k1 f1 s1 pl]) (fun _ => zf [dW Z e P ln od k1 f1 s1 pl]) (fun ρ _ => ρ = zb (ln + n ≤ 80)) := by
  refine zI_of (C := RX3) (by decide +kernel) rfl (Nat.le_of_ble_eq_true rfl) (fun ρ => ρ = 0 ∨ ρ = 1) znZ (fun X ok fin => ?_)
  refine z_lsub ok (lv' := [(0, .ref (e 0)), (1, .int (iI n))]) [0, 1] rfl ?_
  refine z_aload_n ok dX3_fits_0 rfl ?_
  refine z_get (v := .int (iI ln)) ok zc3 0 rfl 1 (by decide) qf_RX3_15 rfl rfl dX3_fits_1 ?_
  refine z_iload_n ok dX3_fits_4 rfl ?_
  refine z_iadd ok dX3_fits_5 ?_
  refine z_bipush ok dX3_fits_6 (by decide) ?_
  refine z_icmp_gt (tgt := 15) ok dX3_fits_8 (by decide) (by omega) (by omega) (fun c8 => ?_) (fun c8 => ?_)
  · -- t
    refine z_iconst ok dX3_fits_15 ?_
    exact fin 0 () 16 _ _ _ dX3_fits_16 (by first | decide | exact zb_01 _ | omega) (by first | exact (zb_t (by omega)).symm | exact (zb_f (by omega)).symm) (by decide) (by decide)
  · -- f
    refine z_iconst ok dX3_fits_11 ?_
    refine z_goto (tgt := 16) ok dX3_fits_12 (by decide) ?_
    exact fin 1 () 16 _ _ _ dX3_fits_16 (by first | decide | exact zb_01 _ | omega) (by first | exact (zb_t (by omega)).symm | exact (zb_f (by omega)).symm) (by decide) (by decide)
set_option maxRecDepth 20000 in
theorem c_X3_countCharacters {l : Launch} {Z : zZ} {x0 : Int} (ha : 0 ≤ x0 ∧ x0 < 18446744073709551616) : zI (T := Unit) l yX3_countCharacters (Cond.code yX3_countCharacters cX3_countCharacters 7 (some .int) :: wsL_law) ({ frames := 0, cells := 0, slots := 0, locals := 0 } : Room) Z [.long (iL x0)] [] (fun _ => []) (fun ρ _ => ρ = pcN x0) := by
  refine zI_of (C := RX3) (by decide +kernel) rfl (Nat.le_of_ble_eq_true rfl) (fun _ => True) znI (fun X ok fin => ?_)
  refine z_lsub ok (lv' := [(0, .long (iL x0))]) [0] rfl ?_
  refine z_iconst ok dX3_countCharacters_0 ?_
  refine z_istore_n (lv' := [(2, .int (iI 0)), (0, .long (iL x0))]) ok dX3_countCharacters_1 (by decide) rfl ?_
  refine z_lload_n ok dX3_countCharacters_2 rfl ?_
  refine z_lstore_n (lv' := [(3, .long (iL x0)), (2, .int (iI 0)), (0, .long (iL x0))]) ok dX3_countCharacters_3 (by decide) rfl ?_
  refine z_iconst ok dX3_countCharacters_4 ?_
  refine z_istore (lv' := [(5, .int (iI 0)), (3, .long (iL x0)), (2, .int (iI 0)), (0, .long (iL x0))]) ok dX3_countCharacters_5 (by decide) rfl ?_
  have L7 : ∀ (fuel : Nat) (n : Nat) (x : Int), (x = rsh x0 n) → (∀ j : Nat, j < n → 33 ≤ rsh x0 j % 256 ∧ rsh x0 j % 256 ≤ 126) → (n ≤ 8) → (8 - (n : Int)).toNat < fuel → zV X 0 0 ([]) 7 [(0, .long (iL x0)), (2, .int (iI (n : Int))), (3, .long (iL x)), (5, .int (iI (n : Int)))] [] := by
    intro fuel
    induction fuel with
    | zero => intro n x h7_0 h7_1 h7_2 hf; exact absurd hf (Nat.not_lt_zero _)
    | succ fuel ih7 =>
      intro n x h7_0 h7_1 h7_2 hf
      have hxr := rsh_rng ha n
      rw [← h7_0] at hxr
      have hzx := zsg_rng x
      have h8 : n = 8 → x = 0 := fun z => by rw [h7_0, z]; exact rsh_8 ha
      refine z_iload ok dX3_countCharacters_7 rfl ?_
      refine z_bipush ok dX3_countCharacters_9 (by decide) ?_
      refine z_icmp_ge (tgt := 58) ok dX3_countCharacters_11 (by decide) (by omega) (by omega) (fun c11 => ?_) (fun c11 => ?_)
      · -- t
        refine z_iload_n ok dX3_countCharacters_58 rfl ?_
        have hx0 : x = 0 := by first | exact h8 (by omega) | omega
        exact fin (n : Int) () 59 _ _ _ dX3_countCharacters_59 (trivial) (pcN_end h7_0 h7_1 h7_2 hx0) (by decide) (by decide)
      · -- f
        refine z_lload_n ok dX3_countCharacters_14 rfl ?_
        refine z_lconst (v := iL 0) ok dX3_countCharacters_15 (by decide) ?_
        refine z_lcmp0 ok dX3_countCharacters_16 (by omega) ?_
        refine z_if_eq (tgt := 58) ok dX3_countCharacters_17 (by decide) (by omega) (fun c17 => ?_) (fun c17 => ?_)
        · -- t
          refine z_iload_n ok dX3_countCharacters_58 rfl ?_
          have hx0 : x = 0 := by first | exact h8 (by omega) | omega
          exact fin (n : Int) () 59 _ _ _ dX3_countCharacters_59 (trivial) (pcN_end h7_0 h7_1 h7_2 hx0) (by decide) (by decide)
        · -- f
          refine z_lload_n ok dX3_countCharacters_20 rfl ?_
          refine z_ldc2 (v := iL 255) ok ql_RX3_35 dX3_countCharacters_21 ?_
          refine z_land255 ok dX3_countCharacters_24 (by omega) ?_
          refine z_l2i ok dX3_countCharacters_25 (by omega) ?_
          refine z_istore (lv' := [(6, .int (iI (x % 256))), (0, .long (iL x0)), (2, .int (iI (n : Int))), (3, .long (iL x)), (5, .int (iI (n : Int)))]) ok dX3_countCharacters_26 (by decide) rfl ?_
          refine z_iload ok dX3_countCharacters_28 rfl ?_
          refine z_bipush ok dX3_countCharacters_30 (by decide) ?_
          refine z_icmp_lt (tgt := 42) ok dX3_countCharacters_32 (by decide) (by omega) (by omega) (fun c32 => ?_) (fun c32 => ?_)
          · -- t
            refine z_iconst ok dX3_countCharacters_42 ?_
            have hno : pcN x0 = 0 := pc_bad h7_1 (by rw [← h7_0]; omega) (Or.inl (by rw [← h7_0]; omega))
            exact fin 0 () 43 _ _ _ dX3_countCharacters_43 (trivial) (hno.symm) (by decide) (by decide)
          · -- f
            refine z_iload ok dX3_countCharacters_35 rfl ?_
            refine z_bipush ok dX3_countCharacters_37 (by decide) ?_
            refine z_icmp_le (tgt := 44) ok dX3_countCharacters_39 (by decide) (by omega) (by omega) (fun c39 => ?_) (fun c39 => ?_)
            · -- t
              refine z_iinc (lv' := [(2, .int (iI ((n : Int) + 1))), (6, .int (iI (x % 256))), (0, .long (iL x0)), (3, .long (iL x)), (5, .int (iI (n : Int)))]) ok dX3_countCharacters_44 2 rfl (by decide) rfl ?_
              refine z_lload_n ok dX3_countCharacters_47 rfl ?_
              refine z_bipush ok dX3_countCharacters_48 (by decide) ?_
              refine z_lushr8 ok dX3_countCharacters_50 (by omega) ?_
              refine z_lstore_n (lv' := [(3, .long (iL (x / 256))), (2, .int (iI ((n : Int) + 1))), (6, .int (iI (x % 256))), (0, .long (iL x0)), (5, .int (iI (n : Int)))]) ok dX3_countCharacters_51 (by decide) rfl ?_
              refine z_iinc (lv' := [(5, .int (iI ((n : Int) + 1))), (3, .long (iL (x / 256))), (2, .int (iI ((n : Int) + 1))), (6, .int (iI (x % 256))), (0, .long (iL x0))]) ok dX3_countCharacters_52 4 rfl (by decide) rfl ?_
              refine z_goto (tgt := 7) ok dX3_countCharacters_55 (by decide) ?_
              refine z_lsub ok (lv' := [(0, .long (iL x0)), (2, .int (iI ((n : Int) + 1))), (3, .long (iL (x / 256))), (5, .int (iI ((n : Int) + 1)))]) [4, 2, 1, 0] rfl ?_
              rw [show (n : Int) + 1 = ((n + 1 : Nat) : Int) by omega]
              exact ih7 (n + 1) _ (by rw [h7_0]; rfl) (fun j hj => (if e : j = n then (by rw [e, ← h7_0]; omega) else h7_1 j (by omega))) (by omega) (by omega)
            · -- f
              refine z_iconst ok dX3_countCharacters_42 ?_
              have hno : pcN x0 = 0 := pc_bad h7_1 (by rw [← h7_0]; omega) (Or.inl (by rw [← h7_0]; omega))
              exact fin 0 () 43 _ _ _ dX3_countCharacters_43 (trivial) (hno.symm) (by decide) (by decide)
  refine z_lsub ok (lv' := [(0, .long (iL x0)), (2, .int (iI 0)), (3, .long (iL x0)), (5, .int (iI 0))]) [3, 2, 1, 0] rfl ?_
  rw [show (0 : Int) = ((0 : Nat) : Int) from rfl]
  exact L7 _ 0 x0 (rfl) (fun j hj => absurd hj (Nat.not_lt_zero j)) (by omega) (Nat.lt_succ_self _)
set_option maxRecDepth 20000 in
theorem c_X3_append {l : Launch} {Z : zZ} {e : Nat → Nat} {P : Int → Int} {ln od : Int} {k1 f1 s1 : Int → Int} {pl : Int} {x0 n : Int} (ha : 0 ≤ x0 ∧ x0 < 18446744073709551616) (hn : 1 ≤ n ∧ n ≤ 8) (hln : 0 ≤ ln ∧ ln + n ≤ 80) : zN (T := (Int → Int)) l yX3_append (Cond.code yX3_append cX3_append 6 none :: wsL_law) ({ frames := 1, cells := 0, slots := 0, locals := 21 } : Room) Z [.ref (e 0), .long (iL x0), .int (iI n)] (zf [dW Z e P ln od k1 f1 s1 pl]) (fun u => zf [dW Z e u (ln + n) od k1 f1 s1 pl]) (fun u => u = putP P ln x0 n) := by
  refine zN_of (C := RX3) (by decide +kernel) rfl (Nat.le_of_ble_eq_true rfl) (fun X ok fin => ?_)
  refine z_lsub ok (lv' := [(0, .ref (e 0)), (1, .long (iL x0)), (3, .int (iI n))]) [0, 1, 2] rfl ?_
  refine z_iconst ok dX3_append_0 ?_
  refine z_istore (lv' := [(4, .int (iI 0)), (0, .ref (e 0)), (1, .long (iL x0)), (3, .int (iI n))]) ok dX3_append_1 (by decide) rfl ?_
  have L3 : ∀ (fuel : Nat) (i : Int) (P2 : Int → Int), (0 ≤ i) → (i ≤ n) → (∀ j : Int, ln ≤ j → j < ln + i → P2 j = rsh x0 (n - 1 - (j - ln)).toNat % 256) → (∀ j : Int, (j < ln ∨ ln + i ≤ j) → P2 j = P j) → (n - i).toNat < fuel → zV X 0 0 (zf [dW Z e P2 ln od k1 f1 s1 pl]) 3 [(0, .ref (e 0)), (1, .long (iL x0)), (3, .int (iI n)), (4, .int (iI i))] [] := by
    intro fuel
    induction fuel with
    | zero => intro i P2 h3_0 h3_1 h3_2 h3_3 hf; exact absurd hf (Nat.not_lt_zero _)
    | succ fuel ih3 =>
      intro i P2 h3_0 h3_1 h3_2 h3_3 hf
      refine z_iload ok dX3_append_3 rfl ?_
      refine z_iload_n ok dX3_append_5 rfl ?_
      refine z_icmp_ge (tgt := 56) ok dX3_append_6 (by decide) (by omega) (by omega) (fun c6 => ?_) (fun c6 => ?_)
      · -- t
        have hi : i = n := by first | omega | (exfalso; exact c14 (by omega))
        refine z_aload_n ok dX3_append_56 rfl ?_
        refine z_dup ok dX3_append_57 rfl ?_
        refine z_get (v := .int (iI ln)) ok zc3 0 rfl 1 (by decide) qf_RX3_15 rfl rfl dX3_append_58 ?_
        refine z_iload_n ok dX3_append_61 rfl ?_
        refine z_iadd ok dX3_append_62 ?_
        refine z_put (ws' := zf [dW Z e P2 (ln + n) od k1 f1 s1 pl]) ok zc3 0 rfl 1 (by decide) qf_RX3_15 rfl rfl rfl rfl (Nat.le_of_ble_eq_true rfl) dX3_append_63 rfl ?_
        have hP : P2 = putP P ln x0 n := by obtain ⟨m, hm⟩ : ∃ m : Nat, n = (m : Int) := ⟨n.toNat, by omega⟩; rw [hm]; exact putP_of (fun j h0 h1 => by rw [← hm]; exact h3_2 j (by omega) (by omega)) (fun j h => h3_3 j (by omega))
        exact fin P2 66 _ _ _ dX3_append_66 (hP) (by decide) (by decide)
      · -- f
        refine z_aload_n ok dX3_append_9 rfl ?_
        refine z_iload_n ok dX3_append_10 rfl ?_
        refine z_callVi0 ok (fun l => c_X3_fits  (by omega) (by omega)) zm_X3_fits zv_X3_fits qm_RX3_37 dX3_append_11 (by decide) (by decide) rfl rfl (Nat.le_of_ble_eq_true rfl) (q0 := 0) rfl rfl rfl (fun ρ _ hρ => ?_)
        subst hρ
        refine z_eq (ws' := zf [dW Z e P2 ln od k1 f1 s1 pl]) rfl ?_
        refine z_ifb_eq (tgt := 56) ok dX3_append_14 (by decide) (fun c14 => ?_) (fun c14 => ?_)
        · -- t
          exact absurd (by omega) c14
        · -- f
          have hrr := rsh_rng ha (n - 1 - i).toNat
          refine z_bipush ok dX3_append_17 (by decide) ?_
          refine z_iload_n ok dX3_append_19 rfl ?_
          refine z_iconst ok dX3_append_20 ?_
          refine z_isub ok dX3_append_21 ?_
          refine z_iload ok dX3_append_22 rfl ?_
          refine z_isub ok dX3_append_24 ?_
          refine z_imul ok dX3_append_25 ?_
          refine z_istore (lv' := [(5, .int (iI (8 * ((n - 1) - i)))), (0, .ref (e 0)), (1, .long (iL x0)), (3, .int (iI n)), (4, .int (iI i))]) ok dX3_append_26 (by decide) rfl ?_
          refine z_aload_n ok dX3_append_28 rfl ?_
          refine z_get (v := .ref (e 1)) ok zc3 0 rfl 0 (by decide) qf_RX3_11 rfl rfl dX3_append_29 ?_
          refine z_aload_n ok dX3_append_32 rfl ?_
          refine z_get (v := .int (iI ln)) ok zc3 0 rfl 1 (by decide) qf_RX3_15 rfl rfl dX3_append_33 ?_
          refine z_iload ok dX3_append_36 rfl ?_
          refine z_iadd ok dX3_append_38 ?_
          refine z_lload_n ok dX3_append_39 rfl ?_
          refine z_iload ok dX3_append_40 rfl ?_
          refine z_lushr (v := iL (rsh x0 (n - 1 - i).toNat)) ok dX3_append_42 (iL_ushr ha (by omega) (by omega)) ?_
          refine z_ldc2 (v := iL 255) ok ql_RX3_35 dX3_append_43 ?_
          refine z_land255 ok dX3_append_46 (by omega) ?_
          refine z_l2i ok dX3_append_47 (by omega) ?_
          refine z_i2c ok dX3_append_48 (by omega) ?_
          refine z_cast (f := P2) (v := ((rsh x0 (n - 1 - i).toNat) % 256)) (ws' := zf [dW Z e (zu P2 (ln + i) ((rsh x0 (n - 1 - i).toNat) % 256)) ln od k1 f1 s1 pl]) ok 1 rfl dX3_append_49 (by omega) (by decide) (znarC (by omega)) rfl ?_
          refine z_iinc (lv' := [(4, .int (iI (i + 1))), (5, .int (iI (8 * ((n - 1) - i)))), (0, .ref (e 0)), (1, .long (iL x0)), (3, .int (iI n))]) ok dX3_append_50 4 rfl (by decide) rfl ?_
          refine z_goto (tgt := 3) ok dX3_append_53 (by decide) ?_
          refine z_lsub ok (lv' := [(0, .ref (e 0)), (1, .long (iL x0)), (3, .int (iI n)), (4, .int (iI (i + 1)))]) [2, 3, 4, 0] rfl ?_
          exact ih3 _ _ (by omega) (by omega) (fun j h0 h1 => (if e : j = ln + i then (by rw [e, zu_s, show n - 1 - (ln + i - ln) = n - 1 - i by omega]) else (by rw [zu_n e]; exact h3_2 j h0 (by omega)))) (fun j hj => by rw [zu_n (by omega)]; exact h3_3 j (by omega)) (by omega)
  refine z_lsub ok (lv' := [(0, .ref (e 0)), (1, .long (iL x0)), (3, .int (iI n)), (4, .int (iI 0))]) [1, 2, 3, 0] rfl ?_
  exact L3 _ _ _ (by omega) (by omega) (fun j h0 h1 => absurd h1 (by omega)) (fun j _ => rfl) (Nat.lt_succ_self _)
