set_option maxRecDepth 20000 in
theorem c_X7_sign {l : Launch} {Z : zZ} {q : Nat → Nat} {now kept hist : Int → Int} {und : Int} {sav isv pad : Int → Int} {sg it : Int} {far many laid sides stuck ord : Int → Int} {rd pl wr : Int} (hsg : 0 ≤ sg ∧ sg ≤ 80) (hpl : 0 ≤ pl ∧ pl ≤ 1000) : zI (T := Unit) l yX7_sign (Cond.code yX7_sign cX7_sign 1 (some .int) :: wsL_law) ({ frames := 0, cells := 0, slots := 0, locals := 0 } : Room) Z [.ref (q 0)] (mW Z q now kept hist und sav isv pad sg it far many laid sides stuck ord rd pl wr) (fun _ => mW Z q now kept hist und sav isv pad sg it far many laid sides stuck ord rd pl wr) (fun ρ _ => ρ = sgn pad sg pl) := by
  refine zI_of (C := RX7) (by decide +kernel) rfl (Nat.le_of_ble_eq_true rfl) (fun _ => True) znI (fun X ok fin => ?_)
  refine z_lsub ok (lv' := [(0, .ref (q 0))]) [0] rfl ?_
  refine z_aload_n ok dX7_sign_0 rfl ?_
  refine z_get (v := .int (iI pl)) ok zc7 0 rfl 16 (by decide) qf_RX7_164 rfl rfl dX7_sign_1 ?_
  refine z_aload_n ok dX7_sign_4 rfl ?_
  refine z_get (v := .int (iI sg)) ok zc7 0 rfl 7 (by decide) qf_RX7_152 rfl rfl dX7_sign_5 ?_
  refine z_icmp_ge (tgt := 23) ok dX7_sign_8 (by decide) (by omega) (by omega) (fun c8 => ?_) (fun c8 => ?_)
  · -- t
    refine z_iconst ok dX7_sign_23 ?_
    exact fin 0 () 24 _ _ _ dX7_sign_24 (trivial) (by unfold sgn; first | (rw [if_pos (by omega)]) | (rw [if_neg (by omega)])) (by decide) (by decide)
  · -- f
    refine z_aload_n ok dX7_sign_11 rfl ?_
    refine z_get (v := .ref (q 6)) ok zc7 0 rfl 6 (by decide) qf_RX7_26 rfl rfl dX7_sign_12 ?_
    refine z_aload_n ok dX7_sign_15 rfl ?_
    refine z_get (v := .int (iI pl)) ok zc7 0 rfl 16 (by decide) qf_RX7_164 rfl rfl dX7_sign_16 ?_
    refine z_iald (f := pad) ok 6 rfl dX7_sign_19 (by omega) (by decide) ?_
    refine z_goto (tgt := 24) ok dX7_sign_20 (by decide) ?_
    exact fin (pad pl) () 24 _ _ _ dX7_sign_24 (trivial) (by unfold sgn; first | (rw [if_pos (by omega)]) | (rw [if_neg (by omega)])) (by decide) (by decide)
set_option maxRecDepth 20000 in
theorem c_X7_number {l : Launch} {Z : zZ} {q : Nat → Nat} {now kept hist : Int → Int} {und : Int} {sav isv pad : Int → Int} {sg it : Int} {far many laid sides stuck ord : Int → Int} {rd pl wr : Int} (hpd : padOK pad sg) (hpl : 0 ≤ pl ∧ pl ≤ 200) (hwr : 0 ≤ wr ∧ wr ≤ 1) : zI (T := Unit) l yX7_number (Cond.code yX7_number cX7_number 2 (some .int) :: wsL_law) ({ frames := 1, cells := 0, slots := 0, locals := 22 } : Room) Z [.ref (q 0)] (mW Z q now kept hist und sav isv pad sg it far many laid sides stuck ord rd pl wr) (fun _ => mW Z q now kept hist und sav isv pad sg it far many laid sides stuck ord rd (if (¬ wr = 0 ∨ numV pad sg pl < 0) then pl else numP pad sg pl) (if (¬ wr = 0 ∨ numV pad sg pl < 0) then 1 else 0)) (fun ρ _ => ρ = (if (¬ wr = 0 ∨ numV pad sg pl < 0) then 0 else numV pad sg pl)) := by
  refine zI_of (C := RX7) (by decide +kernel) rfl (Nat.le_of_ble_eq_true rfl) (fun _ => True) znI (fun X ok fin => ?_)
  have hs0 := sgn_rng hpd hpl.1
  have hs1 := sgn_rng hpd (by omega : 0 ≤ pl + 1)
  have hsg := hpd.1
  refine z_lsub ok (lv' := [(0, .ref (q 0))]) [0] rfl ?_
  refine z_aload_n ok dX7_number_0 rfl ?_
  refine z_callVi0 ok (fun l => c_X7_sign  (by omega) (by omega)) zm_X7_sign zv_X7_sign qm_RX7_167 dX7_number_1 (by decide) (by decide) rfl rfl (Nat.le_of_ble_eq_true rfl) (q0 := 0) rfl rfl rfl (fun ρ _ hρ => ?_)
  subst hρ
  refine z_eq (ws' := mW Z q now kept hist und sav isv pad sg it far many laid sides stuck ord rd pl wr) rfl ?_
  refine z_bipush ok dX7_number_4 (by decide) ?_
  refine z_isub ok dX7_number_6 ?_
  refine z_istore_n (lv' := [(1, .int (iI ((sgn pad sg pl) - 48))), (0, .ref (q 0))]) ok dX7_number_7 (by decide) rfl ?_
  refine z_aload_n ok dX7_number_8 rfl ?_
  refine z_aload_n ok dX7_number_9 rfl ?_
  refine z_get (v := .int (iI wr)) ok zc7 0 rfl 17 (by decide) qf_RX7_170 rfl rfl dX7_number_10 ?_
  refine z_if_ne (tgt := 26) ok dX7_number_13 (by decide) (by omega) (fun c13 => ?_) (fun c13 => ?_)
  · -- t
    refine z_iconst ok dX7_number_26 ?_
    refine z_goto (tgt := 31) ok dX7_number_27 (by decide) ?_
    refine z_put (ws' := mW Z q now kept hist und sav isv pad sg it far many laid sides stuck ord rd pl 1) ok zc7 0 rfl 17 (by decide) qf_RX7_170 rfl rfl (znZ _ (by first | decide | exact zb_01 _ | omega)) (zfZ _ (by first | decide | exact zb_01 _ | omega)) (Nat.le_of_ble_eq_true rfl) dX7_number_31 rfl ?_
    refine z_aload_n ok dX7_number_34 rfl ?_
    refine z_get (v := .int (iI 1)) ok zc7 0 rfl 17 (by decide) qf_RX7_170 rfl rfl dX7_number_35 ?_
    refine z_if_eq (tgt := 43) ok dX7_number_38 (by decide) (by omega) (fun c38 => ?_) (fun c38 => ?_)
    · -- t
      exact absurd c38 (by decide)
    · -- f
      refine z_iconst ok dX7_number_41 ?_
      have hbad : (¬ wr = 0 ∨ numV pad sg pl < 0) := by first | (exact Or.inl (by omega)) | (refine Or.inr ?_; unfold numV; rw [if_neg (by omega)]; omega) | (exfalso; omega)
      refine z_eq (ws' := mW Z q now kept hist und sav isv pad sg it far many laid sides stuck ord rd (if (¬ wr = 0 ∨ numV pad sg pl < 0) then pl else numP pad sg pl) (if (¬ wr = 0 ∨ numV pad sg pl < 0) then 1 else 0)) (by first | (rw [if_pos hbad, if_pos hbad]; done) | (exfalso; omega)) ?_
      exact fin 0 () 42 _ _ _ dX7_number_42 (trivial) (by rw [if_pos hbad]) (by decide) (by decide)
  · -- f
    refine z_iload_n ok dX7_number_16 rfl ?_
    refine z_iconst ok dX7_number_17 ?_
    refine z_bipush ok dX7_number_18 (by decide) ?_
    refine z_callSie ok (fun l => c_X7_in  (by omega) (by omega) (by omega)) zm_X7_in qt_X7_in qm_RX7_59 dX7_number_20 (by decide) (by decide) rfl rfl (Nat.le_of_ble_eq_true rfl) (fun ρ _ hρ => ?_)
    subst hρ
    refine z_ifb_ne (tgt := 30) ok dX7_number_23 (by decide) (fun c23 => ?_) (fun c23 => ?_)
    · -- t
      refine z_iconst ok dX7_number_30 ?_
      refine z_put (ws' := mW Z q now kept hist und sav isv pad sg it far many laid sides stuck ord rd pl 0) ok zc7 0 rfl 17 (by decide) qf_RX7_170 rfl rfl (znZ _ (by first | decide | exact zb_01 _ | omega)) (zfZ _ (by first | decide | exact zb_01 _ | omega)) (Nat.le_of_ble_eq_true rfl) dX7_number_31 rfl ?_
      refine z_aload_n ok dX7_number_34 rfl ?_
      refine z_get (v := .int (iI 0)) ok zc7 0 rfl 17 (by decide) qf_RX7_170 rfl rfl dX7_number_35 ?_
      refine z_if_eq (tgt := 43) ok dX7_number_38 (by decide) (by omega) (fun c38 => ?_) (fun c38 => ?_)
      · -- t
        refine z_aload_n ok dX7_number_43 rfl ?_
        refine z_dup ok dX7_number_44 rfl ?_
        refine z_get (v := .int (iI pl)) ok zc7 0 rfl 16 (by decide) qf_RX7_164 rfl rfl dX7_number_45 ?_
        refine z_iconst ok dX7_number_48 ?_
        refine z_iadd ok dX7_number_49 ?_
        refine z_put (ws' := mW Z q now kept hist und sav isv pad sg it far many laid sides stuck ord rd (pl + 1) 0) ok zc7 0 rfl 16 (by decide) qf_RX7_164 rfl rfl rfl rfl (Nat.le_of_ble_eq_true rfl) dX7_number_50 rfl ?_
        have L53 : ∀ (fuel : Nat) (v pp : Int), (0 ≤ v ∧ v ≤ 99) → ((v = sgn pad sg pl - 48 ∧ pp = pl + 1) ∨ (v = numV pad sg pl ∧ pp = numP pad sg pl ∧ 10 ≤ v)) → (100 - v).toNat < fuel → zV X 0 0 (mW Z q now kept hist und sav isv pad sg it far many laid sides stuck ord rd pp 0) 53 [(0, .ref (q 0)), (1, .int (iI v))] [] := by
          intro fuel
          induction fuel with
          | zero => intro v pp h53_0 h53_1 hf; exact absurd hf (Nat.not_lt_zero _)
          | succ fuel ih53 =>
            intro v pp h53_0 h53_1 hf
            have hppr : pl ≤ pp ∧ pp ≤ pl + 2 := by have := num_rng hpd hpl.1; omega
            have hs2 := sgn_rng hpd (by omega : 0 ≤ pp)
            refine z_iload_n ok dX7_number_53 rfl ?_
            refine z_if_le (tgt := 114) ok dX7_number_54 (by decide) (by omega) (fun c54 => ?_) (fun c54 => ?_)
            · -- t
              refine z_iload_n ok dX7_number_114 rfl ?_
              have hfv : v = numV pad sg pl ∧ pp = numP pad sg pl := by rcases h53_1 with ⟨z1, rfl⟩ | ⟨z1, z2, z3⟩; (first | (exfalso; omega) | (unfold numV numP; rw [if_pos (by omega), if_neg (by omega), if_pos (by omega), if_neg (by omega)]; exact ⟨by omega, by omega⟩)); (exact ⟨z1, z2⟩)
              have hgood : ¬ (¬ wr = 0 ∨ numV pad sg pl < 0) := fun z => z.elim (fun y => by omega) (fun y => by omega)
              refine z_eq (ws' := mW Z q now kept hist und sav isv pad sg it far many laid sides stuck ord rd (if (¬ wr = 0 ∨ numV pad sg pl < 0) then pl else numP pad sg pl) (if (¬ wr = 0 ∨ numV pad sg pl < 0) then 1 else 0)) (by rw [if_neg hgood, if_neg hgood, ← hfv.2]) ?_
              exact fin v () 115 _ _ _ dX7_number_115 (trivial) (by rw [if_neg hgood]; exact hfv.1) (by decide) (by decide)
            · -- f
              refine z_aload_n ok dX7_number_57 rfl ?_
              refine z_callVi0 ok (fun l => c_X7_sign  (by omega) (by omega)) zm_X7_sign zv_X7_sign qm_RX7_167 dX7_number_58 (by decide) (by decide) rfl rfl (Nat.le_of_ble_eq_true rfl) (q0 := 0) rfl rfl rfl (fun ρ _ hρ => ?_)
              subst hρ
              refine z_eq (ws' := mW Z q now kept hist und sav isv pad sg it far many laid sides stuck ord rd pp 0) rfl ?_
              refine z_bipush ok dX7_number_61 (by decide) ?_
              refine z_bipush ok dX7_number_63 (by decide) ?_
              refine z_callSie ok (fun l => c_X7_in  (by omega) (by omega) (by omega)) zm_X7_in qt_X7_in qm_RX7_59 dX7_number_65 (by decide) (by decide) rfl rfl (Nat.le_of_ble_eq_true rfl) (fun ρ _ hρ => ?_)
              subst hρ
              refine z_ifb_eq (tgt := 114) ok dX7_number_68 (by decide) (fun c68 => ?_) (fun c68 => ?_)
              · -- t
                refine z_iload_n ok dX7_number_114 rfl ?_
                have hfv : v = numV pad sg pl ∧ pp = numP pad sg pl := by rcases h53_1 with ⟨z1, rfl⟩ | ⟨z1, z2, z3⟩; (first | (exfalso; omega) | (unfold numV numP; rw [if_pos (by omega), if_neg (by omega), if_pos (by omega), if_neg (by omega)]; exact ⟨by omega, by omega⟩)); (exact ⟨z1, z2⟩)
                have hgood : ¬ (¬ wr = 0 ∨ numV pad sg pl < 0) := fun z => z.elim (fun y => by omega) (fun y => by omega)
                refine z_eq (ws' := mW Z q now kept hist und sav isv pad sg it far many laid sides stuck ord rd (if (¬ wr = 0 ∨ numV pad sg pl < 0) then pl else numP pad sg pl) (if (¬ wr = 0 ∨ numV pad sg pl < 0) then 1 else 0)) (by rw [if_neg hgood, if_neg hgood, ← hfv.2]) ?_
                exact fin v () 115 _ _ _ dX7_number_115 (trivial) (by rw [if_neg hgood]; exact hfv.1) (by decide) (by decide)
              · -- f
                refine z_bipush ok dX7_number_71 (by decide) ?_
                refine z_iload_n ok dX7_number_73 rfl ?_
                refine z_imul ok dX7_number_74 ?_
                refine z_aload_n ok dX7_number_75 rfl ?_
                refine z_callVi0 ok (fun l => c_X7_sign  (by omega) (by omega)) zm_X7_sign zv_X7_sign qm_RX7_167 dX7_number_76 (by decide) (by decide) rfl rfl (Nat.le_of_ble_eq_true rfl) (q0 := 0) rfl rfl rfl (fun ρ _ hρ => ?_)
                subst hρ
                refine z_eq (ws' := mW Z q now kept hist und sav isv pad sg it far many laid sides stuck ord rd pp 0) rfl ?_
                refine z_iadd ok dX7_number_79 ?_
                refine z_bipush ok dX7_number_80 (by decide) ?_
                refine z_isub ok dX7_number_82 ?_
                refine z_bipush ok dX7_number_83 (by decide) ?_
                refine z_icmp_gt (tgt := 114) ok dX7_number_85 (by decide) (by omega) (by omega) (fun c85 => ?_) (fun c85 => ?_)
                · -- t
                  refine z_iload_n ok dX7_number_114 rfl ?_
                  have hfv : v = numV pad sg pl ∧ pp = numP pad sg pl := by rcases h53_1 with ⟨z1, rfl⟩ | ⟨z1, z2, z3⟩; (first | (exfalso; omega) | (unfold numV numP; rw [if_pos (by omega), if_neg (by omega), if_pos (by omega), if_neg (by omega)]; exact ⟨by omega, by omega⟩)); (exact ⟨z1, z2⟩)
                  have hgood : ¬ (¬ wr = 0 ∨ numV pad sg pl < 0) := fun z => z.elim (fun y => by omega) (fun y => by omega)
                  refine z_eq (ws' := mW Z q now kept hist und sav isv pad sg it far many laid sides stuck ord rd (if (¬ wr = 0 ∨ numV pad sg pl < 0) then pl else numP pad sg pl) (if (¬ wr = 0 ∨ numV pad sg pl < 0) then 1 else 0)) (by rw [if_neg hgood, if_neg hgood, ← hfv.2]) ?_
                  exact fin v () 115 _ _ _ dX7_number_115 (trivial) (by rw [if_neg hgood]; exact hfv.1) (by decide) (by decide)
                · -- f
                  refine z_bipush ok dX7_number_88 (by decide) ?_
                  refine z_iload_n ok dX7_number_90 rfl ?_
                  refine z_imul ok dX7_number_91 ?_
                  refine z_aload_n ok dX7_number_92 rfl ?_
                  refine z_callVi0 ok (fun l => c_X7_sign  (by omega) (by omega)) zm_X7_sign zv_X7_sign qm_RX7_167 dX7_number_93 (by decide) (by decide) rfl rfl (Nat.le_of_ble_eq_true rfl) (q0 := 0) rfl rfl rfl (fun ρ _ hρ => ?_)
                  subst hρ
                  refine z_eq (ws' := mW Z q now kept hist und sav isv pad sg it far many laid sides stuck ord rd pp 0) rfl ?_
                  refine z_iadd ok dX7_number_96 ?_
                  refine z_bipush ok dX7_number_97 (by decide) ?_
                  refine z_isub ok dX7_number_99 ?_
                  refine z_istore_n (lv' := [(1, .int (iI (((10 * v) + (sgn pad sg pp)) - 48))), (0, .ref (q 0))]) ok dX7_number_100 (by decide) rfl ?_
                  refine z_aload_n ok dX7_number_101 rfl ?_
                  refine z_dup ok dX7_number_102 rfl ?_
                  refine z_get (v := .int (iI pp)) ok zc7 0 rfl 16 (by decide) qf_RX7_164 rfl rfl dX7_number_103 ?_
                  refine z_iconst ok dX7_number_106 ?_
                  refine z_iadd ok dX7_number_107 ?_
                  refine z_put (ws' := mW Z q now kept hist und sav isv pad sg it far many laid sides stuck ord rd (pp + 1) 0) ok zc7 0 rfl 16 (by decide) qf_RX7_164 rfl rfl rfl rfl (Nat.le_of_ble_eq_true rfl) dX7_number_108 rfl ?_
                  refine z_goto (tgt := 53) ok dX7_number_111 (by decide) ?_
                  refine z_lsub ok (lv' := [(0, .ref (q 0)), (1, .int (iI (((10 * v) + (sgn pad sg pp)) - 48)))]) [1, 0] rfl ?_
                  exact ih53 _ _ (by omega) (by rcases h53_1 with ⟨z1, z2⟩ | ⟨z1, z2, z3⟩; (rw [z2] at c68 ⊢; exact Or.inr ⟨by unfold numV; rw [if_pos (by omega), if_pos (by omega)]; omega, by unfold numP; rw [if_pos (by omega), if_pos (by omega)]; omega, by omega⟩); (exfalso; omega)) (by omega)
        refine z_lsub ok (lv' := [(0, .ref (q 0)), (1, .int (iI ((sgn pad sg pl) - 48)))]) [1, 0] rfl ?_
        exact L53 _ _ _ (by omega) (Or.inl ⟨by omega, by omega⟩) (Nat.lt_succ_self _)
      · -- f
        exact absurd c38 (by decide)
    · -- f
      refine z_iconst ok dX7_number_26 ?_
      refine z_goto (tgt := 31) ok dX7_number_27 (by decide) ?_
      refine z_put (ws' := mW Z q now kept hist und sav isv pad sg it far many laid sides stuck ord rd pl 1) ok zc7 0 rfl 17 (by decide) qf_RX7_170 rfl rfl (znZ _ (by first | decide | exact zb_01 _ | omega)) (zfZ _ (by first | decide | exact zb_01 _ | omega)) (Nat.le_of_ble_eq_true rfl) dX7_number_31 rfl ?_
      refine z_aload_n ok dX7_number_34 rfl ?_
      refine z_get (v := .int (iI 1)) ok zc7 0 rfl 17 (by decide) qf_RX7_170 rfl rfl dX7_number_35 ?_
      refine z_if_eq (tgt := 43) ok dX7_number_38 (by decide) (by omega) (fun c38 => ?_) (fun c38 => ?_)
      · -- t
        exact absurd c38 (by decide)
      · -- f
        refine z_iconst ok dX7_number_41 ?_
        have hbad : (¬ wr = 0 ∨ numV pad sg pl < 0) := by first | (exact Or.inl (by omega)) | (refine Or.inr ?_; unfold numV; rw [if_neg (by omega)]; omega) | (exfalso; omega)
        refine z_eq (ws' := mW Z q now kept hist und sav isv pad sg it far many laid sides stuck ord rd (if (¬ wr = 0 ∨ numV pad sg pl < 0) then pl else numP pad sg pl) (if (¬ wr = 0 ∨ numV pad sg pl < 0) then 1 else 0)) (by first | (rw [if_pos hbad, if_pos hbad]; done) | (exfalso; omega)) ?_
        exact fin 0 () 42 _ _ _ dX7_number_42 (trivial) (by rw [if_pos hbad]) (by decide) (by decide)
set_option maxRecDepth 20000 in
theorem c_X7_side {l : Launch} {Z : zZ} {q : Nat → Nat} {now kept hist : Int → Int} {und : Int} {sav isv pad : Int → Int} {sg it : Int} {far many laid sides stuck ord : Int → Int} {rd pl wr : Int} (hpd : padOK pad sg) (hpl : 0 ≤ pl ∧ pl ≤ 200) (hwr : 0 ≤ wr ∧ wr ≤ 1) : zI (T := Unit) l yX7_side (Cond.code yX7_side cX7_side 3 (some .int) :: wsL_law) ({ frames := 1, cells := 0, slots := 0, locals := 20 } : Room) Z [.ref (q 0)] (mW Z q now kept hist und sav isv pad sg it far many laid sides stuck ord rd pl wr) (fun _ => mW Z q now kept hist und sav isv pad sg it far many laid sides stuck ord rd (if (¬ wr = 0 ∨ sdV pad sg pl < 0) then pl else pl + 1) (if (¬ wr = 0 ∨ sdV pad sg pl < 0) then 1 else 0)) (fun ρ _ => ρ = (if sdV pad sg pl < 0 then -6 else sdV pad sg pl)) := by
  refine zI_of (C := RX7) (by decide +kernel) rfl (Nat.le_of_ble_eq_true rfl) (fun _ => True) znI (fun X ok fin => ?_)
  have hs0 := sgn_rng hpd hpl.1
  have hsg := hpd.1
  refine z_lsub ok (lv' := [(0, .ref (q 0))]) [0] rfl ?_
  refine z_aload_n ok dX7_side_0 rfl ?_
  refine z_callVi0 ok (fun l => c_X7_sign  (by omega) (by omega)) zm_X7_sign zv_X7_sign qm_RX7_167 dX7_side_1 (by decide) (by decide) rfl rfl (Nat.le_of_ble_eq_true rfl) (q0 := 0) rfl rfl rfl (fun ρ _ hρ => ?_)
  subst hρ
  refine z_eq (ws' := mW Z q now kept hist und sav isv pad sg it far many laid sides stuck ord rd pl wr) rfl ?_
  refine z_istore_n (lv' := [(1, .int (iI (sgn pad sg pl))), (0, .ref (q 0))]) ok dX7_side_4 (by decide) rfl ?_
  refine z_iload_n ok dX7_side_5 rfl ?_
  refine z_bipush ok dX7_side_6 (by decide) ?_
  refine z_icmp_ne (tgt := 15) ok dX7_side_8 (by decide) (by omega) (by omega) (fun c8 => ?_) (fun c8 => ?_)
  · -- t
    refine z_iload_n ok dX7_side_15 rfl ?_
    refine z_bipush ok dX7_side_16 (by decide) ?_
    refine z_icmp_ne (tgt := 25) ok dX7_side_18 (by decide) (by omega) (by omega) (fun c18 => ?_) (fun c18 => ?_)
    · -- t
      refine z_iload_n ok dX7_side_25 rfl ?_
      refine z_bipush ok dX7_side_26 (by decide) ?_
      refine z_icmp_ne (tgt := 35) ok dX7_side_28 (by decide) (by omega) (by omega) (fun c28 => ?_) (fun c28 => ?_)
      · -- t
        refine z_iload_n ok dX7_side_35 rfl ?_
        refine z_bipush ok dX7_side_36 (by decide) ?_
        refine z_icmp_ne (tgt := 45) ok dX7_side_38 (by decide) (by omega) (by omega) (fun c38 => ?_) (fun c38 => ?_)
        · -- t
          refine z_bipush ok dX7_side_45 (by decide) ?_
          refine z_istore_n (lv' := [(2, .int (iI (-6))), (1, .int (iI (sgn pad sg pl))), (0, .ref (q 0))]) ok dX7_side_47 (by decide) rfl ?_
          refine z_aload_n ok dX7_side_48 rfl ?_
          refine z_aload_n ok dX7_side_49 rfl ?_
          refine z_get (v := .int (iI wr)) ok zc7 0 rfl 17 (by decide) qf_RX7_170 rfl rfl dX7_side_50 ?_
          refine z_if_ne (tgt := 60) ok dX7_side_53 (by decide) (by omega) (fun c53 => ?_) (fun c53 => ?_)
          · -- t
            refine z_iconst ok dX7_side_60 ?_
            refine z_goto (tgt := 65) ok dX7_side_61 (by decide) ?_
            refine z_put (ws' := mW Z q now kept hist und sav isv pad sg it far many laid sides stuck ord rd pl 1) ok zc7 0 rfl 17 (by decide) qf_RX7_170 rfl rfl (znZ _ (by first | decide | exact zb_01 _ | omega)) (zfZ _ (by first | decide | exact zb_01 _ | omega)) (Nat.le_of_ble_eq_true rfl) dX7_side_65 rfl ?_
            refine z_aload_n ok dX7_side_68 rfl ?_
            refine z_dup ok dX7_side_69 rfl ?_
            refine z_get (v := .int (iI pl)) ok zc7 0 rfl 16 (by decide) qf_RX7_164 rfl rfl dX7_side_70 ?_
            refine z_aload_n ok dX7_side_73 rfl ?_
            refine z_get (v := .int (iI 1)) ok zc7 0 rfl 17 (by decide) qf_RX7_170 rfl rfl dX7_side_74 ?_
            refine z_if_eq (tgt := 84) ok dX7_side_77 (by decide) (by omega) (fun c77 => ?_) (fun c77 => ?_)
            · -- t
              exact absurd c77 (by decide)
            · -- f
              refine z_iconst ok dX7_side_80 ?_
              refine z_goto (tgt := 85) ok dX7_side_81 (by decide) ?_
              refine z_iadd ok dX7_side_85 ?_
              refine z_put (ws' := mW Z q now kept hist und sav isv pad sg it far many laid sides stuck ord rd (pl + 0) 1) ok zc7 0 rfl 16 (by decide) qf_RX7_164 rfl rfl rfl rfl (Nat.le_of_ble_eq_true rfl) dX7_side_86 rfl ?_
              refine z_iload_n ok dX7_side_89 rfl ?_
              have hsd : sdV pad sg pl = (if (-6) < 0 then -1 else (-6)) := by unfold sdV; first | (rw [if_pos c8]; rfl) | (rw [if_neg c8, if_pos c18]; rfl) | (rw [if_neg c8, if_neg c18, if_pos c28]; rfl) | (rw [if_neg c8, if_neg c18, if_neg c28, if_pos c38]; rfl) | (rw [if_neg c8, if_neg c18, if_neg c28, if_neg c38]; rfl)
              refine z_eq (ws' := mW Z q now kept hist und sav isv pad sg it far many laid sides stuck ord rd (if (¬ wr = 0 ∨ sdV pad sg pl < 0) then pl else pl + 1) (if (¬ wr = 0 ∨ sdV pad sg pl < 0) then 1 else 0)) (by first | (exfalso; omega) | (rw [if_pos (by omega), if_pos (by omega)]; first | rfl | (congr 1; omega)) | (rw [if_neg (by omega), if_neg (by omega)])) ?_
              exact fin (-6) () 90 _ _ _ dX7_side_90 (trivial) (by rw [hsd]; decide) (by decide) (by decide)
          · -- f
            refine z_iload_n ok dX7_side_56 rfl ?_
            refine z_if_ge (tgt := 64) ok dX7_side_57 (by decide) (by omega) (fun c57 => ?_) (fun c57 => ?_)
            · -- t
              exact absurd c57 (by decide)
            · -- f
              refine z_iconst ok dX7_side_60 ?_
              refine z_goto (tgt := 65) ok dX7_side_61 (by decide) ?_
              refine z_put (ws' := mW Z q now kept hist und sav isv pad sg it far many laid sides stuck ord rd pl 1) ok zc7 0 rfl 17 (by decide) qf_RX7_170 rfl rfl (znZ _ (by first | decide | exact zb_01 _ | omega)) (zfZ _ (by first | decide | exact zb_01 _ | omega)) (Nat.le_of_ble_eq_true rfl) dX7_side_65 rfl ?_
              refine z_aload_n ok dX7_side_68 rfl ?_
              refine z_dup ok dX7_side_69 rfl ?_
              refine z_get (v := .int (iI pl)) ok zc7 0 rfl 16 (by decide) qf_RX7_164 rfl rfl dX7_side_70 ?_
              refine z_aload_n ok dX7_side_73 rfl ?_
              refine z_get (v := .int (iI 1)) ok zc7 0 rfl 17 (by decide) qf_RX7_170 rfl rfl dX7_side_74 ?_
              refine z_if_eq (tgt := 84) ok dX7_side_77 (by decide) (by omega) (fun c77 => ?_) (fun c77 => ?_)
              · -- t
                exact absurd c77 (by decide)
              · -- f
                refine z_iconst ok dX7_side_80 ?_
                refine z_goto (tgt := 85) ok dX7_side_81 (by decide) ?_
                refine z_iadd ok dX7_side_85 ?_
                refine z_put (ws' := mW Z q now kept hist und sav isv pad sg it far many laid sides stuck ord rd (pl + 0) 1) ok zc7 0 rfl 16 (by decide) qf_RX7_164 rfl rfl rfl rfl (Nat.le_of_ble_eq_true rfl) dX7_side_86 rfl ?_
                refine z_iload_n ok dX7_side_89 rfl ?_
                have hsd : sdV pad sg pl = (if (-6) < 0 then -1 else (-6)) := by unfold sdV; first | (rw [if_pos c8]; rfl) | (rw [if_neg c8, if_pos c18]; rfl) | (rw [if_neg c8, if_neg c18, if_pos c28]; rfl) | (rw [if_neg c8, if_neg c18, if_neg c28, if_pos c38]; rfl) | (rw [if_neg c8, if_neg c18, if_neg c28, if_neg c38]; rfl)
                refine z_eq (ws' := mW Z q now kept hist und sav isv pad sg it far many laid sides stuck ord rd (if (¬ wr = 0 ∨ sdV pad sg pl < 0) then pl else pl + 1) (if (¬ wr = 0 ∨ sdV pad sg pl < 0) then 1 else 0)) (by first | (exfalso; omega) | (rw [if_pos (by omega), if_pos (by omega)]; first | rfl | (congr 1; omega)) | (rw [if_neg (by omega), if_neg (by omega)])) ?_
                exact fin (-6) () 90 _ _ _ dX7_side_90 (trivial) (by rw [hsd]; decide) (by decide) (by decide)
        · -- f
          refine z_iconst ok dX7_side_41 ?_
          refine z_goto (tgt := 47) ok dX7_side_42 (by decide) ?_
          refine z_istore_n (lv' := [(2, .int (iI 3)), (1, .int (iI (sgn pad sg pl))), (0, .ref (q 0))]) ok dX7_side_47 (by decide) rfl ?_
          refine z_aload_n ok dX7_side_48 rfl ?_
          refine z_aload_n ok dX7_side_49 rfl ?_
          refine z_get (v := .int (iI wr)) ok zc7 0 rfl 17 (by decide) qf_RX7_170 rfl rfl dX7_side_50 ?_
          refine z_if_ne (tgt := 60) ok dX7_side_53 (by decide) (by omega) (fun c53 => ?_) (fun c53 => ?_)
          · -- t
            refine z_iconst ok dX7_side_60 ?_
            refine z_goto (tgt := 65) ok dX7_side_61 (by decide) ?_
            refine z_put (ws' := mW Z q now kept hist und sav isv pad sg it far many laid sides stuck ord rd pl 1) ok zc7 0 rfl 17 (by decide) qf_RX7_170 rfl rfl (znZ _ (by first | decide | exact zb_01 _ | omega)) (zfZ _ (by first | decide | exact zb_01 _ | omega)) (Nat.le_of_ble_eq_true rfl) dX7_side_65 rfl ?_
            refine z_aload_n ok dX7_side_68 rfl ?_
            refine z_dup ok dX7_side_69 rfl ?_
            refine z_get (v := .int (iI pl)) ok zc7 0 rfl 16 (by decide) qf_RX7_164 rfl rfl dX7_side_70 ?_
            refine z_aload_n ok dX7_side_73 rfl ?_
            refine z_get (v := .int (iI 1)) ok zc7 0 rfl 17 (by decide) qf_RX7_170 rfl rfl dX7_side_74 ?_
            refine z_if_eq (tgt := 84) ok dX7_side_77 (by decide) (by omega) (fun c77 => ?_) (fun c77 => ?_)
            · -- t
              exact absurd c77 (by decide)
            · -- f
              refine z_iconst ok dX7_side_80 ?_
              refine z_goto (tgt := 85) ok dX7_side_81 (by decide) ?_
              refine z_iadd ok dX7_side_85 ?_
              refine z_put (ws' := mW Z q now kept hist und sav isv pad sg it far many laid sides stuck ord rd (pl + 0) 1) ok zc7 0 rfl 16 (by decide) qf_RX7_164 rfl rfl rfl rfl (Nat.le_of_ble_eq_true rfl) dX7_side_86 rfl ?_
              refine z_iload_n ok dX7_side_89 rfl ?_
              have hsd : sdV pad sg pl = (if 3 < 0 then -1 else 3) := by unfold sdV; first | (rw [if_pos c8]; rfl) | (rw [if_neg c8, if_pos c18]; rfl) | (rw [if_neg c8, if_neg c18, if_pos c28]; rfl) | (rw [if_neg c8, if_neg c18, if_neg c28, if_pos c38]; rfl) | (rw [if_neg c8, if_neg c18, if_neg c28, if_neg c38]; rfl)
              refine z_eq (ws' := mW Z q now kept hist und sav isv pad sg it far many laid sides stuck ord rd (if (¬ wr = 0 ∨ sdV pad sg pl < 0) then pl else pl + 1) (if (¬ wr = 0 ∨ sdV pad sg pl < 0) then 1 else 0)) (by first | (exfalso; omega) | (rw [if_pos (by omega), if_pos (by omega)]; first | rfl | (congr 1; omega)) | (rw [if_neg (by omega), if_neg (by omega)])) ?_
              exact fin 3 () 90 _ _ _ dX7_side_90 (trivial) (by rw [hsd]; decide) (by decide) (by decide)
          · -- f
            refine z_iload_n ok dX7_side_56 rfl ?_
            refine z_if_ge (tgt := 64) ok dX7_side_57 (by decide) (by omega) (fun c57 => ?_) (fun c57 => ?_)
            · -- t
              refine z_iconst ok dX7_side_64 ?_
              refine z_put (ws' := mW Z q now kept hist und sav isv pad sg it far many laid sides stuck ord rd pl 0) ok zc7 0 rfl 17 (by decide) qf_RX7_170 rfl rfl (znZ _ (by first | decide | exact zb_01 _ | omega)) (zfZ _ (by first | decide | exact zb_01 _ | omega)) (Nat.le_of_ble_eq_true rfl) dX7_side_65 rfl ?_
              refine z_aload_n ok dX7_side_68 rfl ?_
              refine z_dup ok dX7_side_69 rfl ?_
              refine z_get (v := .int (iI pl)) ok zc7 0 rfl 16 (by decide) qf_RX7_164 rfl rfl dX7_side_70 ?_
              refine z_aload_n ok dX7_side_73 rfl ?_
              refine z_get (v := .int (iI 0)) ok zc7 0 rfl 17 (by decide) qf_RX7_170 rfl rfl dX7_side_74 ?_
              refine z_if_eq (tgt := 84) ok dX7_side_77 (by decide) (by omega) (fun c77 => ?_) (fun c77 => ?_)
              · -- t
                refine z_iconst ok dX7_side_84 ?_
                refine z_iadd ok dX7_side_85 ?_
                refine z_put (ws' := mW Z q now kept hist und sav isv pad sg it far many laid sides stuck ord rd (pl + 1) 0) ok zc7 0 rfl 16 (by decide) qf_RX7_164 rfl rfl rfl rfl (Nat.le_of_ble_eq_true rfl) dX7_side_86 rfl ?_
                refine z_iload_n ok dX7_side_89 rfl ?_
                have hsd : sdV pad sg pl = (if 3 < 0 then -1 else 3) := by unfold sdV; first | (rw [if_pos c8]; rfl) | (rw [if_neg c8, if_pos c18]; rfl) | (rw [if_neg c8, if_neg c18, if_pos c28]; rfl) | (rw [if_neg c8, if_neg c18, if_neg c28, if_pos c38]; rfl) | (rw [if_neg c8, if_neg c18, if_neg c28, if_neg c38]; rfl)
                refine z_eq (ws' := mW Z q now kept hist und sav isv pad sg it far many laid sides stuck ord rd (if (¬ wr = 0 ∨ sdV pad sg pl < 0) then pl else pl + 1) (if (¬ wr = 0 ∨ sdV pad sg pl < 0) then 1 else 0)) (by first | (exfalso; omega) | (rw [if_pos (by omega), if_pos (by omega)]; first | rfl | (congr 1; omega)) | (rw [if_neg (by omega), if_neg (by omega)])) ?_
                exact fin 3 () 90 _ _ _ dX7_side_90 (trivial) (by rw [hsd]; decide) (by decide) (by decide)
              · -- f
                exact absurd c77 (by decide)
            · -- f
              exact absurd c57 (by decide)
      · -- f
        refine z_iconst ok dX7_side_31 ?_
        refine z_goto (tgt := 47) ok dX7_side_32 (by decide) ?_
        refine z_istore_n (lv' := [(2, .int (iI 2)), (1, .int (iI (sgn pad sg pl))), (0, .ref (q 0))]) ok dX7_side_47 (by decide) rfl ?_
        refine z_aload_n ok dX7_side_48 rfl ?_
        refine z_aload_n ok dX7_side_49 rfl ?_
        refine z_get (v := .int (iI wr)) ok zc7 0 rfl 17 (by decide) qf_RX7_170 rfl rfl dX7_side_50 ?_
        refine z_if_ne (tgt := 60) ok dX7_side_53 (by decide) (by omega) (fun c53 => ?_) (fun c53 => ?_)
        · -- t
          refine z_iconst ok dX7_side_60 ?_
          refine z_goto (tgt := 65) ok dX7_side_61 (by decide) ?_
          refine z_put (ws' := mW Z q now kept hist und sav isv pad sg it far many laid sides stuck ord rd pl 1) ok zc7 0 rfl 17 (by decide) qf_RX7_170 rfl rfl (znZ _ (by first | decide | exact zb_01 _ | omega)) (zfZ _ (by first | decide | exact zb_01 _ | omega)) (Nat.le_of_ble_eq_true rfl) dX7_side_65 rfl ?_
          refine z_aload_n ok dX7_side_68 rfl ?_
          refine z_dup ok dX7_side_69 rfl ?_
          refine z_get (v := .int (iI pl)) ok zc7 0 rfl 16 (by decide) qf_RX7_164 rfl rfl dX7_side_70 ?_
          refine z_aload_n ok dX7_side_73 rfl ?_
          refine z_get (v := .int (iI 1)) ok zc7 0 rfl 17 (by decide) qf_RX7_170 rfl rfl dX7_side_74 ?_
          refine z_if_eq (tgt := 84) ok dX7_side_77 (by decide) (by omega) (fun c77 => ?_) (fun c77 => ?_)
          · -- t
            exact absurd c77 (by decide)
          · -- f
            refine z_iconst ok dX7_side_80 ?_
            refine z_goto (tgt := 85) ok dX7_side_81 (by decide) ?_
            refine z_iadd ok dX7_side_85 ?_
            refine z_put (ws' := mW Z q now kept hist und sav isv pad sg it far many laid sides stuck ord rd (pl + 0) 1) ok zc7 0 rfl 16 (by decide) qf_RX7_164 rfl rfl rfl rfl (Nat.le_of_ble_eq_true rfl) dX7_side_86 rfl ?_
            refine z_iload_n ok dX7_side_89 rfl ?_
            have hsd : sdV pad sg pl = (if 2 < 0 then -1 else 2) := by unfold sdV; first | (rw [if_pos c8]; rfl) | (rw [if_neg c8, if_pos c18]; rfl) | (rw [if_neg c8, if_neg c18, if_pos c28]; rfl) | (rw [if_neg c8, if_neg c18, if_neg c28, if_pos c38]; rfl) | (rw [if_neg c8, if_neg c18, if_neg c28, if_neg c38]; rfl)
            refine z_eq (ws' := mW Z q now kept hist und sav isv pad sg it far many laid sides stuck ord rd (if (¬ wr = 0 ∨ sdV pad sg pl < 0) then pl else pl + 1) (if (¬ wr = 0 ∨ sdV pad sg pl < 0) then 1 else 0)) (by first | (exfalso; omega) | (rw [if_pos (by omega), if_pos (by omega)]; first | rfl | (congr 1; omega)) | (rw [if_neg (by omega), if_neg (by omega)])) ?_
            exact fin 2 () 90 _ _ _ dX7_side_90 (trivial) (by rw [hsd]; decide) (by decide) (by decide)
        · -- f
          refine z_iload_n ok dX7_side_56 rfl ?_
          refine z_if_ge (tgt := 64) ok dX7_side_57 (by decide) (by omega) (fun c57 => ?_) (fun c57 => ?_)
          · -- t
            refine z_iconst ok dX7_side_64 ?_
            refine z_put (ws' := mW Z q now kept hist und sav isv pad sg it far many laid sides stuck ord rd pl 0) ok zc7 0 rfl 17 (by decide) qf_RX7_170 rfl rfl (znZ _ (by first | decide | exact zb_01 _ | omega)) (zfZ _ (by first | decide | exact zb_01 _ | omega)) (Nat.le_of_ble_eq_true rfl) dX7_side_65 rfl ?_
            refine z_aload_n ok dX7_side_68 rfl ?_
            refine z_dup ok dX7_side_69 rfl ?_
            refine z_get (v := .int (iI pl)) ok zc7 0 rfl 16 (by decide) qf_RX7_164 rfl rfl dX7_side_70 ?_
            refine z_aload_n ok dX7_side_73 rfl ?_
            refine z_get (v := .int (iI 0)) ok zc7 0 rfl 17 (by decide) qf_RX7_170 rfl rfl dX7_side_74 ?_
            refine z_if_eq (tgt := 84) ok dX7_side_77 (by decide) (by omega) (fun c77 => ?_) (fun c77 => ?_)
            · -- t
              refine z_iconst ok dX7_side_84 ?_
              refine z_iadd ok dX7_side_85 ?_
              refine z_put (ws' := mW Z q now kept hist und sav isv pad sg it far many laid sides stuck ord rd (pl + 1) 0) ok zc7 0 rfl 16 (by decide) qf_RX7_164 rfl rfl rfl rfl (Nat.le_of_ble_eq_true rfl) dX7_side_86 rfl ?_
              refine z_iload_n ok dX7_side_89 rfl ?_
              have hsd : sdV pad sg pl = (if 2 < 0 then -1 else 2) := by unfold sdV; first | (rw [if_pos c8]; rfl) | (rw [if_neg c8, if_pos c18]; rfl) | (rw [if_neg c8, if_neg c18, if_pos c28]; rfl) | (rw [if_neg c8, if_neg c18, if_neg c28, if_pos c38]; rfl) | (rw [if_neg c8, if_neg c18, if_neg c28, if_neg c38]; rfl)
              refine z_eq (ws' := mW Z q now kept hist und sav isv pad sg it far many laid sides stuck ord rd (if (¬ wr = 0 ∨ sdV pad sg pl < 0) then pl else pl + 1) (if (¬ wr = 0 ∨ sdV pad sg pl < 0) then 1 else 0)) (by first | (exfalso; omega) | (rw [if_pos (by omega), if_pos (by omega)]; first | rfl | (congr 1; omega)) | (rw [if_neg (by omega), if_neg (by omega)])) ?_
              exact fin 2 () 90 _ _ _ dX7_side_90 (trivial) (by rw [hsd]; decide) (by decide) (by decide)
            · -- f
              exact absurd c77 (by decide)
          · -- f
            exact absurd c57 (by decide)
    · -- f
      refine z_iconst ok dX7_side_21 ?_
      refine z_goto (tgt := 47) ok dX7_side_22 (by decide) ?_
      refine z_istore_n (lv' := [(2, .int (iI 1)), (1, .int (iI (sgn pad sg pl))), (0, .ref (q 0))]) ok dX7_side_47 (by decide) rfl ?_
      refine z_aload_n ok dX7_side_48 rfl ?_
      refine z_aload_n ok dX7_side_49 rfl ?_
      refine z_get (v := .int (iI wr)) ok zc7 0 rfl 17 (by decide) qf_RX7_170 rfl rfl dX7_side_50 ?_
      refine z_if_ne (tgt := 60) ok dX7_side_53 (by decide) (by omega) (fun c53 => ?_) (fun c53 => ?_)
      · -- t
        refine z_iconst ok dX7_side_60 ?_
        refine z_goto (tgt := 65) ok dX7_side_61 (by decide) ?_
        refine z_put (ws' := mW Z q now kept hist und sav isv pad sg it far many laid sides stuck ord rd pl 1) ok zc7 0 rfl 17 (by decide) qf_RX7_170 rfl rfl (znZ _ (by first | decide | exact zb_01 _ | omega)) (zfZ _ (by first | decide | exact zb_01 _ | omega)) (Nat.le_of_ble_eq_true rfl) dX7_side_65 rfl ?_
        refine z_aload_n ok dX7_side_68 rfl ?_
        refine z_dup ok dX7_side_69 rfl ?_
        refine z_get (v := .int (iI pl)) ok zc7 0 rfl 16 (by decide) qf_RX7_164 rfl rfl dX7_side_70 ?_
        refine z_aload_n ok dX7_side_73 rfl ?_
        refine z_get (v := .int (iI 1)) ok zc7 0 rfl 17 (by decide) qf_RX7_170 rfl rfl dX7_side_74 ?_
        refine z_if_eq (tgt := 84) ok dX7_side_77 (by decide) (by omega) (fun c77 => ?_) (fun c77 => ?_)
        · -- t
          exact absurd c77 (by decide)
        · -- f
          refine z_iconst ok dX7_side_80 ?_
          refine z_goto (tgt := 85) ok dX7_side_81 (by decide) ?_
          refine z_iadd ok dX7_side_85 ?_
          refine z_put (ws' := mW Z q now kept hist und sav isv pad sg it far many laid sides stuck ord rd (pl + 0) 1) ok zc7 0 rfl 16 (by decide) qf_RX7_164 rfl rfl rfl rfl (Nat.le_of_ble_eq_true rfl) dX7_side_86 rfl ?_
          refine z_iload_n ok dX7_side_89 rfl ?_
          have hsd : sdV pad sg pl = (if 1 < 0 then -1 else 1) := by unfold sdV; first | (rw [if_pos c8]; rfl) | (rw [if_neg c8, if_pos c18]; rfl) | (rw [if_neg c8, if_neg c18, if_pos c28]; rfl) | (rw [if_neg c8, if_neg c18, if_neg c28, if_pos c38]; rfl) | (rw [if_neg c8, if_neg c18, if_neg c28, if_neg c38]; rfl)
          refine z_eq (ws' := mW Z q now kept hist und sav isv pad sg it far many laid sides stuck ord rd (if (¬ wr = 0 ∨ sdV pad sg pl < 0) then pl else pl + 1) (if (¬ wr = 0 ∨ sdV pad sg pl < 0) then 1 else 0)) (by first | (exfalso; omega) | (rw [if_pos (by omega), if_pos (by omega)]; first | rfl | (congr 1; omega)) | (rw [if_neg (by omega), if_neg (by omega)])) ?_
          exact fin 1 () 90 _ _ _ dX7_side_90 (trivial) (by rw [hsd]; decide) (by decide) (by decide)
      · -- f
        refine z_iload_n ok dX7_side_56 rfl ?_
        refine z_if_ge (tgt := 64) ok dX7_side_57 (by decide) (by omega) (fun c57 => ?_) (fun c57 => ?_)
        · -- t
          refine z_iconst ok dX7_side_64 ?_
          refine z_put (ws' := mW Z q now kept hist und sav isv pad sg it far many laid sides stuck ord rd pl 0) ok zc7 0 rfl 17 (by decide) qf_RX7_170 rfl rfl (znZ _ (by first | decide | exact zb_01 _ | omega)) (zfZ _ (by first | decide | exact zb_01 _ | omega)) (Nat.le_of_ble_eq_true rfl) dX7_side_65 rfl ?_
          refine z_aload_n ok dX7_side_68 rfl ?_
          refine z_dup ok dX7_side_69 rfl ?_
          refine z_get (v := .int (iI pl)) ok zc7 0 rfl 16 (by decide) qf_RX7_164 rfl rfl dX7_side_70 ?_
          refine z_aload_n ok dX7_side_73 rfl ?_
          refine z_get (v := .int (iI 0)) ok zc7 0 rfl 17 (by decide) qf_RX7_170 rfl rfl dX7_side_74 ?_
          refine z_if_eq (tgt := 84) ok dX7_side_77 (by decide) (by omega) (fun c77 => ?_) (fun c77 => ?_)
          · -- t
            refine z_iconst ok dX7_side_84 ?_
            refine z_iadd ok dX7_side_85 ?_
            refine z_put (ws' := mW Z q now kept hist und sav isv pad sg it far many laid sides stuck ord rd (pl + 1) 0) ok zc7 0 rfl 16 (by decide) qf_RX7_164 rfl rfl rfl rfl (Nat.le_of_ble_eq_true rfl) dX7_side_86 rfl ?_
            refine z_iload_n ok dX7_side_89 rfl ?_
            have hsd : sdV pad sg pl = (if 1 < 0 then -1 else 1) := by unfold sdV; first | (rw [if_pos c8]; rfl) | (rw [if_neg c8, if_pos c18]; rfl) | (rw [if_neg c8, if_neg c18, if_pos c28]; rfl) | (rw [if_neg c8, if_neg c18, if_neg c28, if_pos c38]; rfl) | (rw [if_neg c8, if_neg c18, if_neg c28, if_neg c38]; rfl)
            refine z_eq (ws' := mW Z q now kept hist und sav isv pad sg it far many laid sides stuck ord rd (if (¬ wr = 0 ∨ sdV pad sg pl < 0) then pl else pl + 1) (if (¬ wr = 0 ∨ sdV pad sg pl < 0) then 1 else 0)) (by first | (exfalso; omega) | (rw [if_pos (by omega), if_pos (by omega)]; first | rfl | (congr 1; omega)) | (rw [if_neg (by omega), if_neg (by omega)])) ?_
            exact fin 1 () 90 _ _ _ dX7_side_90 (trivial) (by rw [hsd]; decide) (by decide) (by decide)
          · -- f
            exact absurd c77 (by decide)
        · -- f
          exact absurd c57 (by decide)
  · -- f
    refine z_iconst ok dX7_side_11 ?_
    refine z_goto (tgt := 47) ok dX7_side_12 (by decide) ?_
    refine z_istore_n (lv' := [(2, .int (iI 0)), (1, .int (iI (sgn pad sg pl))), (0, .ref (q 0))]) ok dX7_side_47 (by decide) rfl ?_
    refine z_aload_n ok dX7_side_48 rfl ?_
    refine z_aload_n ok dX7_side_49 rfl ?_
    refine z_get (v := .int (iI wr)) ok zc7 0 rfl 17 (by decide) qf_RX7_170 rfl rfl dX7_side_50 ?_
    refine z_if_ne (tgt := 60) ok dX7_side_53 (by decide) (by omega) (fun c53 => ?_) (fun c53 => ?_)
    · -- t
      refine z_iconst ok dX7_side_60 ?_
      refine z_goto (tgt := 65) ok dX7_side_61 (by decide) ?_
      refine z_put (ws' := mW Z q now kept hist und sav isv pad sg it far many laid sides stuck ord rd pl 1) ok zc7 0 rfl 17 (by decide) qf_RX7_170 rfl rfl (znZ _ (by first | decide | exact zb_01 _ | omega)) (zfZ _ (by first | decide | exact zb_01 _ | omega)) (Nat.le_of_ble_eq_true rfl) dX7_side_65 rfl ?_
      refine z_aload_n ok dX7_side_68 rfl ?_
      refine z_dup ok dX7_side_69 rfl ?_
      refine z_get (v := .int (iI pl)) ok zc7 0 rfl 16 (by decide) qf_RX7_164 rfl rfl dX7_side_70 ?_
      refine z_aload_n ok dX7_side_73 rfl ?_
      refine z_get (v := .int (iI 1)) ok zc7 0 rfl 17 (by decide) qf_RX7_170 rfl rfl dX7_side_74 ?_
      refine z_if_eq (tgt := 84) ok dX7_side_77 (by decide) (by omega) (fun c77 => ?_) (fun c77 => ?_)
      · -- t
        exact absurd c77 (by decide)
      · -- f
        refine z_iconst ok dX7_side_80 ?_
        refine z_goto (tgt := 85) ok dX7_side_81 (by decide) ?_
        refine z_iadd ok dX7_side_85 ?_
        refine z_put (ws' := mW Z q now kept hist und sav isv pad sg it far many laid sides stuck ord rd (pl + 0) 1) ok zc7 0 rfl 16 (by decide) qf_RX7_164 rfl rfl rfl rfl (Nat.le_of_ble_eq_true rfl) dX7_side_86 rfl ?_
        refine z_iload_n ok dX7_side_89 rfl ?_
        have hsd : sdV pad sg pl = (if 0 < 0 then -1 else 0) := by unfold sdV; first | (rw [if_pos c8]; rfl) | (rw [if_neg c8, if_pos c18]; rfl) | (rw [if_neg c8, if_neg c18, if_pos c28]; rfl) | (rw [if_neg c8, if_neg c18, if_neg c28, if_pos c38]; rfl) | (rw [if_neg c8, if_neg c18, if_neg c28, if_neg c38]; rfl)
        refine z_eq (ws' := mW Z q now kept hist und sav isv pad sg it far many laid sides stuck ord rd (if (¬ wr = 0 ∨ sdV pad sg pl < 0) then pl else pl + 1) (if (¬ wr = 0 ∨ sdV pad sg pl < 0) then 1 else 0)) (by first | (exfalso; omega) | (rw [if_pos (by omega), if_pos (by omega)]; first | rfl | (congr 1; omega)) | (rw [if_neg (by omega), if_neg (by omega)])) ?_
        exact fin 0 () 90 _ _ _ dX7_side_90 (trivial) (by rw [hsd]; decide) (by decide) (by decide)
    · -- f
      refine z_iload_n ok dX7_side_56 rfl ?_
      refine z_if_ge (tgt := 64) ok dX7_side_57 (by decide) (by omega) (fun c57 => ?_) (fun c57 => ?_)
      · -- t
        refine z_iconst ok dX7_side_64 ?_
        refine z_put (ws' := mW Z q now kept hist und sav isv pad sg it far many laid sides stuck ord rd pl 0) ok zc7 0 rfl 17 (by decide) qf_RX7_170 rfl rfl (znZ _ (by first | decide | exact zb_01 _ | omega)) (zfZ _ (by first | decide | exact zb_01 _ | omega)) (Nat.le_of_ble_eq_true rfl) dX7_side_65 rfl ?_
        refine z_aload_n ok dX7_side_68 rfl ?_
        refine z_dup ok dX7_side_69 rfl ?_
        refine z_get (v := .int (iI pl)) ok zc7 0 rfl 16 (by decide) qf_RX7_164 rfl rfl dX7_side_70 ?_
        refine z_aload_n ok dX7_side_73 rfl ?_
        refine z_get (v := .int (iI 0)) ok zc7 0 rfl 17 (by decide) qf_RX7_170 rfl rfl dX7_side_74 ?_
        refine z_if_eq (tgt := 84) ok dX7_side_77 (by decide) (by omega) (fun c77 => ?_) (fun c77 => ?_)
        · -- t
          refine z_iconst ok dX7_side_84 ?_
          refine z_iadd ok dX7_side_85 ?_
          refine z_put (ws' := mW Z q now kept hist und sav isv pad sg it far many laid sides stuck ord rd (pl + 1) 0) ok zc7 0 rfl 16 (by decide) qf_RX7_164 rfl rfl rfl rfl (Nat.le_of_ble_eq_true rfl) dX7_side_86 rfl ?_
          refine z_iload_n ok dX7_side_89 rfl ?_
          have hsd : sdV pad sg pl = (if 0 < 0 then -1 else 0) := by unfold sdV; first | (rw [if_pos c8]; rfl) | (rw [if_neg c8, if_pos c18]; rfl) | (rw [if_neg c8, if_neg c18, if_pos c28]; rfl) | (rw [if_neg c8, if_neg c18, if_neg c28, if_pos c38]; rfl) | (rw [if_neg c8, if_neg c18, if_neg c28, if_neg c38]; rfl)
          refine z_eq (ws' := mW Z q now kept hist und sav isv pad sg it far many laid sides stuck ord rd (if (¬ wr = 0 ∨ sdV pad sg pl < 0) then pl else pl + 1) (if (¬ wr = 0 ∨ sdV pad sg pl < 0) then 1 else 0)) (by first | (exfalso; omega) | (rw [if_pos (by omega), if_pos (by omega)]; first | rfl | (congr 1; omega)) | (rw [if_neg (by omega), if_neg (by omega)])) ?_
          exact fin 0 () 90 _ _ _ dX7_side_90 (trivial) (by rw [hsd]; decide) (by decide) (by decide)
        · -- f
          exact absurd c77 (by decide)
      · -- f
        exact absurd c57 (by decide)
