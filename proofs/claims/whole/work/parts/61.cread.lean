set_option maxRecDepth 20000 in
theorem c_X3_readOrders {l : Launch} {Z : zZ} {e : Nat → Nat} {P : Int → Int} {ln od : Int} {k1 f1 s1 : Int → Int} {pl : Int} (hpd : padOK P ln) : zI (T := Int × Int × (Int → Int) × (Int → Int) × (Int → Int)) l yX3_readOrders (Cond.code yX3_readOrders cX3_readOrders 2 (some .int) :: wsL_law) ({ frames := 4, cells := 0, slots := 0, locals := 86 } : Room) Z [.ref (e 0)] (zf [dW Z e P ln od k1 f1 s1 pl]) (fun u => zf [dW Z e P ln u.2.1 u.2.2.1 u.2.2.2.1 u.2.2.2.2 u.1]) (fun ρ u => ρ = (flt P ln 100 0 0).1 ∧ ((flt P ln 100 0 0).1 = -6 → u.2.1 = (flt P ln 100 0 0).2 ∧ (0 ≤ u.2.1 ∧ u.2.1 ≤ 27) ∧ ordsOK P ln u.2.1 u.2.2.1 u.2.2.2.1 u.2.2.2.2) ∧ (-6 ≤ ρ ∧ ρ ≤ 200)) := by
  refine zI_of (C := RX3) (by decide +kernel) rfl (Nat.le_of_ble_eq_true rfl) (fun _ => True) znI (fun X ok fin => ?_)
  have hln := hpd.1
  refine z_lsub ok (lv' := [(0, .ref (e 0))]) [0] rfl ?_
  refine z_aload_n ok dX3_readOrders_0 rfl ?_
  refine z_iconst ok dX3_readOrders_1 ?_
  refine z_put (ws' := zf [dW Z e P ln od k1 f1 s1 0]) ok zc3 0 rfl 6 (by decide) qf_RX3_32 rfl rfl rfl rfl (Nat.le_of_ble_eq_true rfl) dX3_readOrders_2 rfl ?_
  refine z_aload_n ok dX3_readOrders_5 rfl ?_
  refine z_iconst ok dX3_readOrders_6 ?_
  refine z_put (ws' := zf [dW Z e P ln 0 k1 f1 s1 0]) ok zc3 0 rfl 2 (by decide) qf_RX3_19 rfl rfl rfl rfl (Nat.le_of_ble_eq_true rfl) dX3_readOrders_7 rfl ?_
  refine z_iconst ok dX3_readOrders_10 ?_
  refine z_istore_n (lv' := [(1, .int (iI 0)), (0, .ref (e 0))]) ok dX3_readOrders_11 (by decide) rfl ?_
  have L12 : ∀ (fuel : Nat) (k : Nat) (p2 : Int) (k2 f2 s2 : Int → Int), (p2 = ost P ln k) → (3 * (k : Int) ≤ ost P ln k ∧ ost P ln k ≤ 80) → (flt P ln 100 0 0 = flt P ln (100 - k) (ost P ln k) (k : Int)) → (ordsOK P ln (k : Int) k2 f2 s2) → (27 - (k : Int)).toNat < fuel → zV X 0 0 (zf [dW Z e P ln (k : Int) k2 f2 s2 p2]) 12 [(0, .ref (e 0)), (1, .int (iI (k : Int)))] [] := by
    intro fuel
    induction fuel with
    | zero => intro k p2 k2 f2 s2 h12_0 h12_1 h12_2 h12_3 hf; exact absurd hf (Nat.not_lt_zero _)
    | succ fuel ih12 =>
      intro k p2 k2 f2 s2 h12_0 h12_1 h12_2 h12_3 hf
      have hfk : flt P ln 100 0 0 = flt P ln (99 - k + 1) (ost P ln k) (k : Int) := by rw [h12_2]; congr 1; omega
      refine z_iload_n ok dX3_readOrders_12 rfl ?_
      refine z_bipush ok dX3_readOrders_13 (by decide) ?_
      refine z_icmp_ge (tgt := 64) ok dX3_readOrders_15 (by decide) (by omega) (by omega) (fun c15 => ?_) (fun c15 => ?_)
      · -- t
        exact absurd h12_1 (by omega)
      · -- f
        refine z_aload_n ok dX3_readOrders_18 rfl ?_
        refine z_callVi0 ok (fun l => c_X3_readOrder  (hpd) (by omega) (by omega)) zm_X3_readOrder zv_X3_readOrder qm_RX3_41 dX3_readOrders_19 (by decide) (by decide) rfl rfl (Nat.le_of_ble_eq_true rfl) (q0 := 0) rfl rfl rfl (fun r19 u19 hp19 => ?_)
        obtain ⟨pl_19, od_19, k1_19, f1_19, s1_19⟩ := u19
        try dsimp only at hp19
        refine z_eq (ws' := zf [dW Z e P ln od_19 k1_19 f1_19 s1_19 pl_19]) rfl ?_
        have hor := ord_rng hpd (i := p2) (by omega)
        have hr19 : r19 = 0 ∨ r19 = 1 := by rcases hp19 with h | h; exact Or.inr h.2.1; exact Or.inl h.2.1
        have hpl19 : pl_19 = ordE P ln p2 := by rcases hp19 with h | h; exact h.2.2.1; exact h.2.2.1
        refine z_if_ne (tgt := 30) ok dX3_readOrders_22 (by decide) (by omega) (fun c22 => ?_) (fun c22 => ?_)
        · -- t
          obtain ⟨g1, g2, g3, g4, x19, g7, g8⟩ : ordOK P ln p2 ∧ od_19 = (k : Int) + 1 ∧ k1_19 = zu k2 (k : Int) (sgn P ln p2) ∧ f1_19 = zu f2 (k : Int) (numV P ln (p2 + 1)) ∧ ∃ x : Int, s1_19 = zu s2 (k : Int) x ∧ (sgn P ln p2 ≠ 116 → x = ordS P ln p2) := by rcases hp19 with ⟨a1, a2, a3, a4, a5, a6, a7⟩ | ⟨a1, a2, a3⟩; exact ⟨a1, a4, a5, a6, a7⟩; omega
          rw [h12_0] at g1 g3 g4 g8 hpl19 hor
          have hup := ords_up h12_3 g1 g8
          rw [← g3, ← g4, ← g7] at hup
          have hfl := hfk
          rw [flt_s g1] at hfl
          refine z_aload_n ok dX3_readOrders_30 rfl ?_
          refine z_get (v := .int (iI pl_19)) ok zc3 0 rfl 6 (by decide) qf_RX3_32 rfl rfl dX3_readOrders_31 ?_
          refine z_aload_n ok dX3_readOrders_34 rfl ?_
          refine z_get (v := .int (iI ln)) ok zc3 0 rfl 1 (by decide) qf_RX3_15 rfl rfl dX3_readOrders_35 ?_
          refine z_icmp_lt (tgt := 44) ok dX3_readOrders_38 (by decide) (by omega) (by omega) (fun c38 => ?_) (fun c38 => ?_)
          · -- t
            refine z_aload_n ok dX3_readOrders_44 rfl ?_
            refine z_bipush ok dX3_readOrders_45 (by decide) ?_
            refine z_callVi0 ok (fun l => c_X3_readSign  (hpd) (by omega) (by decide)) zm_X3_readSign zv_X3_readSign qm_RX3_45 dX3_readOrders_47 (by decide) (by decide) rfl rfl (Nat.le_of_ble_eq_true rfl) (q0 := 0) rfl rfl rfl (fun r47 u47 hp47 => ?_)
            obtain ⟨pl_47, rfl⟩ : ∃ z, z = u47 := ⟨_, rfl⟩
            try dsimp only at hp47
            refine z_eq (ws' := zf [dW Z e P ln od_19 k1_19 f1_19 s1_19 pl_47]) rfl ?_
            refine z_if_ne (tgt := 58) ok dX3_readOrders_50 (by decide) (by rcases hp47 with ⟨a1, a2, a3⟩ | ⟨a1, a2, a3⟩ <;> omega) (fun c50 => ?_) (fun c50 => ?_)
            · -- t
              obtain ⟨b1, b2⟩ : sgn P ln pl_19 = 59 ∧ pl_47 = pl_19 + 1 := by rcases hp47 with ⟨a1, a2, a3⟩ | ⟨a1, a2, a3⟩; exact ⟨a1, a3⟩; omega
              have hpn : pl_47 = ost P ln (k + 1) := by rw [b2, hpl19]; rfl
              have hbn : 3 * ((k + 1 : Nat) : Int) ≤ ost P ln (k + 1) ∧ ost P ln (k + 1) ≤ 80 := by have := hor.2.2 g1; rw [← hpn]; omega
              have hfn : flt P ln 100 0 0 = flt P ln (100 - (k + 1)) (ost P ln (k + 1)) ((k + 1 : Nat) : Int) := by rw [hfl]; unfold flC; rw [if_neg (by omega), if_pos (by rw [← hpl19]; exact b1)]; rw [show 100 - (k + 1) = 99 - k by omega]; rfl
              have hon := hup
              rw [g2]
              rw [show (k : Int) + 1 = ((k + 1 : Nat) : Int) by omega]
              refine z_iinc (lv' := [(1, .int (iI ((k : Int) + 1))), (0, .ref (e 0))]) ok dX3_readOrders_58 1 rfl (by decide) rfl ?_
              refine z_goto (tgt := 12) ok dX3_readOrders_61 (by decide) ?_
              refine z_lsub ok (lv' := [(0, .ref (e 0)), (1, .int (iI ((k : Int) + 1)))]) [1, 0] rfl ?_
              rw [show (k : Int) + 1 = ((k + 1 : Nat) : Int) by omega]
              exact ih12 (k + 1) _ _ _ _ (hpn) (hbn) (hfn) (hon) (by omega)
            · -- f
              obtain ⟨b1, b2⟩ : ¬ sgn P ln pl_19 = 59 ∧ pl_47 = pl_19 := by rcases hp47 with ⟨a1, a2, a3⟩ | ⟨a1, a2, a3⟩; omega; exact ⟨a1, a3⟩
              have hfe : flt P ln 100 0 0 = (pl_19, (k : Int) + 1) := by rw [hfl]; unfold flC; rw [if_neg (by omega), if_neg (by rw [← hpl19]; exact b1), hpl19]
              have hgg := hor.2.2 g1
              refine z_aload_n ok dX3_readOrders_53 rfl ?_
              refine z_get (v := .int (iI pl_47)) ok zc3 0 rfl 6 (by decide) qf_RX3_32 rfl rfl dX3_readOrders_54 ?_
              exact fin pl_47 (pl_47, od_19, k1_19, f1_19, s1_19) 57 _ _ _ dX3_readOrders_57 (trivial) (⟨by rw [hfe]; exact b2, fun h => by rw [hfe] at h; have h2 : pl_19 = -6 := h; omega, by omega⟩) (by decide) (by decide)
          · -- f
            have hfe : flt P ln 100 0 0 = (-6, (k : Int) + 1) := by rw [hfl]; unfold flC; rw [if_pos (by omega)]
            refine z_bipush ok dX3_readOrders_41 (by decide) ?_
            exact fin (-6) (pl_19, od_19, k1_19, f1_19, s1_19) 43 _ _ _ dX3_readOrders_43 (trivial) (⟨by rw [hfe], fun _ => ⟨by rw [hfe]; exact g2, (by omega : 0 ≤ od_19 ∧ od_19 ≤ 27), by show ordsOK P ln od_19 k1_19 f1_19 s1_19; rw [g2, show (k : Int) + 1 = ((k + 1 : Nat) : Int) by omega]; exact hup⟩, by omega⟩) (by decide) (by decide)
        · -- f
          have hno : ¬ ordOK P ln p2 := by rcases hp19 with ⟨a1, a2, a3, a4, a5, a6, a7⟩ | ⟨a1, a2, a3⟩; omega; exact a1
          rw [h12_0] at hno hpl19 hor
          have hfe := rdO_end hfk hno hpl19
          refine z_aload_n ok dX3_readOrders_25 rfl ?_
          refine z_get (v := .int (iI pl_19)) ok zc3 0 rfl 6 (by decide) qf_RX3_32 rfl rfl dX3_readOrders_26 ?_
          exact fin pl_19 (pl_19, od_19, k1_19, f1_19, s1_19) 29 _ _ _ dX3_readOrders_29 (trivial) (⟨hfe, fun h => by rw [← hfe] at h; omega, by omega⟩) (by decide) (by decide)
  refine z_lsub ok (lv' := [(0, .ref (e 0)), (1, .int (iI 0))]) [1, 0] rfl ?_
  rw [show (0 : Int) = ((0 : Nat) : Int) from rfl]
  exact L12 _ 0 _ _ _ _ (rfl) (⟨(by decide : (3 : Int) * 0 ≤ 0), (by decide : (0 : Int) ≤ 80)⟩) (rfl) (fun j h0 h1 => absurd h1 (by omega)) (Nat.lt_succ_self _)
