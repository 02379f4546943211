set_option maxRecDepth 20000 in
theorem c_X7_faultOf {l : Launch} {Z : zZ} {q : Nat → Nat} {now kept hist : Int → Int} {und : Int} {sav isv pad : Int → Int} {sg it : Int} {far many laid sides stuck ord : Int → Int} {rd pl wr : Int} (hpd : padOK pad sg) : zI (T := (Int → Int) × Int × Int × Int) l yX7_faultOf (Cond.code yX7_faultOf cX7_faultOf 1 (some .int) :: wsL_law) ({ frames := 3, cells := 0, slots := 0, locals := 65 } : Room) Z [.ref (q 0)] (mW Z q now kept hist und sav isv pad sg it far many laid sides stuck ord rd pl wr) (fun u => mW Z q now kept hist und sav isv pad sg it far many laid sides stuck u.1 u.2.2.2 u.2.1 u.2.2.1) (fun ρ u => ρ = (flt pad sg 100 0 0).1 ∧ ((flt pad sg 100 0 0).1 = -6 → u.2.2.2 = (flt pad sg 100 0 0).2 ∧ ordsOK pad sg u.2.2.2 (ord0 u.1) (ord1 u.1) (ord2 u.1) ∧ 0 ≤ u.2.2.2 ∧ u.2.2.2 ≤ 40) ∧ (-6 ≤ (flt pad sg 100 0 0).1 ∧ (flt pad sg 100 0 0).1 ≤ 200)) := by
  refine zI_of (C := RX7) (by decide +kernel) rfl (Nat.le_of_ble_eq_true rfl) (fun _ => True) znI (fun X ok fin => ?_)
  have hsg := hpd.1
  refine z_lsub ok (lv' := [(0, .ref (q 0))]) [0] rfl ?_
  refine z_aload_n ok dX7_faultOf_0 rfl ?_
  refine z_iconst ok dX7_faultOf_1 ?_
  refine z_put (ws' := mW Z q now kept hist und sav isv pad sg it far many laid sides stuck ord rd 0 wr) ok zc7 0 rfl 16 (by decide) qf_RX7_164 rfl rfl rfl rfl (Nat.le_of_ble_eq_true rfl) dX7_faultOf_2 rfl ?_
  refine z_aload_n ok dX7_faultOf_5 rfl ?_
  refine z_iconst ok dX7_faultOf_6 ?_
  refine z_put (ws' := mW Z q now kept hist und sav isv pad sg it far many laid sides stuck ord 0 0 wr) ok zc7 0 rfl 15 (by decide) qf_RX7_173 rfl rfl rfl rfl (Nat.le_of_ble_eq_true rfl) dX7_faultOf_7 rfl ?_
  refine z_aload_n ok dX7_faultOf_10 rfl ?_
  refine z_iconst ok dX7_faultOf_11 ?_
  refine z_put (ws' := mW Z q now kept hist und sav isv pad sg it far many laid sides stuck ord 0 0 0) ok zc7 0 rfl 17 (by decide) qf_RX7_170 rfl rfl (znZ _ (by first | decide | exact zb_01 _ | omega)) (zfZ _ (by first | decide | exact zb_01 _ | omega)) (Nat.le_of_ble_eq_true rfl) dX7_faultOf_12 rfl ?_
  refine z_aload_n ok dX7_faultOf_15 rfl ?_
  refine z_callVv0 ok (fun l => c_X7_readOne  (by omega) (by omega) (by omega)) zm_X7_readOne zv_X7_readOne qm_RX7_182 dX7_faultOf_16 (by decide) (by decide) rfl rfl (Nat.le_of_ble_eq_true rfl) (q0 := 0) rfl rfl rfl (fun u16 hp16 => ?_)
  obtain ⟨ord_16, pl_16, wr_16, rd_16⟩ := u16
  try dsimp only at hp16
  obtain ⟨e116, e216, e316, e416, e516, e616⟩ := hp16
  refine z_eq (ws' := mW Z q now kept hist und sav isv pad sg it far many laid sides stuck ord_16 rd_16 pl_16 wr_16) rfl ?_
  have L19 : ∀ (fuel : Nat) (k : Nat) (od : Int → Int) (p w r : Int), ((w = 0 ∧ flA pad sg k p r od) ∨ (w = 1 ∧ (flt pad sg 100 0 0).1 = p)) → (0 ≤ p ∧ p ≤ 110) → (0 ≤ r ∧ r ≤ 40) → ((k : Int) ≤ 27) → (2 * (200 - p) - w).toNat < fuel → zV X 0 0 (mW Z q now kept hist und sav isv pad sg it far many laid sides stuck od r p w) 19 [(0, .ref (q 0))] [] := by
    intro fuel
    induction fuel with
    | zero => intro k od p w r h19_0 h19_1 h19_2 h19_3 hf; exact absurd hf (Nat.not_lt_zero _)
    | succ fuel ih19 =>
      intro k od p w r h19_0 h19_1 h19_2 h19_3 hf
      refine z_aload_n ok dX7_faultOf_19 rfl ?_
      refine z_get (v := .int (iI w)) ok zc7 0 rfl 17 (by decide) qf_RX7_170 rfl rfl dX7_faultOf_20 ?_
      refine z_if_ne (tgt := 79) ok dX7_faultOf_23 (by decide) (by omega) (fun c23 => ?_) (fun c23 => ?_)
      · -- t
        refine z_aload_n ok dX7_faultOf_79 rfl ?_
        refine z_get (v := .int (iI w)) ok zc7 0 rfl 17 (by decide) qf_RX7_170 rfl rfl dX7_faultOf_80 ?_
        refine z_if_eq (tgt := 93) ok dX7_faultOf_83 (by decide) (by omega) (fun c83 => ?_) (fun c83 => ?_)
        · -- t
          refine z_bipush ok dX7_faultOf_93 (by decide) ?_
          have hB : (w = 1 ∧ (flt pad sg 100 0 0).1 = p) ∨ (w = 0 ∧ sg ≤ p ∧ flA pad sg k p r od) := by rcases h19_0 with ⟨z1, z2⟩ | ⟨z1, z2⟩; (exact Or.inr ⟨z1, by omega, z2⟩); (exact Or.inl ⟨z1, z2⟩)
          exact fin (-6) (od, p, w, r) 95 _ _ _ dX7_faultOf_95 (trivial) (by rcases hB with ⟨z1, z2⟩ | ⟨z1, z2, z3⟩; (first | (exfalso; omega) | exact ⟨z2.symm, fun e => absurd e (by omega), by omega⟩); (have z4 := fl_end z3 z2; first | (exfalso; omega) | exact ⟨by rw [z4.1], fun _ => ⟨by rw [z4.1], z4.2, h19_2.1, h19_2.2⟩, by rw [z4.1]; show -6 ≤ (-6 : Int) ∧ (-6 : Int) ≤ 200; decide⟩)) (by decide) (by decide)
        · -- f
          refine z_aload_n ok dX7_faultOf_86 rfl ?_
          refine z_get (v := .int (iI p)) ok zc7 0 rfl 16 (by decide) qf_RX7_164 rfl rfl dX7_faultOf_87 ?_
          refine z_goto (tgt := 95) ok dX7_faultOf_90 (by decide) ?_
          have hB : (w = 1 ∧ (flt pad sg 100 0 0).1 = p) ∨ (w = 0 ∧ sg ≤ p ∧ flA pad sg k p r od) := by rcases h19_0 with ⟨z1, z2⟩ | ⟨z1, z2⟩; (exact Or.inr ⟨z1, by omega, z2⟩); (exact Or.inl ⟨z1, z2⟩)
          exact fin p (od, p, w, r) 95 _ _ _ dX7_faultOf_95 (trivial) (by rcases hB with ⟨z1, z2⟩ | ⟨z1, z2, z3⟩; (first | (exfalso; omega) | exact ⟨z2.symm, fun e => absurd e (by omega), by omega⟩); (have z4 := fl_end z3 z2; first | (exfalso; omega) | exact ⟨by rw [z4.1], fun _ => ⟨by rw [z4.1], z4.2, h19_2.1, h19_2.2⟩, by rw [z4.1]; show -6 ≤ (-6 : Int) ∧ (-6 : Int) ≤ 200; decide⟩)) (by decide) (by decide)
      · -- f
        have hA := (h19_0.resolve_right (fun z => by have := z.1; omega)).2
        have hsp := sgn_rng hpd h19_1.1
        refine z_aload_n ok dX7_faultOf_26 rfl ?_
        refine z_get (v := .int (iI p)) ok zc7 0 rfl 16 (by decide) qf_RX7_164 rfl rfl dX7_faultOf_27 ?_
        refine z_aload_n ok dX7_faultOf_30 rfl ?_
        refine z_get (v := .int (iI sg)) ok zc7 0 rfl 7 (by decide) qf_RX7_152 rfl rfl dX7_faultOf_31 ?_
        refine z_icmp_ge (tgt := 79) ok dX7_faultOf_34 (by decide) (by omega) (by omega) (fun c34 => ?_) (fun c34 => ?_)
        · -- t
          refine z_aload_n ok dX7_faultOf_79 rfl ?_
          refine z_get (v := .int (iI w)) ok zc7 0 rfl 17 (by decide) qf_RX7_170 rfl rfl dX7_faultOf_80 ?_
          refine z_if_eq (tgt := 93) ok dX7_faultOf_83 (by decide) (by omega) (fun c83 => ?_) (fun c83 => ?_)
          · -- t
            refine z_bipush ok dX7_faultOf_93 (by decide) ?_
            have hB : (w = 1 ∧ (flt pad sg 100 0 0).1 = p) ∨ (w = 0 ∧ sg ≤ p ∧ flA pad sg k p r od) := by rcases h19_0 with ⟨z1, z2⟩ | ⟨z1, z2⟩; (exact Or.inr ⟨z1, by omega, z2⟩); (exact Or.inl ⟨z1, z2⟩)
            exact fin (-6) (od, p, w, r) 95 _ _ _ dX7_faultOf_95 (trivial) (by rcases hB with ⟨z1, z2⟩ | ⟨z1, z2, z3⟩; (first | (exfalso; omega) | exact ⟨z2.symm, fun e => absurd e (by omega), by omega⟩); (have z4 := fl_end z3 z2; first | (exfalso; omega) | exact ⟨by rw [z4.1], fun _ => ⟨by rw [z4.1], z4.2, h19_2.1, h19_2.2⟩, by rw [z4.1]; show -6 ≤ (-6 : Int) ∧ (-6 : Int) ≤ 200; decide⟩)) (by decide) (by decide)
          · -- f
            refine z_aload_n ok dX7_faultOf_86 rfl ?_
            refine z_get (v := .int (iI p)) ok zc7 0 rfl 16 (by decide) qf_RX7_164 rfl rfl dX7_faultOf_87 ?_
            refine z_goto (tgt := 95) ok dX7_faultOf_90 (by decide) ?_
            have hB : (w = 1 ∧ (flt pad sg 100 0 0).1 = p) ∨ (w = 0 ∧ sg ≤ p ∧ flA pad sg k p r od) := by rcases h19_0 with ⟨z1, z2⟩ | ⟨z1, z2⟩; (exact Or.inr ⟨z1, by omega, z2⟩); (exact Or.inl ⟨z1, z2⟩)
            exact fin p (od, p, w, r) 95 _ _ _ dX7_faultOf_95 (trivial) (by rcases hB with ⟨z1, z2⟩ | ⟨z1, z2, z3⟩; (first | (exfalso; omega) | exact ⟨z2.symm, fun e => absurd e (by omega), by omega⟩); (have z4 := fl_end z3 z2; first | (exfalso; omega) | exact ⟨by rw [z4.1], fun _ => ⟨by rw [z4.1], z4.2, h19_2.1, h19_2.2⟩, by rw [z4.1]; show -6 ≤ (-6 : Int) ∧ (-6 : Int) ≤ 200; decide⟩)) (by decide) (by decide)
        · -- f
          refine z_aload_n ok dX7_faultOf_37 rfl ?_
          refine z_aload_n ok dX7_faultOf_38 rfl ?_
          refine z_callVi0 ok (fun l => c_X7_sign  (by omega) (by omega)) zm_X7_sign zv_X7_sign qm_RX7_167 dX7_faultOf_39 (by decide) (by decide) rfl rfl (Nat.le_of_ble_eq_true rfl) (q0 := 0) rfl rfl rfl (fun ρ _ hρ => ?_)
          subst hρ
          refine z_eq (ws' := mW Z q now kept hist und sav isv pad sg it far many laid sides stuck od r p w) rfl ?_
          refine z_bipush ok dX7_faultOf_42 (by decide) ?_
          refine z_icmp_eq (tgt := 51) ok dX7_faultOf_44 (by decide) (by omega) (by omega) (fun c44 => ?_) (fun c44 => ?_)
          · -- t
            refine z_iconst ok dX7_faultOf_51 ?_
            refine z_put (ws' := mW Z q now kept hist und sav isv pad sg it far many laid sides stuck od r p 0) ok zc7 0 rfl 17 (by decide) qf_RX7_170 rfl rfl (znZ _ (by first | decide | exact zb_01 _ | omega)) (zfZ _ (by first | decide | exact zb_01 _ | omega)) (Nat.le_of_ble_eq_true rfl) dX7_faultOf_52 rfl ?_
            refine z_aload_n ok dX7_faultOf_55 rfl ?_
            refine z_get (v := .int (iI 0)) ok zc7 0 rfl 17 (by decide) qf_RX7_170 rfl rfl dX7_faultOf_56 ?_
            refine z_if_ne (tgt := 19) ok dX7_faultOf_59 (by decide) (by omega) (fun c59 => ?_) (fun c59 => ?_)
            · -- t
              exact absurd c59 (by decide)
            · -- f
              refine z_aload_n ok dX7_faultOf_62 rfl ?_
              refine z_dup ok dX7_faultOf_63 rfl ?_
              refine z_get (v := .int (iI p)) ok zc7 0 rfl 16 (by decide) qf_RX7_164 rfl rfl dX7_faultOf_64 ?_
              refine z_iconst ok dX7_faultOf_67 ?_
              refine z_iadd ok dX7_faultOf_68 ?_
              refine z_put (ws' := mW Z q now kept hist und sav isv pad sg it far many laid sides stuck od r (p + 1) 0) ok zc7 0 rfl 16 (by decide) qf_RX7_164 rfl rfl rfl rfl (Nat.le_of_ble_eq_true rfl) dX7_faultOf_69 rfl ?_
              refine z_aload_n ok dX7_faultOf_72 rfl ?_
              refine z_callVv0 ok (fun l => c_X7_readOne  (by omega) (by omega) (by omega)) zm_X7_readOne zv_X7_readOne qm_RX7_182 dX7_faultOf_73 (by decide) (by decide) rfl rfl (Nat.le_of_ble_eq_true rfl) (q0 := 0) rfl rfl rfl (fun u73 hp73 => ?_)
              obtain ⟨ord_73, pl_73, wr_73, rd_73⟩ := u73
              try dsimp only at hp73
              obtain ⟨e173, e273, e373, e473, e573, e673⟩ := hp73
              refine z_eq (ws' := mW Z q now kept hist und sav isv pad sg it far many laid sides stuck ord_73 rd_73 pl_73 wr_73) rfl ?_
              refine z_goto (tgt := 19) ok dX7_faultOf_76 (by decide) ?_
              refine z_lsub ok (lv' := [(0, .ref (q 0))]) [0] rfl ?_
              first | (have hnx := fl_next hA c34 hsg.2 c44; have hor := ord_rng hpd (i := p + 1) ⟨by omega, by omega⟩; have hrk : r = ((k + 1 : Nat) : Int) := by have := hA.1; omega) | skip
              exact ih19 (k + 1) _ _ _ _ (fl_in (od := od) hpd hnx.1 hnx.2 (by have h2 := hA.2.1; exact h2) (by rw [hA.2.2.2.2.2]; exact e173) (by rw [hA.2.2.2.2.2]; exact e273) (by rw [hA.2.2.2.2.2, ← hrk]; intro z; have y := e373 z; exact y) (by rw [← hrk]; exact e473)) (by omega) (by omega) (by omega) (by have hz := zb_rng (¬ ordOK pad sg (p + 1)); omega)
          · -- f
            refine z_iconst ok dX7_faultOf_47 ?_
            refine z_goto (tgt := 52) ok dX7_faultOf_48 (by decide) ?_
            refine z_put (ws' := mW Z q now kept hist und sav isv pad sg it far many laid sides stuck od r p 1) ok zc7 0 rfl 17 (by decide) qf_RX7_170 rfl rfl (znZ _ (by first | decide | exact zb_01 _ | omega)) (zfZ _ (by first | decide | exact zb_01 _ | omega)) (Nat.le_of_ble_eq_true rfl) dX7_faultOf_52 rfl ?_
            refine z_aload_n ok dX7_faultOf_55 rfl ?_
            refine z_get (v := .int (iI 1)) ok zc7 0 rfl 17 (by decide) qf_RX7_170 rfl rfl dX7_faultOf_56 ?_
            refine z_if_ne (tgt := 19) ok dX7_faultOf_59 (by decide) (by omega) (fun c59 => ?_) (fun c59 => ?_)
            · -- t
              refine z_lsub ok (lv' := [(0, .ref (q 0))]) [0] rfl ?_
              first | (have hnx := fl_next hA c34 hsg.2 c44; have hor := ord_rng hpd (i := p + 1) ⟨by omega, by omega⟩; have hrk : r = ((k + 1 : Nat) : Int) := by have := hA.1; omega) | skip
              exact ih19 k _ _ _ _ (Or.inr ⟨rfl, fl_bad hA c34 c44⟩) (by omega) (by omega) (by omega) (by omega)
            · -- f
              exact absurd c59 (by decide)
  refine z_lsub ok (lv' := [(0, .ref (q 0))]) [0] rfl ?_
  have hor := ord_rng hpd (i := 0) ⟨by omega, by omega⟩
  exact L19 _ 0 _ _ _ _ (fl_in (od := ord) hpd ⟨by show 3 * ((0 : Nat) : Int) ≤ 0; decide, by show (0 : Int) ≤ 81; decide⟩ rfl (fun j h0 h1 => absurd h1 (by omega)) e116 e216 e316 (fun x hx => e416 x hx)) (by omega) (by omega) (by decide) (Nat.lt_succ_self _)
set_option maxRecDepth 20000 in
theorem c_X7_fault {l : Launch} {Z : zZ} {q : Nat → Nat} {now kept hist : Int → Int} {und : Int} {sav isv pad : Int → Int} {sg it : Int} {far many laid sides stuck ord : Int → Int} {rd pl wr : Int} (hpd : padOK pad sg) : zI (T := (Int → Int) × Int × Int × Int) l yX7_fault (Cond.code yX7_fault cX7_fault 1 (some .int) :: wsL_law) ({ frames := 4, cells := 0, slots := 0, locals := 85 } : Room) Z [.ref (q 0)] (mW Z q now kept hist und sav isv pad sg it far many laid sides stuck ord rd pl wr) (fun u => mW Z q now kept hist und sav isv pad sg it far many laid sides stuck u.1 u.2.2.2 u.2.1 u.2.2.1) (fun ρ u => ρ = (flt pad sg 100 0 0).1 ∧ ((flt pad sg 100 0 0).1 = -6 → u.2.2.2 = (flt pad sg 100 0 0).2 ∧ ordsOK pad sg u.2.2.2 (ord0 u.1) (ord1 u.1) (ord2 u.1) ∧ 0 ≤ u.2.2.2 ∧ u.2.2.2 ≤ 40) ∧ (-6 ≤ (flt pad sg 100 0 0).1 ∧ (flt pad sg 100 0 0).1 ≤ 200)) := by
  refine zI_of (C := RX7) (by decide +kernel) rfl (Nat.le_of_ble_eq_true rfl) (fun _ => True) znI (fun X ok fin => ?_)
  refine z_lsub ok (lv' := [(0, .ref (q 0))]) [0] rfl ?_
  refine z_aload_n ok dX7_fault_0 rfl ?_
  refine z_callVi0 ok (fun l => c_X7_faultOf  (by omega)) zm_X7_faultOf zv_X7_faultOf qm_RX7_187 dX7_fault_1 (by decide) (by decide) rfl rfl (Nat.le_of_ble_eq_true rfl) (q0 := 0) rfl rfl rfl (fun r1 u1 hp1 => ?_)
  obtain ⟨ord_1, pl_1, wr_1, rd_1⟩ := u1
  try dsimp only at hp1
  obtain ⟨rfl, ho1, hrg1⟩ := hp1
  refine z_eq (ws' := mW Z q now kept hist und sav isv pad sg it far many laid sides stuck ord_1 rd_1 pl_1 wr_1) rfl ?_
  exact fin ((flt pad sg 100 0 0).1) (ord_1, pl_1, wr_1, rd_1) 4 _ _ _ dX7_fault_4 (trivial) (⟨rfl, ho1, hrg1⟩) (by decide) (by decide)
