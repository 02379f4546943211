set_option maxRecDepth 20000 in
theorem c_X7_farOf {l : Launch} {Z : zZ} {q : Nat → Nat} {now kept hist : Int → Int} {und : Int} {sav isv pad : Int → Int} {sg it : Int} {far many laid sides stuck ord : Int → Int} {rd pl wr : Int} {s to : Int} (hw : wf now) (hs : 0 ≤ s ∧ s < 10 * (now 4 * now 5)) (ht : 0 ≤ to ∧ to < now 4 * now 5) (hca : cacheOK now laid far many) : zI (T := (Int → Int) × (Int → Int) × (Int → Int)) l yX7_farOf (Cond.code yX7_farOf cX7_farOf 3 (some .int) :: wsL_law) ({ frames := 6, cells := 0, slots := 0, locals := 149 } : Room) Z [.ref (q 0), .int (iI s), .int (iI to)] (mW Z q now kept hist und sav isv pad sg it far many laid sides stuck ord rd pl wr) (fun u => mW Z q now kept hist und sav isv pad sg it u.1 u.2.1 u.2.2 sides stuck ord rd pl wr) (fun ρ u => ρ = fr now to s ∧ cacheOK now u.2.2 u.1 u.2.1) := by
  refine zI_of (C := RX7) (by decide +kernel) rfl (Nat.le_of_ble_eq_true rfl) (fun _ => True) znI (fun X ok fin => ?_)
  have hcr := wf_cr hw
  refine z_lsub ok (lv' := [(0, .ref (q 0)), (1, .int (iI s)), (2, .int (iI to))]) [0, 1, 2] rfl ?_
  refine z_aload_n ok dX7_farOf_0 rfl ?_
  refine z_iload_n ok dX7_farOf_1 rfl ?_
  refine z_callVv0 ok (fun l => c_X7_layFar  (hw) (ht) (hca)) zm_X7_layFar zv_X7_layFar qm_RX7_94 dX7_farOf_2 (by decide) (by decide) rfl rfl (Nat.le_of_ble_eq_true rfl) (q0 := 0) rfl rfl rfl (fun u2 hp2 => ?_)
  obtain ⟨far_2, many_2, laid_2⟩ := u2
  try dsimp only at hp2
  obtain ⟨hc2, hx2⟩ := hp2
  refine z_eq (ws' := mW Z q now kept hist und sav isv pad sg it far_2 many_2 laid_2 sides stuck ord rd pl wr) rfl ?_
  refine z_aload_n ok dX7_farOf_5 rfl ?_
  refine z_get (v := .ref (q 7)) ok zc7 0 rfl 9 (by decide) qf_RX7_29 rfl rfl dX7_farOf_6 ?_
  refine z_sipush ok dX7_farOf_9 (by decide) ?_
  refine z_iload_n ok dX7_farOf_12 rfl ?_
  refine z_imul ok dX7_farOf_13 ?_
  refine z_iload_n ok dX7_farOf_14 rfl ?_
  refine z_iadd ok dX7_farOf_15 ?_
  refine z_iald (f := far_2) ok 7 rfl dX7_farOf_16 (by omega) (by decide) ?_
  have hlast := ldn_eq ((hc2 to (by omega) (by omega)).2 hx2 s hs)
  exact fin (far_2 ((250 * to) + s)) (far_2, many_2, laid_2) 17 _ _ _ dX7_farOf_17 (trivial) (⟨by omega, hc2⟩) (by decide) (by decide)
set_option maxRecDepth 20000 in
theorem c_X7_lengthOf {l : Launch} {Z : zZ} {q : Nat → Nat} {now kept hist : Int → Int} {und : Int} {sav isv pad : Int → Int} {sg it : Int} {far many laid sides stuck ord : Int → Int} {rd pl wr : Int} {p : Int} (hw : wf now) (hp : 0 ≤ p ∧ p < now 6) (hca : cacheOK now laid far many) : zI (T := (Int → Int) × (Int → Int) × (Int → Int)) l yX7_lengthOf (Cond.code yX7_lengthOf cX7_lengthOf 2 (some .int) :: wsL_law) ({ frames := 7, cells := 0, slots := 0, locals := 171 } : Room) Z [.ref (q 0), .int (iI p)] (mW Z q now kept hist und sav isv pad sg it far many laid sides stuck ord rd pl wr) (fun u => mW Z q now kept hist und sav isv pad sg it u.1 u.2.1 u.2.2 sides stuck ord rd pl wr) (fun ρ u => ρ = fr now (pk now p 1) (stg now p) ∧ cacheOK now u.2.2 u.1 u.2.1) := by
  refine zI_of (C := RX7) (by decide +kernel) rfl (Nat.le_of_ble_eq_true rfl) (fun _ => True) znI (fun X ok fin => ?_)
  obtain ⟨w0, w1, w2, hc, hr, w6, wl, wp⟩ := id hw
  have hcr := cr_rng hc hr
  have wpp := wp p hp.1 hp.2
  have hst := stg_rng hw hp
  refine z_lsub ok (lv' := [(0, .ref (q 0)), (1, .int (iI p))]) [0, 1] rfl ?_
  refine z_aload_n ok dX7_lengthOf_0 rfl ?_
  refine z_aload_n ok dX7_lengthOf_1 rfl ?_
  refine z_iload_n ok dX7_lengthOf_2 rfl ?_
  refine z_callVi0 ok (fun l => c_X7_standing  (by omega)) zm_X7_standing zv_X7_standing qm_RX7_101 dX7_lengthOf_3 (by decide) (by decide) rfl rfl (Nat.le_of_ble_eq_true rfl) (q0 := 0) rfl rfl rfl (fun ρ _ hρ => ?_)
  subst hρ
  refine z_eq (ws' := mW Z q now kept hist und sav isv pad sg it far many laid sides stuck ord rd pl wr) rfl ?_
  refine z_aload_n ok dX7_lengthOf_6 rfl ?_
  refine z_iload_n ok dX7_lengthOf_7 rfl ?_
  refine z_iconst ok dX7_lengthOf_8 ?_
  refine z_callVi0 ok (fun l => c_X7_of  (by omega) (by omega)) zm_X7_of zv_X7_of qm_RX7_98 dX7_lengthOf_9 (by decide) (by decide) rfl rfl (Nat.le_of_ble_eq_true rfl) (q0 := 0) rfl rfl rfl (fun ρ _ hρ => ?_)
  subst hρ
  refine z_eq (ws' := mW Z q now kept hist und sav isv pad sg it far many laid sides stuck ord rd pl wr) rfl ?_
  refine z_callVi0 ok (fun l => c_X7_farOf  (hw) (by omega) (by omega) (hca)) zm_X7_farOf zv_X7_farOf qm_RX7_105 dX7_lengthOf_12 (by decide) (by decide) rfl rfl (Nat.le_of_ble_eq_true rfl) (q0 := 0) rfl rfl rfl (fun r12 u12 hp12 => ?_)
  obtain ⟨far_12, many_12, laid_12⟩ := u12
  try dsimp only at hp12
  obtain ⟨rfl, hc12⟩ := hp12
  refine z_eq (ws' := mW Z q now kept hist und sav isv pad sg it far_12 many_12 laid_12 sides stuck ord rd pl wr) rfl ?_
  exact fin (fr now (pk now p 1) (stg now p)) (far_12, many_12, laid_12) 15 _ _ _ dX7_lengthOf_15 (trivial) (⟨rfl, hc12⟩) (by decide) (by decide)
set_option maxHeartbeats 4000000 in
set_option maxRecDepth 20000 in
theorem c_X7_laySides {l : Launch} {Z : zZ} {q : Nat → Nat} {now kept hist : Int → Int} {und : Int} {sav isv pad : Int → Int} {sg it : Int} {far many laid sides stuck ord : Int → Int} {rd pl wr : Int} {p : Int} (hw : wf now) (hp : 0 ≤ p ∧ p < now 6) (hca : cacheOK now laid far many) : zI (T := (Int → Int) × (Int → Int) × (Int → Int) × (Int → Int)) l yX7_laySides (Cond.code yX7_laySides cX7_laySides 8 (some .int) :: wsL_law) ({ frames := 7, cells := 0, slots := 0, locals := 171 } : Room) Z [.ref (q 0), .int (iI p)] (mW Z q now kept hist und sav isv pad sg it far many laid sides stuck ord rd pl wr) (fun u => mW Z q now kept hist und sav isv pad sg it u.2.1 u.2.2.1 u.2.2.2 u.1 stuck ord rd pl wr) (fun ρ u => lsd now (pk now p 1) (stg now p) 4 ρ u.1 ∧ cacheOK now u.2.2.2 u.2.1 u.2.2.1) := by
  refine zI_of (C := RX7) (by decide +kernel) rfl (Nat.le_of_ble_eq_true rfl) (fun _ => True) znI (fun X ok fin => ?_)
  obtain ⟨w0, w1, w2, hc, hr, w6, wl, wp⟩ := id hw
  have hcr := cr_rng hc hr
  have wpp := wp p hp.1 hp.2
  have hst := stg_rng hw hp
  refine z_lsub ok (lv' := [(0, .ref (q 0)), (1, .int (iI p))]) [0, 1] rfl ?_
  refine z_iconst ok dX7_laySides_0 ?_
  refine z_istore_n (lv' := [(2, .int (iI 0)), (0, .ref (q 0)), (1, .int (iI p))]) ok dX7_laySides_1 (by decide) rfl ?_
  refine z_aload_n ok dX7_laySides_2 rfl ?_
  refine z_iload_n ok dX7_laySides_3 rfl ?_
  refine z_iconst ok dX7_laySides_4 ?_
  refine z_callVi0 ok (fun l => c_X7_of  (by omega) (by omega)) zm_X7_of zv_X7_of qm_RX7_98 dX7_laySides_5 (by decide) (by decide) rfl rfl (Nat.le_of_ble_eq_true rfl) (q0 := 0) rfl rfl rfl (fun ρ _ hρ => ?_)
  subst hρ
  refine z_eq (ws' := mW Z q now kept hist und sav isv pad sg it far many laid sides stuck ord rd pl wr) rfl ?_
  refine z_istore_n (lv' := [(3, .int (iI (pk now p 1))), (2, .int (iI 0)), (0, .ref (q 0)), (1, .int (iI p))]) ok dX7_laySides_8 (by decide) rfl ?_
  refine z_aload_n ok dX7_laySides_9 rfl ?_
  refine z_iload_n ok dX7_laySides_10 rfl ?_
  refine z_callVi0 ok (fun l => c_X7_standing  (by omega)) zm_X7_standing zv_X7_standing qm_RX7_101 dX7_laySides_11 (by decide) (by decide) rfl rfl (Nat.le_of_ble_eq_true rfl) (q0 := 0) rfl rfl rfl (fun ρ _ hρ => ?_)
  subst hρ
  refine z_eq (ws' := mW Z q now kept hist und sav isv pad sg it far many laid sides stuck ord rd pl wr) rfl ?_
  refine z_istore (lv' := [(4, .int (iI (stg now p))), (3, .int (iI (pk now p 1))), (2, .int (iI 0)), (0, .ref (q 0)), (1, .int (iI p))]) ok dX7_laySides_14 (by decide) rfl ?_
  refine z_iconst ok dX7_laySides_16 ?_
  refine z_istore (lv' := [(5, .int (iI 0)), (4, .int (iI (stg now p))), (3, .int (iI (pk now p 1))), (2, .int (iI 0)), (0, .ref (q 0)), (1, .int (iI p))]) ok dX7_laySides_17 (by decide) rfl ?_
  have L19 : ∀ (fuel : Nat) (d n : Int) (sd : Int → Int) (f m ld : Int → Int), (0 ≤ d) → (d ≤ 4) → (lsd now (pk now p 1) (stg now p) d n sd) → (cacheOK now ld f m) → (4 - d).toNat < fuel → zV X 0 0 (mW Z q now kept hist und sav isv pad sg it f m ld sd stuck ord rd pl wr) 19 [(0, .ref (q 0)), (1, .int (iI p)), (2, .int (iI n)), (3, .int (iI (pk now p 1))), (4, .int (iI (stg now p))), (5, .int (iI d))] [] := by
    intro fuel
    induction fuel with
    | zero => intro d n sd f m ld h19_0 h19_1 h19_2 h19_3 hf; exact absurd hf (Nat.not_lt_zero _)
    | succ fuel ih19 =>
      intro d n sd f m ld h19_0 h19_1 h19_2 h19_3 hf
      refine z_iload ok dX7_laySides_19 rfl ?_
      refine z_iconst ok dX7_laySides_21 ?_
      refine z_icmp_ge (tgt := 130) ok dX7_laySides_22 (by decide) (by omega) (by omega) (fun c22 => ?_) (fun c22 => ?_)
      · -- t
        refine z_iload_n ok dX7_laySides_130 rfl ?_
        have hd4 : d = 4 := by omega
        rw [hd4] at h19_2
        exact fin n (sd, f, m, ld) 131 _ _ _ dX7_laySides_131 (trivial) (⟨h19_2, h19_3⟩) (by decide) (by decide)
      · -- f
        have hdd : 0 ≤ d ∧ d ≤ 3 := ⟨by omega, by omega⟩
        have hmr := mvd_rng (s := (stg now p)) (d := d) (to := (pk now p 1)) hw ⟨by omega, by omega⟩ hdd
        have hls := id h19_2
        obtain ⟨n1, n2, n3, n4, n5⟩ := hls
        refine z_aload_n ok dX7_laySides_25 rfl ?_
        refine z_iload ok dX7_laySides_26 rfl ?_
        refine z_iload ok dX7_laySides_28 rfl ?_
        refine z_iload_n ok dX7_laySides_30 rfl ?_
        refine z_callVi0 ok (fun l => c_X7_moved  (hw) (by omega) (by omega) (by omega)) zm_X7_moved zv_X7_moved qm_RX7_90 dX7_laySides_31 (by decide) (by decide) rfl rfl (Nat.le_of_ble_eq_true rfl) (q0 := 0) rfl rfl rfl (fun ρ _ hρ => ?_)
        subst hρ
        refine z_eq (ws' := mW Z q now kept hist und sav isv pad sg it f m ld sd stuck ord rd pl wr) rfl ?_
        refine z_istore (lv' := [(6, .int (iI (mvd now (stg now p) d (pk now p 1)))), (0, .ref (q 0)), (1, .int (iI p)), (2, .int (iI n)), (3, .int (iI (pk now p 1))), (4, .int (iI (stg now p))), (5, .int (iI d))]) ok dX7_laySides_34 (by decide) rfl ?_
        refine z_iload ok dX7_laySides_36 rfl ?_
        refine z_if_lt (tgt := 124) ok dX7_laySides_38 (by decide) (by omega) (fun c38 => ?_) (fun c38 => ?_)
        · -- t
          have hnp : ¬ pss now (pk now p 1) (stg now p) d := fun z => by have := z.1; omega
          refine z_iinc (lv' := [(5, .int (iI (d + 1))), (6, .int (iI (mvd now (stg now p) d (pk now p 1)))), (0, .ref (q 0)), (1, .int (iI p)), (2, .int (iI n)), (3, .int (iI (pk now p 1))), (4, .int (iI (stg now p)))]) ok dX7_laySides_124 6 rfl (by decide) rfl ?_
          refine z_goto (tgt := 19) ok dX7_laySides_127 (by decide) ?_
          refine z_lsub ok (lv' := [(0, .ref (q 0)), (1, .int (iI p)), (2, .int (iI n)), (3, .int (iI (pk now p 1))), (4, .int (iI (stg now p))), (5, .int (iI (d + 1)))]) [2, 3, 4, 5, 6, 0] rfl ?_
          exact ih19 _ _ _ _ _ _ (by omega) (by omega) (by first | exact hnew | exact lsd_skip h19_2 hnp) (h19_3) (by omega)
        · -- f
          have hfr := fr_rng (to := (pk now p 1)) (s := mvd now (stg now p) d (pk now p 1)) hw (by omega) (by omega)
          refine z_aload_n ok dX7_laySides_41 rfl ?_
          refine z_iload ok dX7_laySides_42 rfl ?_
          refine z_iload_n ok dX7_laySides_44 rfl ?_
          refine z_callVi0 ok (fun l => c_X7_farOf  (hw) (by omega) (by omega) (h19_3)) zm_X7_farOf zv_X7_farOf qm_RX7_105 dX7_laySides_45 (by decide) (by decide) rfl rfl (Nat.le_of_ble_eq_true rfl) (q0 := 0) rfl rfl rfl (fun r45 u45 hp45 => ?_)
          obtain ⟨far_45, many_45, laid_45⟩ := u45
          try dsimp only at hp45
          obtain ⟨rfl, hc45⟩ := hp45
          refine z_eq (ws' := mW Z q now kept hist und sav isv pad sg it far_45 many_45 laid_45 sd stuck ord rd pl wr) rfl ?_
          refine z_if_lt (tgt := 124) ok dX7_laySides_48 (by decide) (by omega) (fun c48 => ?_) (fun c48 => ?_)
          · -- t
            have hnp : ¬ pss now (pk now p 1) (stg now p) d := fun z => by have := z.2; omega
            refine z_iinc (lv' := [(5, .int (iI (d + 1))), (6, .int (iI (mvd now (stg now p) d (pk now p 1)))), (0, .ref (q 0)), (1, .int (iI p)), (2, .int (iI n)), (3, .int (iI (pk now p 1))), (4, .int (iI (stg now p)))]) ok dX7_laySides_124 6 rfl (by decide) rfl ?_
            refine z_goto (tgt := 19) ok dX7_laySides_127 (by decide) ?_
            refine z_lsub ok (lv' := [(0, .ref (q 0)), (1, .int (iI p)), (2, .int (iI n)), (3, .int (iI (pk now p 1))), (4, .int (iI (stg now p))), (5, .int (iI (d + 1)))]) [2, 3, 4, 5, 6, 0] rfl ?_
            exact ih19 _ _ _ _ _ _ (by omega) (by omega) (by first | exact hnew | exact lsd_skip h19_2 hnp) (hc45) (by omega)
          · -- f
            have hps : pss now (pk now p 1) (stg now p) d := ⟨by omega, by omega⟩
            refine z_iload_n ok dX7_laySides_51 rfl ?_
            refine z_istore (lv' := [(7, .int (iI n)), (6, .int (iI (mvd now (stg now p) d (pk now p 1)))), (0, .ref (q 0)), (1, .int (iI p)), (2, .int (iI n)), (3, .int (iI (pk now p 1))), (4, .int (iI (stg now p))), (5, .int (iI d))]) ok dX7_laySides_52 (by decide) rfl ?_
            have L54 : ∀ (fuel : Nat) (k : Int) (sd2 : Int → Int) (f2 m2 ld2 : Int → Int), (lsh now (pk now p 1) (stg now p) d n k sd sd2) → (cacheOK now ld2 f2 m2) → (k).toNat < fuel → zV X 0 0 (mW Z q now kept hist und sav isv pad sg it f2 m2 ld2 sd2 stuck ord rd pl wr) 54 [(0, .ref (q 0)), (1, .int (iI p)), (2, .int (iI n)), (3, .int (iI (pk now p 1))), (4, .int (iI (stg now p))), (5, .int (iI d)), (6, .int (iI (mvd now (stg now p) d (pk now p 1)))), (7, .int (iI k))] [] := by
              intro fuel
              induction fuel with
              | zero => intro k sd2 f2 m2 ld2 h54_0 h54_1 hf; exact absurd hf (Nat.not_lt_zero _)
              | succ fuel ih54 =>
                intro k sd2 f2 m2 ld2 h54_0 h54_1 hf
                have hsh := id h54_0
                obtain ⟨k1, k2, k3, k4⟩ := hsh
                refine z_iload ok dX7_laySides_54 rfl ?_
                refine z_if_le (tgt := 112) ok dX7_laySides_56 (by decide) (by omega) (fun c56 => ?_) (fun c56 => ?_)
                · -- t
                  have hnew := lsh_end h19_2 h54_0 hps h19_0 (by first | exact Or.inl (by omega) | exact Or.inr (c87))
                  refine z_aload_n ok dX7_laySides_112 rfl ?_
                  refine z_get (v := .ref (q 10)) ok zc7 0 rfl 12 (by decide) qf_RX7_38 rfl rfl dX7_laySides_113 ?_
                  refine z_iload ok dX7_laySides_116 rfl ?_
                  refine z_iload ok dX7_laySides_118 rfl ?_
                  refine z_iast (f := sd2) (v := d) (ws' := mW Z q now kept hist und sav isv pad sg it f2 m2 ld2 (zu sd2 k d) stuck ord rd pl wr) ok 10 rfl dX7_laySides_120 (by omega) (by decide) rfl ?_
                  refine z_iinc (lv' := [(2, .int (iI (n + 1))), (0, .ref (q 0)), (1, .int (iI p)), (3, .int (iI (pk now p 1))), (4, .int (iI (stg now p))), (5, .int (iI d)), (6, .int (iI (mvd now (stg now p) d (pk now p 1)))), (7, .int (iI k))]) ok dX7_laySides_121 2 rfl (by decide) rfl ?_
                  refine z_iinc (lv' := [(5, .int (iI (d + 1))), (2, .int (iI (n + 1))), (0, .ref (q 0)), (1, .int (iI p)), (3, .int (iI (pk now p 1))), (4, .int (iI (stg now p))), (6, .int (iI (mvd now (stg now p) d (pk now p 1)))), (7, .int (iI k))]) ok dX7_laySides_124 5 rfl (by decide) rfl ?_
                  refine z_goto (tgt := 19) ok dX7_laySides_127 (by decide) ?_
                  refine z_lsub ok (lv' := [(0, .ref (q 0)), (1, .int (iI p)), (2, .int (iI (n + 1))), (3, .int (iI (pk now p 1))), (4, .int (iI (stg now p))), (5, .int (iI (d + 1)))]) [2, 3, 1, 4, 5, 0] rfl ?_
                  exact ih19 _ _ _ _ _ _ (by omega) (by omega) (by first | exact hnew | exact lsd_skip h19_2 hnp) (h54_1) (by omega)
                · -- f
                  have e1 := k3 (k - 1) (by omega) (by omega)
                  have n3k := n3 (k - 1) (by omega) (by omega)
                  rw [← e1] at n3k
                  have hmr2 := mvd_rng (s := (stg now p)) (d := sd2 (k - 1)) (to := (pk now p 1)) hw ⟨by omega, by omega⟩ ⟨by omega, by omega⟩
                  have hps2 := n3k.2.2.1
                  have hps3 := n3k.2.2.2
                  have hfr2 := fr_rng (to := (pk now p 1)) (s := mvd now (stg now p) (sd2 (k - 1)) (pk now p 1)) hw (by omega) (by omega)
                  refine z_aload_n ok dX7_laySides_59 rfl ?_
                  refine z_aload_n ok dX7_laySides_60 rfl ?_
                  refine z_iload ok dX7_laySides_61 rfl ?_
                  refine z_aload_n ok dX7_laySides_63 rfl ?_
                  refine z_get (v := .ref (q 10)) ok zc7 0 rfl 12 (by decide) qf_RX7_38 rfl rfl dX7_laySides_64 ?_
                  refine z_iload ok dX7_laySides_67 rfl ?_
                  refine z_iconst ok dX7_laySides_69 ?_
                  refine z_isub ok dX7_laySides_70 ?_
                  refine z_iald (f := sd2) ok 10 rfl dX7_laySides_71 (by omega) (by decide) ?_
                  refine z_iload_n ok dX7_laySides_72 rfl ?_
                  refine z_callVi0 ok (fun l => c_X7_moved  (hw) (by omega) (by omega) (by omega)) zm_X7_moved zv_X7_moved qm_RX7_90 dX7_laySides_73 (by decide) (by decide) rfl rfl (Nat.le_of_ble_eq_true rfl) (q0 := 0) rfl rfl rfl (fun ρ _ hρ => ?_)
                  subst hρ
                  refine z_eq (ws' := mW Z q now kept hist und sav isv pad sg it f2 m2 ld2 sd2 stuck ord rd pl wr) rfl ?_
                  refine z_iload_n ok dX7_laySides_76 rfl ?_
                  refine z_callVi0 ok (fun l => c_X7_farOf  (hw) (by omega) (by omega) (h54_1)) zm_X7_farOf zv_X7_farOf qm_RX7_105 dX7_laySides_77 (by decide) (by decide) rfl rfl (Nat.le_of_ble_eq_true rfl) (q0 := 0) rfl rfl rfl (fun r77 u77 hp77 => ?_)
                  obtain ⟨far_77, many_77, laid_77⟩ := u77
                  try dsimp only at hp77
                  obtain ⟨rfl, hc77⟩ := hp77
                  refine z_eq (ws' := mW Z q now kept hist und sav isv pad sg it far_77 many_77 laid_77 sd2 stuck ord rd pl wr) rfl ?_
                  refine z_aload_n ok dX7_laySides_80 rfl ?_
                  refine z_iload ok dX7_laySides_81 rfl ?_
                  refine z_iload_n ok dX7_laySides_83 rfl ?_
                  refine z_callVi0 ok (fun l => c_X7_farOf  (hw) (by omega) (by omega) (hc77)) zm_X7_farOf zv_X7_farOf qm_RX7_105 dX7_laySides_84 (by decide) (by decide) rfl rfl (Nat.le_of_ble_eq_true rfl) (q0 := 0) rfl rfl rfl (fun r84 u84 hp84 => ?_)
                  obtain ⟨far_84, many_84, laid_84⟩ := u84
                  try dsimp only at hp84
                  obtain ⟨rfl, hc84⟩ := hp84
                  refine z_eq (ws' := mW Z q now kept hist und sav isv pad sg it far_84 many_84 laid_84 sd2 stuck ord rd pl wr) rfl ?_
                  refine z_icmp_le (tgt := 112) ok dX7_laySides_87 (by decide) (by omega) (by omega) (fun c87 => ?_) (fun c87 => ?_)
                  · -- t
                    have hnew := lsh_end h19_2 h54_0 hps h19_0 (by first | exact Or.inl (by omega) | exact Or.inr (c87))
                    refine z_aload_n ok dX7_laySides_112 rfl ?_
                    refine z_get (v := .ref (q 10)) ok zc7 0 rfl 12 (by decide) qf_RX7_38 rfl rfl dX7_laySides_113 ?_
                    refine z_iload ok dX7_laySides_116 rfl ?_
                    refine z_iload ok dX7_laySides_118 rfl ?_
                    refine z_iast (f := sd2) (v := d) (ws' := mW Z q now kept hist und sav isv pad sg it far_84 many_84 laid_84 (zu sd2 k d) stuck ord rd pl wr) ok 10 rfl dX7_laySides_120 (by omega) (by decide) rfl ?_
                    refine z_iinc (lv' := [(2, .int (iI (n + 1))), (0, .ref (q 0)), (1, .int (iI p)), (3, .int (iI (pk now p 1))), (4, .int (iI (stg now p))), (5, .int (iI d)), (6, .int (iI (mvd now (stg now p) d (pk now p 1)))), (7, .int (iI k))]) ok dX7_laySides_121 2 rfl (by decide) rfl ?_
                    refine z_iinc (lv' := [(5, .int (iI (d + 1))), (2, .int (iI (n + 1))), (0, .ref (q 0)), (1, .int (iI p)), (3, .int (iI (pk now p 1))), (4, .int (iI (stg now p))), (6, .int (iI (mvd now (stg now p) d (pk now p 1)))), (7, .int (iI k))]) ok dX7_laySides_124 5 rfl (by decide) rfl ?_
                    refine z_goto (tgt := 19) ok dX7_laySides_127 (by decide) ?_
                    refine z_lsub ok (lv' := [(0, .ref (q 0)), (1, .int (iI p)), (2, .int (iI (n + 1))), (3, .int (iI (pk now p 1))), (4, .int (iI (stg now p))), (5, .int (iI (d + 1)))]) [2, 3, 1, 4, 5, 0] rfl ?_
                    exact ih19 _ _ _ _ _ _ (by omega) (by omega) (by first | exact hnew | exact lsd_skip h19_2 hnp) (hc84) (by omega)
                  · -- f
                    refine z_aload_n ok dX7_laySides_90 rfl ?_
                    refine z_get (v := .ref (q 10)) ok zc7 0 rfl 12 (by decide) qf_RX7_38 rfl rfl dX7_laySides_91 ?_
                    refine z_iload ok dX7_laySides_94 rfl ?_
                    refine z_aload_n ok dX7_laySides_96 rfl ?_
                    refine z_get (v := .ref (q 10)) ok zc7 0 rfl 12 (by decide) qf_RX7_38 rfl rfl dX7_laySides_97 ?_
                    refine z_iload ok dX7_laySides_100 rfl ?_
                    refine z_iconst ok dX7_laySides_102 ?_
                    refine z_isub ok dX7_laySides_103 ?_
                    refine z_iald (f := sd2) ok 10 rfl dX7_laySides_104 (by omega) (by decide) ?_
                    refine z_iast (f := sd2) (v := sd2 (k - 1)) (ws' := mW Z q now kept hist und sav isv pad sg it far_84 many_84 laid_84 (zu sd2 k (sd2 (k - 1))) stuck ord rd pl wr) ok 10 rfl dX7_laySides_105 (by omega) (by decide) rfl ?_
                    refine z_iinc (lv' := [(7, .int (iI (k + (-1)))), (0, .ref (q 0)), (1, .int (iI p)), (2, .int (iI n)), (3, .int (iI (pk now p 1))), (4, .int (iI (stg now p))), (5, .int (iI d)), (6, .int (iI (mvd now (stg now p) d (pk now p 1))))]) ok dX7_laySides_106 7 rfl (by decide) rfl ?_
                    refine z_goto (tgt := 54) ok dX7_laySides_109 (by decide) ?_
                    refine z_lsub ok (lv' := [(0, .ref (q 0)), (1, .int (iI p)), (2, .int (iI n)), (3, .int (iI (pk now p 1))), (4, .int (iI (stg now p))), (5, .int (iI d)), (6, .int (iI (mvd now (stg now p) d (pk now p 1)))), (7, .int (iI (k + (-1))))]) [1, 2, 3, 4, 5, 6, 7, 0] rfl ?_
                    exact ih54 _ _ _ _ _ (lsh_s h54_0 c56 c87) (hc84) (by omega)
            refine z_lsub ok (lv' := [(0, .ref (q 0)), (1, .int (iI p)), (2, .int (iI n)), (3, .int (iI (pk now p 1))), (4, .int (iI (stg now p))), (5, .int (iI d)), (6, .int (iI (mvd now (stg now p) d (pk now p 1)))), (7, .int (iI n))]) [2, 3, 4, 5, 6, 7, 1, 0] rfl ?_
            exact L54 _ _ _ _ _ _ (lsh_0 h19_2.1) (hc45) (Nat.lt_succ_self _)
  refine z_lsub ok (lv' := [(0, .ref (q 0)), (1, .int (iI p)), (2, .int (iI 0)), (3, .int (iI (pk now p 1))), (4, .int (iI (stg now p))), (5, .int (iI 0))]) [4, 5, 3, 2, 1, 0] rfl ?_
  exact L19 _ _ _ _ _ _ _ (by omega) (by omega) (lsd_0) (hca) (Nat.lt_succ_self _)
