set_option maxRecDepth 20000 in
theorem c_X7_put {l : Launch} {Z : zZ} {q : Nat → Nat} {now kept hist : Int → Int} {und : Int} {sav isv pad : Int → Int} {sg it : Int} {far many laid sides stuck ord : Int → Int} {rd pl wr : Int} {a : Int} (ha : 0 ≤ a ∧ a < 18446744073709551616) (hsg : 0 ≤ sg ∧ sg ≤ 80) : zI (T := (Int → Int) × Int) l yX7_put (Cond.code yX7_put cX7_put 7 (some .int) :: wsL_law) ({ frames := 1, cells := 0, slots := 0, locals := 22 } : Room) Z [.ref (q 0), .long (iL a)] (mW Z q now kept hist und sav isv pad sg it far many laid sides stuck ord rd pl wr) (fun u => mW Z q now kept hist und sav isv u.1 u.2 it far many laid sides stuck ord rd pl wr) (fun ρ u => (pcN a = 0 ∧ ρ = -2 ∧ u = (pad, sg)) ∨ (0 < pcN a ∧ 80 < sg + pcN a ∧ ρ = -4 ∧ u = (pad, sg)) ∨ (0 < pcN a ∧ sg + pcN a ≤ 80 ∧ ρ = sg + pcN a ∧ u = (putP pad sg a (pcN a), sg + pcN a))) := by
  refine zI_of (C := RX7) (by decide +kernel) rfl (Nat.le_of_ble_eq_true rfl) (fun _ => True) znI (fun X ok fin => ?_)
  refine z_lsub ok (lv' := [(0, .ref (q 0)), (1, .long (iL a))]) [0, 1] rfl ?_
  refine z_iconst ok dX7_put_0 ?_
  refine z_istore_n (lv' := [(3, .int (iI 0)), (0, .ref (q 0)), (1, .long (iL a))]) ok dX7_put_1 (by decide) rfl ?_
  refine z_lload_n ok dX7_put_2 rfl ?_
  refine z_lstore (lv' := [(4, .long (iL a)), (3, .int (iI 0)), (0, .ref (q 0)), (1, .long (iL a))]) ok dX7_put_3 (by decide) rfl ?_
  have L5 : ∀ (fuel : Nat) (n : Nat) (x : Int), (x = rsh a n) → (∀ j : Nat, j < n → 33 ≤ rsh a j % 256 ∧ rsh a j % 256 ≤ 126) → (n ≤ 8) → (8 - (n : Int)).toNat < fuel → zV X 0 0 (mW Z q now kept hist und sav isv pad sg it far many laid sides stuck ord rd pl wr) 5 [(0, .ref (q 0)), (1, .long (iL a)), (3, .int (iI (n : Int))), (4, .long (iL x))] [] := by
    intro fuel
    induction fuel with
    | zero => intro n x h5_0 h5_1 h5_2 hf; exact absurd hf (Nat.not_lt_zero _)
    | succ fuel ih5 =>
      intro n x h5_0 h5_1 h5_2 hf
      have hxr := rsh_rng ha n
      rw [← h5_0] at hxr
      have hzs := zsg_rng (x % 256)
      have hzx := zsg_rng x
      have h8 : n = 8 → x = 0 := fun z => by rw [h5_0, z]; exact rsh_8 ha
      refine z_lload ok dX7_put_5 rfl ?_
      refine z_ldc2 (v := iL 255) ok ql_RX7_185 dX7_put_7 ?_
      refine z_land255 ok dX7_put_10 (by omega) ?_
      refine z_lconst (v := iL 0) ok dX7_put_11 (by decide) ?_
      refine z_lcmp0 ok dX7_put_12 (by omega) ?_
      refine z_if_eq (tgt := 49) ok dX7_put_13 (by decide) (by omega) (fun c13 => ?_) (fun c13 => ?_)
      · -- t
        refine z_lload ok dX7_put_49 rfl ?_
        refine z_lconst (v := iL 0) ok dX7_put_51 (by decide) ?_
        refine z_lcmp0 ok dX7_put_52 (by omega) ?_
        refine z_if_ne (tgt := 60) ok dX7_put_53 (by decide) (by omega) (fun c53 => ?_) (fun c53 => ?_)
        · -- t
          refine z_bipush ok dX7_put_60 (by decide) ?_
          have hno : pcN a = 0 := pc_bad h5_1 (by rw [← h5_0]; omega) (by rw [← h5_0]; omega)
          exact fin (-2) (pad, sg) 62 _ _ _ dX7_put_62 (trivial) (Or.inl ⟨hno, rfl, rfl⟩) (by decide) (by decide)
        · -- f
          refine z_iload_n ok dX7_put_56 rfl ?_
          refine z_if_ne (tgt := 63) ok dX7_put_57 (by decide) (by omega) (fun c57 => ?_) (fun c57 => ?_)
          · -- t
            have hpc : pcK a n := ⟨by omega, h5_2, h5_1, by rw [← h5_0]; omega⟩
            have hpn := pcN_yes hpc
            refine z_aload_n ok dX7_put_63 rfl ?_
            refine z_get (v := .int (iI sg)) ok zc7 0 rfl 7 (by decide) qf_RX7_152 rfl rfl dX7_put_64 ?_
            refine z_iload_n ok dX7_put_67 rfl ?_
            refine z_iadd ok dX7_put_68 ?_
            refine z_bipush ok dX7_put_69 (by decide) ?_
            refine z_icmp_le (tgt := 77) ok dX7_put_71 (by decide) (by omega) (by omega) (fun c71 => ?_) (fun c71 => ?_)
            · -- t
              refine z_lload_n ok dX7_put_77 rfl ?_
              refine z_lstore (lv' := [(4, .long (iL a)), (0, .ref (q 0)), (1, .long (iL a)), (3, .int (iI (n : Int)))]) ok dX7_put_78 (by decide) rfl ?_
              refine z_iload_n ok dX7_put_80 rfl ?_
              refine z_iconst ok dX7_put_81 ?_
              refine z_isub ok dX7_put_82 ?_
              refine z_istore (lv' := [(6, .int (iI ((n : Int) - 1))), (4, .long (iL a)), (0, .ref (q 0)), (1, .long (iL a)), (3, .int (iI (n : Int)))]) ok dX7_put_83 (by decide) rfl ?_
              have L85 : ∀ (fuel : Nat) (k x2 : Int) (pd : Int → Int), (-1 ≤ k ∧ k < (n : Int)) → (x2 = rsh a (n - 1 - k).toNat) → (∀ j : Int, sg + k < j → j < sg + (n : Int) → pd j = rsh a (n - 1 - (j - sg)).toNat % 256) → (∀ j : Int, (j ≤ sg + k ∨ sg + (n : Int) ≤ j) → pd j = pad j) → (k + 1).toNat < fuel → zV X 0 0 (mW Z q now kept hist und sav isv pd sg it far many laid sides stuck ord rd pl wr) 85 [(0, .ref (q 0)), (1, .long (iL a)), (3, .int (iI (n : Int))), (4, .long (iL x2)), (6, .int (iI k))] [] := by
                intro fuel
                induction fuel with
                | zero => intro k x2 pd h85_0 h85_1 h85_2 h85_3 hf; exact absurd hf (Nat.not_lt_zero _)
                | succ fuel ih85 =>
                  intro k x2 pd h85_0 h85_1 h85_2 h85_3 hf
                  have hx2 := rsh_rng ha (n - 1 - k).toNat
                  rw [← h85_1] at hx2
                  refine z_iload ok dX7_put_85 rfl ?_
                  refine z_if_lt (tgt := 122) ok dX7_put_87 (by decide) (by omega) (fun c87 => ?_) (fun c87 => ?_)
                  · -- t
                    have hk : k = -1 := by omega
                    have hpd : pd = putP pad sg a (pcN a) := by rw [hpn]; exact putP_of (by rw [hk] at h85_2; exact h85_2) (by rw [hk] at h85_3; exact h85_3)
                    refine z_aload_n ok dX7_put_122 rfl ?_
                    refine z_dup ok dX7_put_123 rfl ?_
                    refine z_get (v := .int (iI sg)) ok zc7 0 rfl 7 (by decide) qf_RX7_152 rfl rfl dX7_put_124 ?_
                    refine z_iload_n ok dX7_put_127 rfl ?_
                    refine z_iadd ok dX7_put_128 ?_
                    refine z_put (ws' := mW Z q now kept hist und sav isv pd (sg + (n : Int)) it far many laid sides stuck ord rd pl wr) ok zc7 0 rfl 7 (by decide) qf_RX7_152 rfl rfl rfl rfl (Nat.le_of_ble_eq_true rfl) dX7_put_129 rfl ?_
                    refine z_aload_n ok dX7_put_132 rfl ?_
                    refine z_get (v := .int (iI (sg + (n : Int)))) ok zc7 0 rfl 7 (by decide) qf_RX7_152 rfl rfl dX7_put_133 ?_
                    exact fin (sg + (n : Int)) (pd, sg + (n : Int)) 136 _ _ _ dX7_put_136 (trivial) (Or.inr (Or.inr ⟨by omega, by omega, by omega, by rw [hpd, hpn]⟩)) (by decide) (by decide)
                  · -- f
                    refine z_aload_n ok dX7_put_90 rfl ?_
                    refine z_get (v := .ref (q 6)) ok zc7 0 rfl 6 (by decide) qf_RX7_26 rfl rfl dX7_put_91 ?_
                    refine z_aload_n ok dX7_put_94 rfl ?_
                    refine z_get (v := .int (iI sg)) ok zc7 0 rfl 7 (by decide) qf_RX7_152 rfl rfl dX7_put_95 ?_
                    refine z_iload ok dX7_put_98 rfl ?_
                    refine z_iadd ok dX7_put_100 ?_
                    refine z_lload ok dX7_put_101 rfl ?_
                    refine z_ldc2 (v := iL 255) ok ql_RX7_185 dX7_put_103 ?_
                    refine z_land255 ok dX7_put_106 (by omega) ?_
                    refine z_l2i ok dX7_put_107 (by omega) ?_
                    refine z_iast (f := pd) (v := (x2 % 256)) (ws' := mW Z q now kept hist und sav isv (zu pd (sg + k) (x2 % 256)) sg it far many laid sides stuck ord rd pl wr) ok 6 rfl dX7_put_108 (by omega) (by decide) rfl ?_
                    refine z_lload ok dX7_put_109 rfl ?_
                    refine z_bipush ok dX7_put_111 (by decide) ?_
                    refine z_lushr8 ok dX7_put_113 (by omega) ?_
                    refine z_lstore (lv' := [(4, .long (iL (x2 / 256))), (0, .ref (q 0)), (1, .long (iL a)), (3, .int (iI (n : Int))), (6, .int (iI k))]) ok dX7_put_114 (by decide) rfl ?_
                    refine z_iinc (lv' := [(6, .int (iI (k + (-1)))), (4, .long (iL (x2 / 256))), (0, .ref (q 0)), (1, .long (iL a)), (3, .int (iI (n : Int)))]) ok dX7_put_116 4 rfl (by decide) rfl ?_
                    refine z_goto (tgt := 85) ok dX7_put_119 (by decide) ?_
                    refine z_lsub ok (lv' := [(0, .ref (q 0)), (1, .long (iL a)), (3, .int (iI (n : Int))), (4, .long (iL (x2 / 256))), (6, .int (iI (k + (-1))))]) [2, 3, 4, 1, 0] rfl ?_
                    exact ih85 _ _ _ (by omega) (by rw [show ((n : Int) - 1 - (k + (-1))).toNat = (n - 1 - k).toNat + 1 by omega, h85_1]; rfl) (fun j h0 h1 => (if e : j = sg + k then (by rw [e, zu_s, h85_1, show sg + k - sg = k by omega]) else (by rw [zu_n e]; exact h85_2 j (by omega) h1))) (fun j hj => by rw [zu_n (by omega)]; exact h85_3 j (by omega)) (by omega)
              refine z_lsub ok (lv' := [(0, .ref (q 0)), (1, .long (iL a)), (3, .int (iI (n : Int))), (4, .long (iL a)), (6, .int (iI ((n : Int) - 1)))]) [2, 3, 4, 1, 0] rfl ?_
              exact L85 _ _ _ _ (by omega) (by rw [show ((n : Int) - 1 - ((n : Int) - 1)).toNat = 0 by omega]; rfl) (fun j h0 h1 => absurd h1 (by omega)) (fun j _ => rfl) (Nat.lt_succ_self _)
            · -- f
              refine z_bipush ok dX7_put_74 (by decide) ?_
              exact fin (-4) (pad, sg) 76 _ _ _ dX7_put_76 (trivial) (Or.inr (Or.inl ⟨by omega, by omega, rfl, rfl⟩)) (by decide) (by decide)
          · -- f
            refine z_bipush ok dX7_put_60 (by decide) ?_
            have hno : pcN a = 0 := pc_bad h5_1 (by rw [← h5_0]; omega) (by rw [← h5_0]; omega)
            exact fin (-2) (pad, sg) 62 _ _ _ dX7_put_62 (trivial) (Or.inl ⟨hno, rfl, rfl⟩) (by decide) (by decide)
      · -- f
        have hnz : ¬ x = 0 := fun z => by rw [z] at c13; exact c13 (by decide)
        have hn8 : n ≠ 8 := fun z => hnz (h8 z)
        refine z_lload ok dX7_put_16 rfl ?_
        refine z_ldc2 (v := iL 255) ok ql_RX7_185 dX7_put_18 ?_
        refine z_land255 ok dX7_put_21 (by omega) ?_
        refine z_l2i ok dX7_put_22 (by omega) ?_
        refine z_bipush ok dX7_put_23 (by decide) ?_
        refine z_bipush ok dX7_put_25 (by decide) ?_
        refine z_callSie ok (fun l => c_X7_in  (by omega) (by omega) (by omega)) zm_X7_in qt_X7_in qm_RX7_59 dX7_put_27 (by decide) (by decide) rfl rfl (Nat.le_of_ble_eq_true rfl) (fun ρ _ hρ => ?_)
        subst hρ
        refine z_ifb_ne (tgt := 36) ok dX7_put_30 (by decide) (fun c30 => ?_) (fun c30 => ?_)
        · -- t
          refine z_iinc (lv' := [(3, .int (iI ((n : Int) + 1))), (0, .ref (q 0)), (1, .long (iL a)), (4, .long (iL x))]) ok dX7_put_36 2 rfl (by decide) rfl ?_
          refine z_lload ok dX7_put_39 rfl ?_
          refine z_bipush ok dX7_put_41 (by decide) ?_
          refine z_lushr8 ok dX7_put_43 (by omega) ?_
          refine z_lstore (lv' := [(4, .long (iL (x / 256))), (3, .int (iI ((n : Int) + 1))), (0, .ref (q 0)), (1, .long (iL a))]) ok dX7_put_44 (by decide) rfl ?_
          refine z_goto (tgt := 5) ok dX7_put_46 (by decide) ?_
          refine z_lsub ok (lv' := [(0, .ref (q 0)), (1, .long (iL a)), (3, .int (iI ((n : Int) + 1))), (4, .long (iL (x / 256)))]) [2, 3, 1, 0] rfl ?_
          rw [show (n : Int) + 1 = ((n + 1 : Nat) : Int) by omega]
          exact ih5 (n + 1) _ (by rw [h5_0]; rfl) (fun j hj => (if e : j = n then (by rw [e, ← h5_0]; omega) else h5_1 j (by omega))) (by omega) (by omega)
        · -- f
          refine z_bipush ok dX7_put_33 (by decide) ?_
          have hno : pcN a = 0 := pc_bad h5_1 (by rw [← h5_0]; omega) (Or.inl (by rw [← h5_0]; exact hnz))
          exact fin (-2) (pad, sg) 35 _ _ _ dX7_put_35 (trivial) (Or.inl ⟨hno, rfl, rfl⟩) (by decide) (by decide)
  refine z_lsub ok (lv' := [(0, .ref (q 0)), (1, .long (iL a)), (3, .int (iI 0)), (4, .long (iL a))]) [2, 3, 1, 0] rfl ?_
  rw [show (0 : Int) = ((0 : Nat) : Int) from rfl]
  exact L5 _ 0 a (rfl) (fun j hj => absurd hj (Nat.not_lt_zero j)) (by omega) (Nat.lt_succ_self _)
