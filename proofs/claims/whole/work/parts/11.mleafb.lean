set_option maxRecDepth 20000 in
theorem c_X7_forget {l : Launch} {Z : zZ} {q : Nat → Nat} {now kept hist : Int → Int} {und : Int} {sav isv pad : Int → Int} {sg it : Int} {far many laid sides stuck ord : Int → Int} {rd pl wr : Int}  : zN (T := Unit) l yX7_forget (Cond.code yX7_forget cX7_forget 2 none :: wsL_law) ({ frames := 0, cells := 0, slots := 0, locals := 0 } : Room) Z [.ref (q 0)] (mW Z q now kept hist und sav isv pad sg it far many laid sides stuck ord rd pl wr) (fun _ => mW Z q now kept hist und sav isv pad sg it far many (zcp laid (fun _ => 0) 0 25) sides stuck ord rd pl wr) (fun _ => True) := by
  refine zN_of (C := RX7) (by decide +kernel) rfl (Nat.le_of_ble_eq_true rfl) (fun X ok fin => ?_)
  refine z_lsub ok (lv' := [(0, .ref (q 0))]) [0] rfl ?_
  refine z_iconst ok dX7_forget_0 ?_
  refine z_istore_n (lv' := [(1, .int (iI 0)), (0, .ref (q 0))]) ok dX7_forget_1 (by decide) rfl ?_
  have L2 : ∀ (fuel : Nat) (k : Int) (ld : Int → Int), (0 ≤ k) → (k ≤ 25) → (ld = zcp laid (fun _ => 0) 0 k) → (25 - k).toNat < fuel → zV X 0 0 (mW Z q now kept hist und sav isv pad sg it far many ld sides stuck ord rd pl wr) 2 [(0, .ref (q 0)), (1, .int (iI k))] [] := by
    intro fuel
    induction fuel with
    | zero => intro k ld h2_0 h2_1 h2_2 hf; exact absurd hf (Nat.not_lt_zero _)
    | succ fuel ih2 =>
      intro k ld h2_0 h2_1 h2_2 hf
      refine z_iload_n ok dX7_forget_2 rfl ?_
      refine z_bipush ok dX7_forget_3 (by decide) ?_
      refine z_icmp_ge (tgt := 21) ok dX7_forget_5 (by decide) (by omega) (by omega) (fun c5 => ?_) (fun c5 => ?_)
      · -- t
        have hk : k = 25 := by omega
        subst hk
        subst h2_2
        exact fin () 21 _ _ _ dX7_forget_21 (trivial) (by decide) (by decide)
      · -- f
        refine z_aload_n ok dX7_forget_8 rfl ?_
        refine z_get (v := .ref (q 9)) ok zc7 0 rfl 11 (by decide) qf_RX7_35 rfl rfl dX7_forget_9 ?_
        refine z_iload_n ok dX7_forget_12 rfl ?_
        refine z_iconst ok dX7_forget_13 ?_
        refine z_zast (f := ld) (v := 0) (ws' := mW Z q now kept hist und sav isv pad sg it far many (zu ld k 0) sides stuck ord rd pl wr) ok 9 rfl dX7_forget_14 (by omega) (by decide) (by first | decide | exact zb_01 _ | omega) rfl ?_
        refine z_iinc (lv' := [(1, .int (iI (k + 1))), (0, .ref (q 0))]) ok dX7_forget_15 1 rfl (by decide) rfl ?_
        refine z_goto (tgt := 2) ok dX7_forget_18 (by decide) ?_
        refine z_lsub ok (lv' := [(0, .ref (q 0)), (1, .int (iI (k + 1)))]) [1, 0] rfl ?_
        exact ih2 _ _ (by omega) (by omega) (by rw [h2_2]; exact zcp_z (by omega)) (by omega)
  refine z_lsub ok (lv' := [(0, .ref (q 0)), (1, .int (iI 0))]) [1, 0] rfl ?_
  exact L2 _ _ _ (by omega) (by omega) (zcp_0.symm) (Nat.lt_succ_self _)
set_option maxRecDepth 20000 in
theorem c_X7_keep {l : Launch} {Z : zZ} {q : Nat → Nat} {now kept hist : Int → Int} {und : Int} {sav isv pad : Int → Int} {sg it : Int} {far many laid sides stuck ord : Int → Int} {rd pl wr : Int}  : zN (T := Unit) l yX7_keep (Cond.code yX7_keep cX7_keep 2 none :: wsL_law) ({ frames := 0, cells := 0, slots := 0, locals := 0 } : Room) Z [.ref (q 0)] (mW Z q now kept hist und sav isv pad sg it far many laid sides stuck ord rd pl wr) (fun _ => mW Z q now (zcp kept now 0 560) hist und sav isv pad sg it far many laid sides stuck ord rd pl wr) (fun _ => True) := by
  refine zN_of (C := RX7) (by decide +kernel) rfl (Nat.le_of_ble_eq_true rfl) (fun X ok fin => ?_)
  refine z_lsub ok (lv' := [(0, .ref (q 0))]) [0] rfl ?_
  refine z_iconst ok dX7_keep_0 ?_
  refine z_istore_n (lv' := [(1, .int (iI 0)), (0, .ref (q 0))]) ok dX7_keep_1 (by decide) rfl ?_
  have L2 : ∀ (fuel : Nat) (k : Int) (ld : Int → Int), (0 ≤ k) → (k ≤ 560) → (ld = zcp kept now 0 k) → (560 - k).toNat < fuel → zV X 0 0 (mW Z q now ld hist und sav isv pad sg it far many laid sides stuck ord rd pl wr) 2 [(0, .ref (q 0)), (1, .int (iI k))] [] := by
    intro fuel
    induction fuel with
    | zero => intro k ld h2_0 h2_1 h2_2 hf; exact absurd hf (Nat.not_lt_zero _)
    | succ fuel ih2 =>
      intro k ld h2_0 h2_1 h2_2 hf
      refine z_iload_n ok dX7_keep_2 rfl ?_
      refine z_sipush ok dX7_keep_3 (by decide) ?_
      refine z_icmp_ge (tgt := 27) ok dX7_keep_6 (by decide) (by omega) (by omega) (fun c6 => ?_) (fun c6 => ?_)
      · -- t
        have hk : k = 560 := by omega
        subst hk
        subst h2_2
        exact fin () 27 _ _ _ dX7_keep_27 (trivial) (by decide) (by decide)
      · -- f
        refine z_aload_n ok dX7_keep_9 rfl ?_
        refine z_get (v := .ref (q 2)) ok zc7 0 rfl 1 (by decide) qf_RX7_13 rfl rfl dX7_keep_10 ?_
        refine z_iload_n ok dX7_keep_13 rfl ?_
        refine z_aload_n ok dX7_keep_14 rfl ?_
        refine z_get (v := .ref (q 1)) ok zc7 0 rfl 0 (by decide) qf_RX7_7 rfl rfl dX7_keep_15 ?_
        refine z_iload_n ok dX7_keep_18 rfl ?_
        refine z_iald (f := now) ok 1 rfl dX7_keep_19 (by omega) (by decide) ?_
        refine z_iast (f := ld) (v := now k) (ws' := mW Z q now (zu ld k (now k)) hist und sav isv pad sg it far many laid sides stuck ord rd pl wr) ok 2 rfl dX7_keep_20 (by omega) (by decide) rfl ?_
        refine z_iinc (lv' := [(1, .int (iI (k + 1))), (0, .ref (q 0))]) ok dX7_keep_21 1 rfl (by decide) rfl ?_
        refine z_goto (tgt := 2) ok dX7_keep_24 (by decide) ?_
        refine z_lsub ok (lv' := [(0, .ref (q 0)), (1, .int (iI (k + 1)))]) [1, 0] rfl ?_
        exact ih2 _ _ (by omega) (by omega) (by rw [h2_2]; exact zcp_z (by omega)) (by omega)
  refine z_lsub ok (lv' := [(0, .ref (q 0)), (1, .int (iI 0))]) [1, 0] rfl ?_
  exact L2 _ _ _ (by omega) (by omega) (zcp_0.symm) (Nat.lt_succ_self _)
set_option maxRecDepth 20000 in
theorem c_X7_comeBack {l : Launch} {Z : zZ} {q : Nat → Nat} {now kept hist : Int → Int} {und : Int} {sav isv pad : Int → Int} {sg it : Int} {far many laid sides stuck ord : Int → Int} {rd pl wr : Int}  : zN (T := Unit) l yX7_comeBack (Cond.code yX7_comeBack cX7_comeBack 2 none :: wsL_law) ({ frames := 0, cells := 0, slots := 0, locals := 0 } : Room) Z [.ref (q 0)] (mW Z q now kept hist und sav isv pad sg it far many laid sides stuck ord rd pl wr) (fun _ => mW Z q (zcp now kept 0 560) kept hist und sav isv pad sg it far many laid sides stuck ord rd pl wr) (fun _ => True) := by
  refine zN_of (C := RX7) (by decide +kernel) rfl (Nat.le_of_ble_eq_true rfl) (fun X ok fin => ?_)
  refine z_lsub ok (lv' := [(0, .ref (q 0))]) [0] rfl ?_
  refine z_iconst ok dX7_comeBack_0 ?_
  refine z_istore_n (lv' := [(1, .int (iI 0)), (0, .ref (q 0))]) ok dX7_comeBack_1 (by decide) rfl ?_
  have L2 : ∀ (fuel : Nat) (k : Int) (ld : Int → Int), (0 ≤ k) → (k ≤ 560) → (ld = zcp now kept 0 k) → (560 - k).toNat < fuel → zV X 0 0 (mW Z q ld kept hist und sav isv pad sg it far many laid sides stuck ord rd pl wr) 2 [(0, .ref (q 0)), (1, .int (iI k))] [] := by
    intro fuel
    induction fuel with
    | zero => intro k ld h2_0 h2_1 h2_2 hf; exact absurd hf (Nat.not_lt_zero _)
    | succ fuel ih2 =>
      intro k ld h2_0 h2_1 h2_2 hf
      refine z_iload_n ok dX7_comeBack_2 rfl ?_
      refine z_sipush ok dX7_comeBack_3 (by decide) ?_
      refine z_icmp_ge (tgt := 27) ok dX7_comeBack_6 (by decide) (by omega) (by omega) (fun c6 => ?_) (fun c6 => ?_)
      · -- t
        have hk : k = 560 := by omega
        subst hk
        subst h2_2
        exact fin () 27 _ _ _ dX7_comeBack_27 (trivial) (by decide) (by decide)
      · -- f
        refine z_aload_n ok dX7_comeBack_9 rfl ?_
        refine z_get (v := .ref (q 1)) ok zc7 0 rfl 0 (by decide) qf_RX7_7 rfl rfl dX7_comeBack_10 ?_
        refine z_iload_n ok dX7_comeBack_13 rfl ?_
        refine z_aload_n ok dX7_comeBack_14 rfl ?_
        refine z_get (v := .ref (q 2)) ok zc7 0 rfl 1 (by decide) qf_RX7_13 rfl rfl dX7_comeBack_15 ?_
        refine z_iload_n ok dX7_comeBack_18 rfl ?_
        refine z_iald (f := kept) ok 2 rfl dX7_comeBack_19 (by omega) (by decide) ?_
        refine z_iast (f := ld) (v := kept k) (ws' := mW Z q (zu ld k (kept k)) kept hist und sav isv pad sg it far many laid sides stuck ord rd pl wr) ok 1 rfl dX7_comeBack_20 (by omega) (by decide) rfl ?_
        refine z_iinc (lv' := [(1, .int (iI (k + 1))), (0, .ref (q 0))]) ok dX7_comeBack_21 1 rfl (by decide) rfl ?_
        refine z_goto (tgt := 2) ok dX7_comeBack_24 (by decide) ?_
        refine z_lsub ok (lv' := [(0, .ref (q 0)), (1, .int (iI (k + 1)))]) [1, 0] rfl ?_
        exact ih2 _ _ (by omega) (by omega) (by rw [h2_2]; exact zcp_z (by omega)) (by omega)
  refine z_lsub ok (lv' := [(0, .ref (q 0)), (1, .int (iI 0))]) [1, 0] rfl ?_
  exact L2 _ _ _ (by omega) (by omega) (zcp_0.symm) (Nat.lt_succ_self _)
set_option maxRecDepth 20000 in
theorem c_X7_record {l : Launch} {Z : zZ} {q : Nat → Nat} {now kept hist : Int → Int} {und : Int} {sav isv pad : Int → Int} {sg it : Int} {far many laid sides stuck ord : Int → Int} {rd pl wr : Int} (hu : 0 ≤ und ∧ und ≤ 6) (hit : 0 ≤ it ∧ it ≤ 1) : zN (T := Unit) l yX7_record (Cond.code yX7_record cX7_record 2 none :: wsL_law) ({ frames := 0, cells := 0, slots := 0, locals := 0 } : Room) Z [.ref (q 0)] (mW Z q now kept hist und sav isv pad sg it far many laid sides stuck ord rd pl wr) (fun _ => mW Z q now kept (recH it und hist now) (recU it und) sav isv pad sg it far many laid sides stuck ord rd pl wr) (fun _ => True) := by
  refine zN_of (C := RX7) (by decide +kernel) rfl (Nat.le_of_ble_eq_true rfl) (fun X ok fin => ?_)
  refine z_lsub ok (lv' := [(0, .ref (q 0))]) [0] rfl ?_
  refine z_aload_n ok dX7_record_0 rfl ?_
  refine z_get (v := .int (iI it)) ok zc7 0 rfl 8 (by decide) qf_RX7_47 rfl rfl dX7_record_1 ?_
  refine z_if_eq (tgt := 8) ok dX7_record_4 (by decide) (by omega) (fun c4 => ?_) (fun c4 => ?_)
  · -- t
    refine z_aload_n ok dX7_record_8 rfl ?_
    refine z_get (v := .int (iI und)) ok zc7 0 rfl 3 (by decide) qf_RX7_51 rfl rfl dX7_record_9 ?_
    refine z_bipush ok dX7_record_12 (by decide) ?_
    have L53 : ∀ (u : Int) (h1 : Int → Int), (0 ≤ u) → (u ≤ 5) → (u = (if und = 6 then 5 else und)) → (h1 = (if und = 6 then zcp hist (fun j => hist (j + 560)) 0 2800 else hist)) → zV X 0 0 (mW Z q now kept h1 u sav isv pad sg it far many laid sides stuck ord rd pl wr) 53 [(0, .ref (q 0))] [] := by
      intro u h1 h53_0 h53_1 h53_2 h53_3
      refine z_iconst ok dX7_record_53 ?_
      refine z_istore_n (lv' := [(1, .int (iI 0)), (0, .ref (q 0))]) ok dX7_record_54 (by decide) rfl ?_
      have L55 : ∀ (fuel : Nat) (k : Int) (h : Int → Int), (0 ≤ k) → (k ≤ 560) → (h = zcp h1 now (u * 560) k) → (560 - k).toNat < fuel → zV X 0 0 (mW Z q now kept h u sav isv pad sg it far many laid sides stuck ord rd pl wr) 55 [(0, .ref (q 0)), (1, .int (iI k))] [] := by
        intro fuel
        induction fuel with
        | zero => intro k h h55_0 h55_1 h55_2 hf; exact absurd hf (Nat.not_lt_zero _)
        | succ fuel ih55 =>
          intro k h h55_0 h55_1 h55_2 hf
          refine z_iload_n ok dX7_record_55 rfl ?_
          refine z_sipush ok dX7_record_56 (by decide) ?_
          refine z_icmp_ge (tgt := 89) ok dX7_record_59 (by decide) (by omega) (by omega) (fun c59 => ?_) (fun c59 => ?_)
          · -- t
            refine z_aload_n ok dX7_record_89 rfl ?_
            refine z_dup ok dX7_record_90 rfl ?_
            refine z_get (v := .int (iI u)) ok zc7 0 rfl 3 (by decide) qf_RX7_51 rfl rfl dX7_record_91 ?_
            refine z_iconst ok dX7_record_94 ?_
            refine z_iadd ok dX7_record_95 ?_
            refine z_put (ws' := mW Z q now kept h (u + 1) sav isv pad sg it far many laid sides stuck ord rd pl wr) ok zc7 0 rfl 3 (by decide) qf_RX7_51 rfl rfl rfl rfl (Nat.le_of_ble_eq_true rfl) dX7_record_96 rfl ?_
            have hk : k = 560 := by omega
            subst hk
            refine z_eq (ws' := mW Z q now kept (recH it und hist now) (recU it und) sav isv pad sg it far many laid sides stuck ord rd pl wr) (by unfold recH recU; rw [if_pos c4, if_pos c4, h55_2, h53_3, h53_2]; congr 1; split <;> omega) ?_
            exact fin () 99 _ _ _ dX7_record_99 (trivial) (by decide) (by decide)
          · -- f
            refine z_aload_n ok dX7_record_62 rfl ?_
            refine z_get (v := .ref (q 3)) ok zc7 0 rfl 2 (by decide) qf_RX7_16 rfl rfl dX7_record_63 ?_
            refine z_aload_n ok dX7_record_66 rfl ?_
            refine z_get (v := .int (iI u)) ok zc7 0 rfl 3 (by decide) qf_RX7_51 rfl rfl dX7_record_67 ?_
            refine z_sipush ok dX7_record_70 (by decide) ?_
            refine z_imul ok dX7_record_73 ?_
            refine z_iload_n ok dX7_record_74 rfl ?_
            refine z_iadd ok dX7_record_75 ?_
            refine z_aload_n ok dX7_record_76 rfl ?_
            refine z_get (v := .ref (q 1)) ok zc7 0 rfl 0 (by decide) qf_RX7_7 rfl rfl dX7_record_77 ?_
            refine z_iload_n ok dX7_record_80 rfl ?_
            refine z_iald (f := now) ok 1 rfl dX7_record_81 (by omega) (by decide) ?_
            refine z_iast (f := h) (v := now k) (ws' := mW Z q now kept (zu h ((u * 560) + k) (now k)) u sav isv pad sg it far many laid sides stuck ord rd pl wr) ok 3 rfl dX7_record_82 (by omega) (by decide) rfl ?_
            refine z_iinc (lv' := [(1, .int (iI (k + 1))), (0, .ref (q 0))]) ok dX7_record_83 1 rfl (by decide) rfl ?_
            refine z_goto (tgt := 55) ok dX7_record_86 (by decide) ?_
            refine z_lsub ok (lv' := [(0, .ref (q 0)), (1, .int (iI (k + 1)))]) [1, 0] rfl ?_
            exact ih55 _ _ (by omega) (by omega) (by rw [h55_2]; exact zcp_s (by omega)) (by omega)
      refine z_lsub ok (lv' := [(0, .ref (q 0)), (1, .int (iI 0))]) [1, 0] rfl ?_
      exact L55 _ _ _ (by omega) (by omega) (zcp_0.symm) (Nat.lt_succ_self _)
    refine z_icmp_ne (tgt := 53) ok dX7_record_14 (by decide) (by omega) (by omega) (fun c14 => ?_) (fun c14 => ?_)
    · -- t
      refine z_lsub ok (lv' := [(0, .ref (q 0))]) [0] rfl ?_
      exact L53 _ _ (by omega) (by omega) (by split <;> omega) (by first | (rw [if_neg (by omega)]; done) | (rw [if_pos (by omega), h19_2, show k = 2800 by omega]))
    · -- f
      refine z_iconst ok dX7_record_17 ?_
      refine z_istore_n (lv' := [(1, .int (iI 0)), (0, .ref (q 0))]) ok dX7_record_18 (by decide) rfl ?_
      have L19 : ∀ (fuel : Nat) (k : Int) (h : Int → Int), (0 ≤ k) → (k ≤ 2800) → (h = zcp hist (fun j => hist (j + 560)) 0 k) → (2800 - k).toNat < fuel → zV X 0 0 (mW Z q now kept h und sav isv pad sg it far many laid sides stuck ord rd pl wr) 19 [(0, .ref (q 0)), (1, .int (iI k))] [] := by
        intro fuel
        induction fuel with
        | zero => intro k h h19_0 h19_1 h19_2 hf; exact absurd hf (Nat.not_lt_zero _)
        | succ fuel ih19 =>
          intro k h h19_0 h19_1 h19_2 hf
          refine z_iload_n ok dX7_record_19 rfl ?_
          refine z_sipush ok dX7_record_20 (by decide) ?_
          refine z_icmp_ge (tgt := 48) ok dX7_record_23 (by decide) (by omega) (by omega) (fun c23 => ?_) (fun c23 => ?_)
          · -- t
            refine z_aload_n ok dX7_record_48 rfl ?_
            refine z_iconst ok dX7_record_49 ?_
            refine z_put (ws' := mW Z q now kept h 5 sav isv pad sg it far many laid sides stuck ord rd pl wr) ok zc7 0 rfl 3 (by decide) qf_RX7_51 rfl rfl rfl rfl (Nat.le_of_ble_eq_true rfl) dX7_record_50 rfl ?_
            refine z_lsub ok (lv' := [(0, .ref (q 0))]) [0] rfl ?_
            exact L53 _ _ (by omega) (by omega) (by split <;> omega) (by first | (rw [if_neg (by omega)]; done) | (rw [if_pos (by omega), h19_2, show k = 2800 by omega]))
          · -- f
            refine z_aload_n ok dX7_record_26 rfl ?_
            refine z_get (v := .ref (q 3)) ok zc7 0 rfl 2 (by decide) qf_RX7_16 rfl rfl dX7_record_27 ?_
            refine z_iload_n ok dX7_record_30 rfl ?_
            refine z_aload_n ok dX7_record_31 rfl ?_
            refine z_get (v := .ref (q 3)) ok zc7 0 rfl 2 (by decide) qf_RX7_16 rfl rfl dX7_record_32 ?_
            refine z_iload_n ok dX7_record_35 rfl ?_
            refine z_sipush ok dX7_record_36 (by decide) ?_
            refine z_iadd ok dX7_record_39 ?_
            refine z_iald (f := h) ok 3 rfl dX7_record_40 (by omega) (by decide) ?_
            refine z_iast (f := h) (v := h (k + 560)) (ws' := mW Z q now kept (zu h k (h (k + 560))) und sav isv pad sg it far many laid sides stuck ord rd pl wr) ok 3 rfl dX7_record_41 (by omega) (by decide) rfl ?_
            refine z_iinc (lv' := [(1, .int (iI (k + 1))), (0, .ref (q 0))]) ok dX7_record_42 1 rfl (by decide) rfl ?_
            refine z_goto (tgt := 19) ok dX7_record_45 (by decide) ?_
            refine z_lsub ok (lv' := [(0, .ref (q 0)), (1, .int (iI (k + 1)))]) [1, 0] rfl ?_
            exact ih19 _ _ (by omega) (by omega) (by rw [h19_2, zcp_out (j := k + 560) (by omega)]; exact zcp_z (g := fun j => hist (j + 560)) (by omega)) (by omega)
      refine z_lsub ok (lv' := [(0, .ref (q 0)), (1, .int (iI 0))]) [1, 0] rfl ?_
      exact L19 _ _ _ (by omega) (by omega) (zcp_0.symm) (Nat.lt_succ_self _)
  · -- f
    refine z_eq (ws' := mW Z q now kept (recH it und hist now) (recU it und) sav isv pad sg it far many laid sides stuck ord rd pl wr) (by unfold recH recU; rw [if_neg c4, if_neg c4]) ?_
    exact fin () 7 _ _ _ dX7_record_7 (trivial) (by decide) (by decide)
set_option maxRecDepth 20000 in
theorem c_X7_apart {l : Launch} {Z : zZ} {q : Nat → Nat} {now kept hist : Int → Int} {und : Int} {sav isv pad : Int → Int} {sg it : Int} {far many laid sides stuck ord : Int → Int} {rd pl wr : Int} {box other : Int} (hc : 2 ≤ now 4 ∧ now 4 ≤ 5) (hr : 2 ≤ now 5 ∧ now 5 ≤ 5) (hb : 0 ≤ box ∧ box < 1000000) (ho : 0 ≤ other ∧ other < 1000000) : zI (T := Unit) l yX7_apart (Cond.code yX7_apart cX7_apart 5 (some .int) :: wsL_law) ({ frames := 0, cells := 0, slots := 0, locals := 0 } : Room) Z [.ref (q 0), .int (iI box), .int (iI other)] (mW Z q now kept hist und sav isv pad sg it far many laid sides stuck ord rd pl wr) (fun _ => mW Z q now kept hist und sav isv pad sg it far many laid sides stuck ord rd pl wr) (fun ρ _ => ρ = dist now box other) := by
  refine zI_of (C := RX7) (by decide +kernel) rfl (Nat.le_of_ble_eq_true rfl) (fun _ => True) znI (fun X ok fin => ?_)
  have hd1 := dm hc hb.1
  have hd2 := dm hc ho.1
  refine z_lsub ok (lv' := [(0, .ref (q 0)), (1, .int (iI box)), (2, .int (iI other))]) [0, 1, 2] rfl ?_
  refine z_iload_n ok dX7_apart_0 rfl ?_
  refine z_aload_n ok dX7_apart_1 rfl ?_
  refine z_get (v := .ref (q 1)) ok zc7 0 rfl 0 (by decide) qf_RX7_7 rfl rfl dX7_apart_2 ?_
  refine z_iconst ok dX7_apart_5 ?_
  refine z_iald (f := now) ok 1 rfl dX7_apart_6 (by omega) (by decide) ?_
  refine z_irem ok dX7_apart_7 (by omega) (by omega) ?_
  refine z_iload_n ok dX7_apart_8 rfl ?_
  refine z_aload_n ok dX7_apart_9 rfl ?_
  refine z_get (v := .ref (q 1)) ok zc7 0 rfl 0 (by decide) qf_RX7_7 rfl rfl dX7_apart_10 ?_
  refine z_iconst ok dX7_apart_13 ?_
  refine z_iald (f := now) ok 1 rfl dX7_apart_14 (by omega) (by decide) ?_
  refine z_irem ok dX7_apart_15 (by omega) (by omega) ?_
  refine z_isub ok dX7_apart_16 ?_
  refine z_istore_n (lv' := [(3, .int (iI ((box % (now 4)) - (other % (now 4))))), (0, .ref (q 0)), (1, .int (iI box)), (2, .int (iI other))]) ok dX7_apart_17 (by decide) rfl ?_
  refine z_iload_n ok dX7_apart_18 rfl ?_
  refine z_aload_n ok dX7_apart_19 rfl ?_
  refine z_get (v := .ref (q 1)) ok zc7 0 rfl 0 (by decide) qf_RX7_7 rfl rfl dX7_apart_20 ?_
  refine z_iconst ok dX7_apart_23 ?_
  refine z_iald (f := now) ok 1 rfl dX7_apart_24 (by omega) (by decide) ?_
  refine z_idiv ok dX7_apart_25 (by omega) (by omega) ?_
  refine z_iload_n ok dX7_apart_26 rfl ?_
  refine z_aload_n ok dX7_apart_27 rfl ?_
  refine z_get (v := .ref (q 1)) ok zc7 0 rfl 0 (by decide) qf_RX7_7 rfl rfl dX7_apart_28 ?_
  refine z_iconst ok dX7_apart_31 ?_
  refine z_iald (f := now) ok 1 rfl dX7_apart_32 (by omega) (by decide) ?_
  refine z_idiv ok dX7_apart_33 (by omega) (by omega) ?_
  refine z_isub ok dX7_apart_34 ?_
  refine z_istore (lv' := [(4, .int (iI ((box / (now 4)) - (other / (now 4))))), (3, .int (iI ((box % (now 4)) - (other % (now 4))))), (0, .ref (q 0)), (1, .int (iI box)), (2, .int (iI other))]) ok dX7_apart_35 (by decide) rfl ?_
  refine z_iload_n ok dX7_apart_37 rfl ?_
  refine z_if_ge (tgt := 46) ok dX7_apart_38 (by decide) (by omega) (fun c38 => ?_) (fun c38 => ?_)
  · -- t
    refine z_iload_n ok dX7_apart_46 rfl ?_
    refine z_iload ok dX7_apart_47 rfl ?_
    refine z_if_ge (tgt := 58) ok dX7_apart_49 (by decide) (by omega) (fun c49 => ?_) (fun c49 => ?_)
    · -- t
      refine z_iload ok dX7_apart_58 rfl ?_
      refine z_iadd ok dX7_apart_60 ?_
      exact fin (((box % (now 4)) - (other % (now 4))) + ((box / (now 4)) - (other / (now 4)))) () 61 _ _ _ dX7_apart_61 (trivial) (by unfold dist zabs; omega) (by decide) (by decide)
    · -- f
      refine z_iload ok dX7_apart_52 rfl ?_
      refine z_ineg ok dX7_apart_54 ?_
      refine z_goto (tgt := 60) ok dX7_apart_55 (by decide) ?_
      refine z_iadd ok dX7_apart_60 ?_
      exact fin (((box % (now 4)) - (other % (now 4))) + (-((box / (now 4)) - (other / (now 4))))) () 61 _ _ _ dX7_apart_61 (trivial) (by unfold dist zabs; omega) (by decide) (by decide)
  · -- f
    refine z_iload_n ok dX7_apart_41 rfl ?_
    refine z_ineg ok dX7_apart_42 ?_
    refine z_goto (tgt := 47) ok dX7_apart_43 (by decide) ?_
    refine z_iload ok dX7_apart_47 rfl ?_
    refine z_if_ge (tgt := 58) ok dX7_apart_49 (by decide) (by omega) (fun c49 => ?_) (fun c49 => ?_)
    · -- t
      refine z_iload ok dX7_apart_58 rfl ?_
      refine z_iadd ok dX7_apart_60 ?_
      exact fin ((-((box % (now 4)) - (other % (now 4)))) + ((box / (now 4)) - (other / (now 4)))) () 61 _ _ _ dX7_apart_61 (trivial) (by unfold dist zabs; omega) (by decide) (by decide)
    · -- f
      refine z_iload ok dX7_apart_52 rfl ?_
      refine z_ineg ok dX7_apart_54 ?_
      refine z_goto (tgt := 60) ok dX7_apart_55 (by decide) ?_
      refine z_iadd ok dX7_apart_60 ?_
      exact fin ((-((box % (now 4)) - (other % (now 4)))) + (-((box / (now 4)) - (other / (now 4))))) () 61 _ _ _ dX7_apart_61 (trivial) (by unfold dist zabs; omega) (by decide) (by decide)
set_option maxRecDepth 20000 in
theorem c_X7_isDetour {l : Launch} {Z : zZ} {q : Nat → Nat} {now kept hist : Int → Int} {und : Int} {sav isv pad : Int → Int} {sg it : Int} {far many laid sides stuck ord : Int → Int} {rd pl wr : Int} {box next to : Int} (hc : 2 ≤ now 4 ∧ now 4 ≤ 5) (hr : 2 ≤ now 5 ∧ now 5 ≤ 5) (hb : 0 ≤ box ∧ box < 1000000) (hn : 0 ≤ next ∧ next < 1000000) (ht : 0 ≤ to ∧ to < 1000000) : zI (T := Unit) l yX7_isDetour (Cond.code yX7_isDetour cX7_isDetour 4 (some .boolean) :: wsL_law) ({ frames := 1, cells := 0, slots := 0, locals := 24 } : Room) Z [.ref (q 0), .int (iI box), .int (iI next), .int (iI to)] (mW Z q now kept hist und sav isv pad sg it far many laid sides stuck ord rd pl wr) (fun _ => mW Z q now kept hist und sav isv pad sg it far many laid sides stuck ord rd pl wr) (fun ρ _ => ρ = zb (dtr now box next to)) := by
  refine zI_of (C := RX7) (by decide +kernel) rfl (Nat.le_of_ble_eq_true rfl) (fun ρ => ρ = 0 ∨ ρ = 1) znZ (fun X ok fin => ?_)
  have hd1 := dist_rng (N := now) hc hb ht
  have hd2 := dist_rng (N := now) hc hn ht
  refine z_lsub ok (lv' := [(0, .ref (q 0)), (1, .int (iI box)), (2, .int (iI next)), (3, .int (iI to))]) [0, 1, 2, 3] rfl ?_
  refine z_aload_n ok dX7_isDetour_0 rfl ?_
  refine z_iload_n ok dX7_isDetour_1 rfl ?_
  refine z_iload_n ok dX7_isDetour_2 rfl ?_
  refine z_callVi0 ok (fun l => c_X7_apart  (by omega) (by omega) (by omega) (by omega)) zm_X7_apart zv_X7_apart qm_RX7_80 dX7_isDetour_3 (by decide) (by decide) rfl rfl (Nat.le_of_ble_eq_true rfl) (q0 := 0) rfl rfl rfl (fun ρ _ hρ => ?_)
  subst hρ
  refine z_eq (ws' := mW Z q now kept hist und sav isv pad sg it far many laid sides stuck ord rd pl wr) rfl ?_
  refine z_aload_n ok dX7_isDetour_6 rfl ?_
  refine z_iload_n ok dX7_isDetour_7 rfl ?_
  refine z_iload_n ok dX7_isDetour_8 rfl ?_
  refine z_callVi0 ok (fun l => c_X7_apart  (by omega) (by omega) (by omega) (by omega)) zm_X7_apart zv_X7_apart qm_RX7_80 dX7_isDetour_9 (by decide) (by decide) rfl rfl (Nat.le_of_ble_eq_true rfl) (q0 := 0) rfl rfl rfl (fun ρ _ hρ => ?_)
  subst hρ
  refine z_eq (ws' := mW Z q now kept hist und sav isv pad sg it far many laid sides stuck ord rd pl wr) rfl ?_
  refine z_icmp_lt (tgt := 19) ok dX7_isDetour_12 (by decide) (by omega) (by omega) (fun c12 => ?_) (fun c12 => ?_)
  · -- t
    refine z_iconst ok dX7_isDetour_19 ?_
    exact fin 0 () 20 _ _ _ dX7_isDetour_20 (by first | decide | exact zb_01 _ | omega) (by first | exact (zb_t (by unfold dtr; omega)).symm | exact (zb_f (by unfold dtr; omega)).symm) (by decide) (by decide)
  · -- f
    refine z_iconst ok dX7_isDetour_15 ?_
    refine z_goto (tgt := 20) ok dX7_isDetour_16 (by decide) ?_
    exact fin 1 () 20 _ _ _ dX7_isDetour_20 (by first | decide | exact zb_01 _ | omega) (by first | exact (zb_t (by unfold dtr; omega)).symm | exact (zb_f (by unfold dtr; omega)).symm) (by decide) (by decide)
set_option maxRecDepth 20000 in
theorem c_X7_moved {l : Launch} {Z : zZ} {q : Nat → Nat} {now kept hist : Int → Int} {und : Int} {sav isv pad : Int → Int} {sg it : Int} {far many laid sides stuck ord : Int → Int} {rd pl wr : Int} {s side to : Int} (hw : wf now) (hs : 0 ≤ s ∧ s < 10 * (now 4 * now 5)) (hd : 0 ≤ side ∧ side ≤ 3) (ht : 0 ≤ to ∧ to < now 4 * now 5) : zI (T := Unit) l yX7_moved (Cond.code yX7_moved cX7_moved 9 (some .int) :: wsL_law) ({ frames := 4, cells := 0, slots := 0, locals := 92 } : Room) Z [.ref (q 0), .int (iI s), .int (iI side), .int (iI to)] (mW Z q now kept hist und sav isv pad sg it far many laid sides stuck ord rd pl wr) (fun _ => mW Z q now kept hist und sav isv pad sg it far many laid sides stuck ord rd pl wr) (fun ρ _ => ρ = mvd now s side to) := by
  refine zI_of (C := RX7) (by decide +kernel) rfl (Nat.le_of_ble_eq_true rfl) (fun _ => True) znI (fun X ok fin => ?_)
  obtain ⟨w0, w1, w2, hc, hr, w6, wl, wp⟩ := id hw
  have hcr := cr_rng hc hr
  have hnb := nb_rng (b := s / 10) hw (by omega) hd
  refine z_lsub ok (lv' := [(0, .ref (q 0)), (1, .int (iI s)), (2, .int (iI side)), (3, .int (iI to))]) [0, 1, 2, 3] rfl ?_
  refine z_iload_n ok dX7_moved_0 rfl ?_
  refine z_bipush ok dX7_moved_1 (by decide) ?_
  refine z_idiv ok dX7_moved_3 (by omega) (by omega) ?_
  refine z_istore (lv' := [(4, .int (iI (s / 10))), (0, .ref (q 0)), (1, .int (iI s)), (2, .int (iI side)), (3, .int (iI to))]) ok dX7_moved_4 (by decide) rfl ?_
  refine z_iload_n ok dX7_moved_6 rfl ?_
  refine z_iconst ok dX7_moved_7 ?_
  refine z_idiv ok dX7_moved_8 (by omega) (by omega) ?_
  refine z_iconst ok dX7_moved_9 ?_
  refine z_irem ok dX7_moved_10 (by omega) (by omega) ?_
  refine z_istore (lv' := [(5, .int (iI ((s / 5) % 2))), (4, .int (iI (s / 10))), (0, .ref (q 0)), (1, .int (iI s)), (2, .int (iI side)), (3, .int (iI to))]) ok dX7_moved_11 (by decide) rfl ?_
  refine z_iload_n ok dX7_moved_13 rfl ?_
  refine z_iconst ok dX7_moved_14 ?_
  refine z_irem ok dX7_moved_15 (by omega) (by omega) ?_
  refine z_istore (lv' := [(6, .int (iI (s % 5))), (5, .int (iI ((s / 5) % 2))), (4, .int (iI (s / 10))), (0, .ref (q 0)), (1, .int (iI s)), (2, .int (iI side)), (3, .int (iI to))]) ok dX7_moved_16 (by decide) rfl ?_
  refine z_aload_n ok dX7_moved_18 rfl ?_
  refine z_iload ok dX7_moved_19 rfl ?_
  refine z_iload_n ok dX7_moved_21 rfl ?_
  refine z_callVi0 ok (fun l => c_X7_isWhole  (hw) (by omega) (hd)) zm_X7_isWhole zv_X7_isWhole qm_RX7_83 dX7_moved_22 (by decide) (by decide) rfl rfl (Nat.le_of_ble_eq_true rfl) (q0 := 0) rfl rfl rfl (fun ρ _ hρ => ?_)
  subst hρ
  refine z_eq (ws' := mW Z q now kept hist und sav isv pad sg it far many laid sides stuck ord rd pl wr) rfl ?_
  refine z_ifb_eq (tgt := 48) ok dX7_moved_25 (by decide) (fun c25 => ?_) (fun c25 => ?_)
  · -- t
    refine z_bipush ok dX7_moved_48 (by decide) ?_
    exact fin (-6) () 50 _ _ _ dX7_moved_50 (trivial) (by unfold mvd; exact (zif_f (fun z => by first | exact c25 z.1 | exact z.2.1 ⟨by omega, by omega, by omega⟩)).symm) (by decide) (by decide)
  · -- f
    refine z_aload_n ok dX7_moved_28 rfl ?_
    refine z_get (v := .ref (q 1)) ok zc7 0 rfl 0 (by decide) qf_RX7_7 rfl rfl dX7_moved_29 ?_
    refine z_iconst ok dX7_moved_32 ?_
    refine z_iald (f := now) ok 1 rfl dX7_moved_33 (by omega) (by decide) ?_
    refine z_iconst ok dX7_moved_34 ?_
    refine z_icmp_ne (tgt := 51) ok dX7_moved_35 (by decide) (by omega) (by omega) (fun c35 => ?_) (fun c35 => ?_)
    · -- t
      have ho : opn now (s / 10) side := c25
      have hn0 := ho.1
      have hnm := nbm_nn hn0
      refine z_aload_n ok dX7_moved_51 rfl ?_
      refine z_iload ok dX7_moved_52 rfl ?_
      refine z_iload_n ok dX7_moved_54 rfl ?_
      refine z_callVi0 ok (fun l => c_X7_beside  (by omega) (by omega) (by omega) (by omega)) zm_X7_beside zv_X7_beside qm_RX7_63 dX7_moved_55 (by decide) (by decide) rfl rfl (Nat.le_of_ble_eq_true rfl) (q0 := 0) rfl rfl rfl (fun ρ _ hρ => ?_)
      subst hρ
      refine z_eq (ws' := mW Z q now kept hist und sav isv pad sg it far many laid sides stuck ord rd pl wr) rfl ?_
      rw [hnm]
      refine z_istore (lv' := [(7, .int (iI (nb now (s / 10) side))), (6, .int (iI (s % 5))), (5, .int (iI ((s / 5) % 2))), (4, .int (iI (s / 10))), (0, .ref (q 0)), (1, .int (iI s)), (2, .int (iI side)), (3, .int (iI to))]) ok dX7_moved_58 (by decide) rfl ?_
      refine z_aload_n ok dX7_moved_60 rfl ?_
      refine z_iload ok dX7_moved_61 rfl ?_
      refine z_iload ok dX7_moved_63 rfl ?_
      refine z_iload_n ok dX7_moved_65 rfl ?_
      refine z_callVi0 ok (fun l => c_X7_isDetour  (by omega) (by omega) (by omega) (by omega) (by omega)) zm_X7_isDetour zv_X7_isDetour qm_RX7_87 dX7_moved_66 (by decide) (by decide) rfl rfl (Nat.le_of_ble_eq_true rfl) (q0 := 0) rfl rfl rfl (fun ρ _ hρ => ?_)
      subst hρ
      refine z_eq (ws' := mW Z q now kept hist und sav isv pad sg it far many laid sides stuck ord rd pl wr) rfl ?_
      refine z_istore (lv' := [(8, .int (iI (zb (dtr now (s / 10) (nb now (s / 10) side) to)))), (7, .int (iI (nb now (s / 10) side))), (6, .int (iI (s % 5))), (5, .int (iI ((s / 5) % 2))), (4, .int (iI (s / 10))), (0, .ref (q 0)), (1, .int (iI s)), (2, .int (iI side)), (3, .int (iI to))]) ok dX7_moved_69 (by decide) rfl ?_
      refine z_iload ok dX7_moved_71 rfl ?_
      refine z_ifb_eq (tgt := 90) ok dX7_moved_73 (by decide) (fun c73 => ?_) (fun c73 => ?_)
      · -- t
        refine z_bipush ok dX7_moved_90 (by decide) ?_
        refine z_iload ok dX7_moved_92 rfl ?_
        refine z_imul ok dX7_moved_94 ?_
        refine z_iconst ok dX7_moved_95 ?_
        refine z_iload_n ok dX7_moved_96 rfl ?_
        refine z_if_ne (tgt := 105) ok dX7_moved_97 (by decide) (by omega) (fun c97 => ?_) (fun c97 => ?_)
        · -- t
          refine z_iconst ok dX7_moved_105 ?_
          refine z_imul ok dX7_moved_106 ?_
          refine z_iadd ok dX7_moved_107 ?_
          refine z_iload ok dX7_moved_108 rfl ?_
          refine z_iadd ok dX7_moved_110 ?_
          refine z_iload ok dX7_moved_111 rfl ?_
          refine z_ifb_eq (tgt := 120) ok dX7_moved_113 (by decide) (fun c113 => ?_) (fun c113 => ?_)
          · -- t
            refine z_iconst ok dX7_moved_120 ?_
            refine z_iadd ok dX7_moved_121 ?_
            exact fin ((((10 * (nb now (s / 10) side)) + (5 * 1)) + (s % 5)) + 0) () 122 _ _ _ dX7_moved_122 (trivial) (by first | exact absurd c113 c73 | exact absurd c73 c113 | (unfold mvd nxt; rw [zif_t ⟨ho, by omega, fun z => by first | exact c73 z.1 | (have := z.2; omega)⟩]; (first | rw [zb_t c73] | rw [zb_f c73]); (try split) <;> omega)) (by decide) (by decide)
          · -- f
            exact absurd c113 c73
        · -- f
          refine z_iload ok dX7_moved_100 rfl ?_
          refine z_goto (tgt := 106) ok dX7_moved_102 (by decide) ?_
          refine z_imul ok dX7_moved_106 ?_
          refine z_iadd ok dX7_moved_107 ?_
          refine z_iload ok dX7_moved_108 rfl ?_
          refine z_iadd ok dX7_moved_110 ?_
          refine z_iload ok dX7_moved_111 rfl ?_
          refine z_ifb_eq (tgt := 120) ok dX7_moved_113 (by decide) (fun c113 => ?_) (fun c113 => ?_)
          · -- t
            refine z_iconst ok dX7_moved_120 ?_
            refine z_iadd ok dX7_moved_121 ?_
            exact fin ((((10 * (nb now (s / 10) side)) + (5 * ((s / 5) % 2))) + (s % 5)) + 0) () 122 _ _ _ dX7_moved_122 (trivial) (by first | exact absurd c113 c73 | exact absurd c73 c113 | (unfold mvd nxt; rw [zif_t ⟨ho, by omega, fun z => by first | exact c73 z.1 | (have := z.2; omega)⟩]; (first | rw [zb_t c73] | rw [zb_f c73]); (try split) <;> omega)) (by decide) (by decide)
          · -- f
            exact absurd c113 c73
      · -- f
        refine z_iload ok dX7_moved_76 rfl ?_
        refine z_aload_n ok dX7_moved_78 rfl ?_
        refine z_get (v := .ref (q 1)) ok zc7 0 rfl 0 (by decide) qf_RX7_7 rfl rfl dX7_moved_79 ?_
        refine z_iconst ok dX7_moved_82 ?_
        refine z_iald (f := now) ok 1 rfl dX7_moved_83 (by omega) (by decide) ?_
        refine z_icmp_lt (tgt := 90) ok dX7_moved_84 (by decide) (by omega) (by omega) (fun c84 => ?_) (fun c84 => ?_)
        · -- t
          refine z_bipush ok dX7_moved_90 (by decide) ?_
          refine z_iload ok dX7_moved_92 rfl ?_
          refine z_imul ok dX7_moved_94 ?_
          refine z_iconst ok dX7_moved_95 ?_
          refine z_iload_n ok dX7_moved_96 rfl ?_
          refine z_if_ne (tgt := 105) ok dX7_moved_97 (by decide) (by omega) (fun c97 => ?_) (fun c97 => ?_)
          · -- t
            refine z_iconst ok dX7_moved_105 ?_
            refine z_imul ok dX7_moved_106 ?_
            refine z_iadd ok dX7_moved_107 ?_
            refine z_iload ok dX7_moved_108 rfl ?_
            refine z_iadd ok dX7_moved_110 ?_
            refine z_iload ok dX7_moved_111 rfl ?_
            refine z_ifb_eq (tgt := 120) ok dX7_moved_113 (by decide) (fun c113 => ?_) (fun c113 => ?_)
            · -- t
              exact absurd c73 c113
            · -- f
              refine z_iconst ok dX7_moved_116 ?_
              refine z_goto (tgt := 121) ok dX7_moved_117 (by decide) ?_
              refine z_iadd ok dX7_moved_121 ?_
              exact fin ((((10 * (nb now (s / 10) side)) + (5 * 1)) + (s % 5)) + 1) () 122 _ _ _ dX7_moved_122 (trivial) (by first | exact absurd c113 c73 | exact absurd c73 c113 | (unfold mvd nxt; rw [zif_t ⟨ho, by omega, fun z => by first | exact c73 z.1 | (have := z.2; omega)⟩]; (first | rw [zb_t c73] | rw [zb_f c73]); (try split) <;> omega)) (by decide) (by decide)
          · -- f
            refine z_iload ok dX7_moved_100 rfl ?_
            refine z_goto (tgt := 106) ok dX7_moved_102 (by decide) ?_
            refine z_imul ok dX7_moved_106 ?_
            refine z_iadd ok dX7_moved_107 ?_
            refine z_iload ok dX7_moved_108 rfl ?_
            refine z_iadd ok dX7_moved_110 ?_
            refine z_iload ok dX7_moved_111 rfl ?_
            refine z_ifb_eq (tgt := 120) ok dX7_moved_113 (by decide) (fun c113 => ?_) (fun c113 => ?_)
            · -- t
              exact absurd c73 c113
            · -- f
              refine z_iconst ok dX7_moved_116 ?_
              refine z_goto (tgt := 121) ok dX7_moved_117 (by decide) ?_
              refine z_iadd ok dX7_moved_121 ?_
              exact fin ((((10 * (nb now (s / 10) side)) + (5 * ((s / 5) % 2))) + (s % 5)) + 1) () 122 _ _ _ dX7_moved_122 (trivial) (by first | exact absurd c113 c73 | exact absurd c73 c113 | (unfold mvd nxt; rw [zif_t ⟨ho, by omega, fun z => by first | exact c73 z.1 | (have := z.2; omega)⟩]; (first | rw [zb_t c73] | rw [zb_f c73]); (try split) <;> omega)) (by decide) (by decide)
        · -- f
          refine z_bipush ok dX7_moved_87 (by decide) ?_
          exact fin (-6) () 89 _ _ _ dX7_moved_89 (trivial) (by unfold mvd; exact (zif_f (fun z => z.2.2 ⟨c73, by omega⟩)).symm) (by decide) (by decide)
    · -- f
      refine z_iload_n ok dX7_moved_38 rfl ?_
      refine z_if_ne (tgt := 51) ok dX7_moved_39 (by decide) (by omega) (fun c39 => ?_) (fun c39 => ?_)
      · -- t
        have ho : opn now (s / 10) side := c25
        have hn0 := ho.1
        have hnm := nbm_nn hn0
        refine z_aload_n ok dX7_moved_51 rfl ?_
        refine z_iload ok dX7_moved_52 rfl ?_
        refine z_iload_n ok dX7_moved_54 rfl ?_
        refine z_callVi0 ok (fun l => c_X7_beside  (by omega) (by omega) (by omega) (by omega)) zm_X7_beside zv_X7_beside qm_RX7_63 dX7_moved_55 (by decide) (by decide) rfl rfl (Nat.le_of_ble_eq_true rfl) (q0 := 0) rfl rfl rfl (fun ρ _ hρ => ?_)
        subst hρ
        refine z_eq (ws' := mW Z q now kept hist und sav isv pad sg it far many laid sides stuck ord rd pl wr) rfl ?_
        rw [hnm]
        refine z_istore (lv' := [(7, .int (iI (nb now (s / 10) side))), (6, .int (iI (s % 5))), (5, .int (iI ((s / 5) % 2))), (4, .int (iI (s / 10))), (0, .ref (q 0)), (1, .int (iI s)), (2, .int (iI side)), (3, .int (iI to))]) ok dX7_moved_58 (by decide) rfl ?_
        refine z_aload_n ok dX7_moved_60 rfl ?_
        refine z_iload ok dX7_moved_61 rfl ?_
        refine z_iload ok dX7_moved_63 rfl ?_
        refine z_iload_n ok dX7_moved_65 rfl ?_
        refine z_callVi0 ok (fun l => c_X7_isDetour  (by omega) (by omega) (by omega) (by omega) (by omega)) zm_X7_isDetour zv_X7_isDetour qm_RX7_87 dX7_moved_66 (by decide) (by decide) rfl rfl (Nat.le_of_ble_eq_true rfl) (q0 := 0) rfl rfl rfl (fun ρ _ hρ => ?_)
        subst hρ
        refine z_eq (ws' := mW Z q now kept hist und sav isv pad sg it far many laid sides stuck ord rd pl wr) rfl ?_
        refine z_istore (lv' := [(8, .int (iI (zb (dtr now (s / 10) (nb now (s / 10) side) to)))), (7, .int (iI (nb now (s / 10) side))), (6, .int (iI (s % 5))), (5, .int (iI ((s / 5) % 2))), (4, .int (iI (s / 10))), (0, .ref (q 0)), (1, .int (iI s)), (2, .int (iI side)), (3, .int (iI to))]) ok dX7_moved_69 (by decide) rfl ?_
        refine z_iload ok dX7_moved_71 rfl ?_
        refine z_ifb_eq (tgt := 90) ok dX7_moved_73 (by decide) (fun c73 => ?_) (fun c73 => ?_)
        · -- t
          refine z_bipush ok dX7_moved_90 (by decide) ?_
          refine z_iload ok dX7_moved_92 rfl ?_
          refine z_imul ok dX7_moved_94 ?_
          refine z_iconst ok dX7_moved_95 ?_
          refine z_iload_n ok dX7_moved_96 rfl ?_
          refine z_if_ne (tgt := 105) ok dX7_moved_97 (by decide) (by omega) (fun c97 => ?_) (fun c97 => ?_)
          · -- t
            refine z_iconst ok dX7_moved_105 ?_
            refine z_imul ok dX7_moved_106 ?_
            refine z_iadd ok dX7_moved_107 ?_
            refine z_iload ok dX7_moved_108 rfl ?_
            refine z_iadd ok dX7_moved_110 ?_
            refine z_iload ok dX7_moved_111 rfl ?_
            refine z_ifb_eq (tgt := 120) ok dX7_moved_113 (by decide) (fun c113 => ?_) (fun c113 => ?_)
            · -- t
              refine z_iconst ok dX7_moved_120 ?_
              refine z_iadd ok dX7_moved_121 ?_
              exact fin ((((10 * (nb now (s / 10) side)) + (5 * 1)) + (s % 5)) + 0) () 122 _ _ _ dX7_moved_122 (trivial) (by first | exact absurd c113 c73 | exact absurd c73 c113 | (unfold mvd nxt; rw [zif_t ⟨ho, by omega, fun z => by first | exact c73 z.1 | (have := z.2; omega)⟩]; (first | rw [zb_t c73] | rw [zb_f c73]); (try split) <;> omega)) (by decide) (by decide)
            · -- f
              exact absurd c113 c73
          · -- f
            refine z_iload ok dX7_moved_100 rfl ?_
            refine z_goto (tgt := 106) ok dX7_moved_102 (by decide) ?_
            refine z_imul ok dX7_moved_106 ?_
            refine z_iadd ok dX7_moved_107 ?_
            refine z_iload ok dX7_moved_108 rfl ?_
            refine z_iadd ok dX7_moved_110 ?_
            refine z_iload ok dX7_moved_111 rfl ?_
            refine z_ifb_eq (tgt := 120) ok dX7_moved_113 (by decide) (fun c113 => ?_) (fun c113 => ?_)
            · -- t
              refine z_iconst ok dX7_moved_120 ?_
              refine z_iadd ok dX7_moved_121 ?_
              exact fin ((((10 * (nb now (s / 10) side)) + (5 * ((s / 5) % 2))) + (s % 5)) + 0) () 122 _ _ _ dX7_moved_122 (trivial) (by first | exact absurd c113 c73 | exact absurd c73 c113 | (unfold mvd nxt; rw [zif_t ⟨ho, by omega, fun z => by first | exact c73 z.1 | (have := z.2; omega)⟩]; (first | rw [zb_t c73] | rw [zb_f c73]); (try split) <;> omega)) (by decide) (by decide)
            · -- f
              exact absurd c113 c73
        · -- f
          refine z_iload ok dX7_moved_76 rfl ?_
          refine z_aload_n ok dX7_moved_78 rfl ?_
          refine z_get (v := .ref (q 1)) ok zc7 0 rfl 0 (by decide) qf_RX7_7 rfl rfl dX7_moved_79 ?_
          refine z_iconst ok dX7_moved_82 ?_
          refine z_iald (f := now) ok 1 rfl dX7_moved_83 (by omega) (by decide) ?_
          refine z_icmp_lt (tgt := 90) ok dX7_moved_84 (by decide) (by omega) (by omega) (fun c84 => ?_) (fun c84 => ?_)
          · -- t
            refine z_bipush ok dX7_moved_90 (by decide) ?_
            refine z_iload ok dX7_moved_92 rfl ?_
            refine z_imul ok dX7_moved_94 ?_
            refine z_iconst ok dX7_moved_95 ?_
            refine z_iload_n ok dX7_moved_96 rfl ?_
            refine z_if_ne (tgt := 105) ok dX7_moved_97 (by decide) (by omega) (fun c97 => ?_) (fun c97 => ?_)
            · -- t
              refine z_iconst ok dX7_moved_105 ?_
              refine z_imul ok dX7_moved_106 ?_
              refine z_iadd ok dX7_moved_107 ?_
              refine z_iload ok dX7_moved_108 rfl ?_
              refine z_iadd ok dX7_moved_110 ?_
              refine z_iload ok dX7_moved_111 rfl ?_
              refine z_ifb_eq (tgt := 120) ok dX7_moved_113 (by decide) (fun c113 => ?_) (fun c113 => ?_)
              · -- t
                exact absurd c73 c113
              · -- f
                refine z_iconst ok dX7_moved_116 ?_
                refine z_goto (tgt := 121) ok dX7_moved_117 (by decide) ?_
                refine z_iadd ok dX7_moved_121 ?_
                exact fin ((((10 * (nb now (s / 10) side)) + (5 * 1)) + (s % 5)) + 1) () 122 _ _ _ dX7_moved_122 (trivial) (by first | exact absurd c113 c73 | exact absurd c73 c113 | (unfold mvd nxt; rw [zif_t ⟨ho, by omega, fun z => by first | exact c73 z.1 | (have := z.2; omega)⟩]; (first | rw [zb_t c73] | rw [zb_f c73]); (try split) <;> omega)) (by decide) (by decide)
            · -- f
              refine z_iload ok dX7_moved_100 rfl ?_
              refine z_goto (tgt := 106) ok dX7_moved_102 (by decide) ?_
              refine z_imul ok dX7_moved_106 ?_
              refine z_iadd ok dX7_moved_107 ?_
              refine z_iload ok dX7_moved_108 rfl ?_
              refine z_iadd ok dX7_moved_110 ?_
              refine z_iload ok dX7_moved_111 rfl ?_
              refine z_ifb_eq (tgt := 120) ok dX7_moved_113 (by decide) (fun c113 => ?_) (fun c113 => ?_)
              · -- t
                exact absurd c73 c113
              · -- f
                refine z_iconst ok dX7_moved_116 ?_
                refine z_goto (tgt := 121) ok dX7_moved_117 (by decide) ?_
                refine z_iadd ok dX7_moved_121 ?_
                exact fin ((((10 * (nb now (s / 10) side)) + (5 * ((s / 5) % 2))) + (s % 5)) + 1) () 122 _ _ _ dX7_moved_122 (trivial) (by first | exact absurd c113 c73 | exact absurd c73 c113 | (unfold mvd nxt; rw [zif_t ⟨ho, by omega, fun z => by first | exact c73 z.1 | (have := z.2; omega)⟩]; (first | rw [zb_t c73] | rw [zb_f c73]); (try split) <;> omega)) (by decide) (by decide)
          · -- f
            refine z_bipush ok dX7_moved_87 (by decide) ?_
            exact fin (-6) () 89 _ _ _ dX7_moved_89 (trivial) (by unfold mvd; exact (zif_f (fun z => z.2.2 ⟨c73, by omega⟩)).symm) (by decide) (by decide)
      · -- f
        refine z_iload ok dX7_moved_42 rfl ?_
        refine z_iconst ok dX7_moved_44 ?_
        refine z_icmp_ne (tgt := 51) ok dX7_moved_45 (by decide) (by omega) (by omega) (fun c45 => ?_) (fun c45 => ?_)
        · -- t
          have ho : opn now (s / 10) side := c25
          have hn0 := ho.1
          have hnm := nbm_nn hn0
          refine z_aload_n ok dX7_moved_51 rfl ?_
          refine z_iload ok dX7_moved_52 rfl ?_
          refine z_iload_n ok dX7_moved_54 rfl ?_
          refine z_callVi0 ok (fun l => c_X7_beside  (by omega) (by omega) (by omega) (by omega)) zm_X7_beside zv_X7_beside qm_RX7_63 dX7_moved_55 (by decide) (by decide) rfl rfl (Nat.le_of_ble_eq_true rfl) (q0 := 0) rfl rfl rfl (fun ρ _ hρ => ?_)
          subst hρ
          refine z_eq (ws' := mW Z q now kept hist und sav isv pad sg it far many laid sides stuck ord rd pl wr) rfl ?_
          rw [hnm]
          refine z_istore (lv' := [(7, .int (iI (nb now (s / 10) side))), (6, .int (iI (s % 5))), (5, .int (iI ((s / 5) % 2))), (4, .int (iI (s / 10))), (0, .ref (q 0)), (1, .int (iI s)), (2, .int (iI side)), (3, .int (iI to))]) ok dX7_moved_58 (by decide) rfl ?_
          refine z_aload_n ok dX7_moved_60 rfl ?_
          refine z_iload ok dX7_moved_61 rfl ?_
          refine z_iload ok dX7_moved_63 rfl ?_
          refine z_iload_n ok dX7_moved_65 rfl ?_
          refine z_callVi0 ok (fun l => c_X7_isDetour  (by omega) (by omega) (by omega) (by omega) (by omega)) zm_X7_isDetour zv_X7_isDetour qm_RX7_87 dX7_moved_66 (by decide) (by decide) rfl rfl (Nat.le_of_ble_eq_true rfl) (q0 := 0) rfl rfl rfl (fun ρ _ hρ => ?_)
          subst hρ
          refine z_eq (ws' := mW Z q now kept hist und sav isv pad sg it far many laid sides stuck ord rd pl wr) rfl ?_
          refine z_istore (lv' := [(8, .int (iI (zb (dtr now (s / 10) (nb now (s / 10) side) to)))), (7, .int (iI (nb now (s / 10) side))), (6, .int (iI (s % 5))), (5, .int (iI ((s / 5) % 2))), (4, .int (iI (s / 10))), (0, .ref (q 0)), (1, .int (iI s)), (2, .int (iI side)), (3, .int (iI to))]) ok dX7_moved_69 (by decide) rfl ?_
          refine z_iload ok dX7_moved_71 rfl ?_
          refine z_ifb_eq (tgt := 90) ok dX7_moved_73 (by decide) (fun c73 => ?_) (fun c73 => ?_)
          · -- t
            refine z_bipush ok dX7_moved_90 (by decide) ?_
            refine z_iload ok dX7_moved_92 rfl ?_
            refine z_imul ok dX7_moved_94 ?_
            refine z_iconst ok dX7_moved_95 ?_
            refine z_iload_n ok dX7_moved_96 rfl ?_
            refine z_if_ne (tgt := 105) ok dX7_moved_97 (by decide) (by omega) (fun c97 => ?_) (fun c97 => ?_)
            · -- t
              refine z_iconst ok dX7_moved_105 ?_
              refine z_imul ok dX7_moved_106 ?_
              refine z_iadd ok dX7_moved_107 ?_
              refine z_iload ok dX7_moved_108 rfl ?_
              refine z_iadd ok dX7_moved_110 ?_
              refine z_iload ok dX7_moved_111 rfl ?_
              refine z_ifb_eq (tgt := 120) ok dX7_moved_113 (by decide) (fun c113 => ?_) (fun c113 => ?_)
              · -- t
                refine z_iconst ok dX7_moved_120 ?_
                refine z_iadd ok dX7_moved_121 ?_
                exact fin ((((10 * (nb now (s / 10) side)) + (5 * 1)) + (s % 5)) + 0) () 122 _ _ _ dX7_moved_122 (trivial) (by first | exact absurd c113 c73 | exact absurd c73 c113 | (unfold mvd nxt; rw [zif_t ⟨ho, by omega, fun z => by first | exact c73 z.1 | (have := z.2; omega)⟩]; (first | rw [zb_t c73] | rw [zb_f c73]); (try split) <;> omega)) (by decide) (by decide)
              · -- f
                exact absurd c113 c73
            · -- f
              refine z_iload ok dX7_moved_100 rfl ?_
              refine z_goto (tgt := 106) ok dX7_moved_102 (by decide) ?_
              refine z_imul ok dX7_moved_106 ?_
              refine z_iadd ok dX7_moved_107 ?_
              refine z_iload ok dX7_moved_108 rfl ?_
              refine z_iadd ok dX7_moved_110 ?_
              refine z_iload ok dX7_moved_111 rfl ?_
              refine z_ifb_eq (tgt := 120) ok dX7_moved_113 (by decide) (fun c113 => ?_) (fun c113 => ?_)
              · -- t
                refine z_iconst ok dX7_moved_120 ?_
                refine z_iadd ok dX7_moved_121 ?_
                exact fin ((((10 * (nb now (s / 10) side)) + (5 * ((s / 5) % 2))) + (s % 5)) + 0) () 122 _ _ _ dX7_moved_122 (trivial) (by first | exact absurd c113 c73 | exact absurd c73 c113 | (unfold mvd nxt; rw [zif_t ⟨ho, by omega, fun z => by first | exact c73 z.1 | (have := z.2; omega)⟩]; (first | rw [zb_t c73] | rw [zb_f c73]); (try split) <;> omega)) (by decide) (by decide)
              · -- f
                exact absurd c113 c73
          · -- f
            refine z_iload ok dX7_moved_76 rfl ?_
            refine z_aload_n ok dX7_moved_78 rfl ?_
            refine z_get (v := .ref (q 1)) ok zc7 0 rfl 0 (by decide) qf_RX7_7 rfl rfl dX7_moved_79 ?_
            refine z_iconst ok dX7_moved_82 ?_
            refine z_iald (f := now) ok 1 rfl dX7_moved_83 (by omega) (by decide) ?_
            refine z_icmp_lt (tgt := 90) ok dX7_moved_84 (by decide) (by omega) (by omega) (fun c84 => ?_) (fun c84 => ?_)
            · -- t
              refine z_bipush ok dX7_moved_90 (by decide) ?_
              refine z_iload ok dX7_moved_92 rfl ?_
              refine z_imul ok dX7_moved_94 ?_
              refine z_iconst ok dX7_moved_95 ?_
              refine z_iload_n ok dX7_moved_96 rfl ?_
              refine z_if_ne (tgt := 105) ok dX7_moved_97 (by decide) (by omega) (fun c97 => ?_) (fun c97 => ?_)
              · -- t
                refine z_iconst ok dX7_moved_105 ?_
                refine z_imul ok dX7_moved_106 ?_
                refine z_iadd ok dX7_moved_107 ?_
                refine z_iload ok dX7_moved_108 rfl ?_
                refine z_iadd ok dX7_moved_110 ?_
                refine z_iload ok dX7_moved_111 rfl ?_
                refine z_ifb_eq (tgt := 120) ok dX7_moved_113 (by decide) (fun c113 => ?_) (fun c113 => ?_)
                · -- t
                  exact absurd c73 c113
                · -- f
                  refine z_iconst ok dX7_moved_116 ?_
                  refine z_goto (tgt := 121) ok dX7_moved_117 (by decide) ?_
                  refine z_iadd ok dX7_moved_121 ?_
                  exact fin ((((10 * (nb now (s / 10) side)) + (5 * 1)) + (s % 5)) + 1) () 122 _ _ _ dX7_moved_122 (trivial) (by first | exact absurd c113 c73 | exact absurd c73 c113 | (unfold mvd nxt; rw [zif_t ⟨ho, by omega, fun z => by first | exact c73 z.1 | (have := z.2; omega)⟩]; (first | rw [zb_t c73] | rw [zb_f c73]); (try split) <;> omega)) (by decide) (by decide)
              · -- f
                refine z_iload ok dX7_moved_100 rfl ?_
                refine z_goto (tgt := 106) ok dX7_moved_102 (by decide) ?_
                refine z_imul ok dX7_moved_106 ?_
                refine z_iadd ok dX7_moved_107 ?_
                refine z_iload ok dX7_moved_108 rfl ?_
                refine z_iadd ok dX7_moved_110 ?_
                refine z_iload ok dX7_moved_111 rfl ?_
                refine z_ifb_eq (tgt := 120) ok dX7_moved_113 (by decide) (fun c113 => ?_) (fun c113 => ?_)
                · -- t
                  exact absurd c73 c113
                · -- f
                  refine z_iconst ok dX7_moved_116 ?_
                  refine z_goto (tgt := 121) ok dX7_moved_117 (by decide) ?_
                  refine z_iadd ok dX7_moved_121 ?_
                  exact fin ((((10 * (nb now (s / 10) side)) + (5 * ((s / 5) % 2))) + (s % 5)) + 1) () 122 _ _ _ dX7_moved_122 (trivial) (by first | exact absurd c113 c73 | exact absurd c73 c113 | (unfold mvd nxt; rw [zif_t ⟨ho, by omega, fun z => by first | exact c73 z.1 | (have := z.2; omega)⟩]; (first | rw [zb_t c73] | rw [zb_f c73]); (try split) <;> omega)) (by decide) (by decide)
            · -- f
              refine z_bipush ok dX7_moved_87 (by decide) ?_
              exact fin (-6) () 89 _ _ _ dX7_moved_89 (trivial) (by unfold mvd; exact (zif_f (fun z => z.2.2 ⟨c73, by omega⟩)).symm) (by decide) (by decide)
        · -- f
          refine z_bipush ok dX7_moved_48 (by decide) ?_
          exact fin (-6) () 50 _ _ _ dX7_moved_50 (trivial) (by unfold mvd; exact (zif_f (fun z => by first | exact c25 z.1 | exact z.2.1 ⟨by omega, by omega, by omega⟩)).symm) (by decide) (by decide)
set_option maxRecDepth 20000 in
theorem c_X7_of {l : Launch} {Z : zZ} {q : Nat → Nat} {now kept hist : Int → Int} {und : Int} {sav isv pad : Int → Int} {sg it : Int} {far many laid sides stuck ord : Int → Int} {rd pl wr : Int} {p j : Int} (hp : 0 ≤ p ∧ p < 40) (hj : 0 ≤ j ∧ j ≤ 9) : zI (T := Unit) l yX7_of (Cond.code yX7_of cX7_of 3 (some .int) :: wsL_law) ({ frames := 0, cells := 0, slots := 0, locals := 0 } : Room) Z [.ref (q 0), .int (iI p), .int (iI j)] (mW Z q now kept hist und sav isv pad sg it far many laid sides stuck ord rd pl wr) (fun _ => mW Z q now kept hist und sav isv pad sg it far many laid sides stuck ord rd pl wr) (fun ρ _ => ρ = pk now p j) := by
  refine zI_of (C := RX7) (by decide +kernel) rfl (Nat.le_of_ble_eq_true rfl) (fun _ => True) znI (fun X ok fin => ?_)
  refine z_lsub ok (lv' := [(0, .ref (q 0)), (1, .int (iI p)), (2, .int (iI j))]) [0, 1, 2] rfl ?_
  refine z_aload_n ok dX7_of_0 rfl ?_
  refine z_get (v := .ref (q 1)) ok zc7 0 rfl 0 (by decide) qf_RX7_7 rfl rfl dX7_of_1 ?_
  refine z_sipush ok dX7_of_4 (by decide) ?_
  refine z_bipush ok dX7_of_7 (by decide) ?_
  refine z_iload_n ok dX7_of_9 rfl ?_
  refine z_imul ok dX7_of_10 ?_
  refine z_iadd ok dX7_of_11 ?_
  refine z_iload_n ok dX7_of_12 rfl ?_
  refine z_iadd ok dX7_of_13 ?_
  refine z_iald (f := now) ok 1 rfl dX7_of_14 (by omega) (by decide) ?_
  exact fin (now ((160 + (10 * p)) + j)) () 15 _ _ _ dX7_of_15 (trivial) (rfl) (by decide) (by decide)
set_option maxRecDepth 20000 in
theorem c_X7_book {l : Launch} {Z : zZ} {q : Nat → Nat} {now kept hist : Int → Int} {und : Int} {sav isv pad : Int → Int} {sg it : Int} {far many laid sides stuck ord : Int → Int} {rd pl wr : Int} {p j v : Int} (hp : 0 ≤ p ∧ p < 40) (hj : 0 ≤ j ∧ j ≤ 9) : zN (T := Unit) l yX7_book (Cond.code yX7_book cX7_book 4 none :: wsL_law) ({ frames := 0, cells := 0, slots := 0, locals := 0 } : Room) Z [.ref (q 0), .int (iI p), .int (iI j), .int (iI v)] (mW Z q now kept hist und sav isv pad sg it far many laid sides stuck ord rd pl wr) (fun _ => mW Z q (bk now p j v) kept hist und sav isv pad sg it far many laid sides stuck ord rd pl wr) (fun _ => True) := by
  refine zN_of (C := RX7) (by decide +kernel) rfl (Nat.le_of_ble_eq_true rfl) (fun X ok fin => ?_)
  refine z_lsub ok (lv' := [(0, .ref (q 0)), (1, .int (iI p)), (2, .int (iI j)), (3, .int (iI v))]) [0, 1, 2, 3] rfl ?_
  refine z_aload_n ok dX7_book_0 rfl ?_
  refine z_get (v := .ref (q 1)) ok zc7 0 rfl 0 (by decide) qf_RX7_7 rfl rfl dX7_book_1 ?_
  refine z_sipush ok dX7_book_4 (by decide) ?_
  refine z_bipush ok dX7_book_7 (by decide) ?_
  refine z_iload_n ok dX7_book_9 rfl ?_
  refine z_imul ok dX7_book_10 ?_
  refine z_iadd ok dX7_book_11 ?_
  refine z_iload_n ok dX7_book_12 rfl ?_
  refine z_iadd ok dX7_book_13 ?_
  refine z_iload_n ok dX7_book_14 rfl ?_
  refine z_iast (f := now) (v := v) (ws' := mW Z q (zu now ((160 + (10 * p)) + j) v) kept hist und sav isv pad sg it far many laid sides stuck ord rd pl wr) ok 1 rfl dX7_book_15 (by omega) (by decide) rfl ?_
  exact fin () 16 _ _ _ dX7_book_16 (trivial) (by decide) (by decide)
set_option maxRecDepth 20000 in
theorem c_X7_standing {l : Launch} {Z : zZ} {q : Nat → Nat} {now kept hist : Int → Int} {und : Int} {sav isv pad : Int → Int} {sg it : Int} {far many laid sides stuck ord : Int → Int} {rd pl wr : Int} {p : Int} (hp : 0 ≤ p ∧ p < 40) : zI (T := Unit) l yX7_standing (Cond.code yX7_standing cX7_standing 2 (some .int) :: wsL_law) ({ frames := 1, cells := 0, slots := 0, locals := 22 } : Room) Z [.ref (q 0), .int (iI p)] (mW Z q now kept hist und sav isv pad sg it far many laid sides stuck ord rd pl wr) (fun _ => mW Z q now kept hist und sav isv pad sg it far many laid sides stuck ord rd pl wr) (fun ρ _ => ρ = stg now p) := by
  refine zI_of (C := RX7) (by decide +kernel) rfl (Nat.le_of_ble_eq_true rfl) (fun _ => True) znI (fun X ok fin => ?_)
  refine z_lsub ok (lv' := [(0, .ref (q 0)), (1, .int (iI p))]) [0, 1] rfl ?_
  refine z_bipush ok dX7_standing_0 (by decide) ?_
  refine z_aload_n ok dX7_standing_2 rfl ?_
  refine z_iload_n ok dX7_standing_3 rfl ?_
  refine z_iconst ok dX7_standing_4 ?_
  refine z_callVi0 ok (fun l => c_X7_of  (by omega) (by omega)) zm_X7_of zv_X7_of qm_RX7_98 dX7_standing_5 (by decide) (by decide) rfl rfl (Nat.le_of_ble_eq_true rfl) (q0 := 0) rfl rfl rfl (fun ρ _ hρ => ?_)
  subst hρ
  refine z_eq (ws' := mW Z q now kept hist und sav isv pad sg it far many laid sides stuck ord rd pl wr) rfl ?_
  refine z_imul ok dX7_standing_8 ?_
  refine z_iconst ok dX7_standing_9 ?_
  refine z_aload_n ok dX7_standing_10 rfl ?_
  refine z_iload_n ok dX7_standing_11 rfl ?_
  refine z_bipush ok dX7_standing_12 (by decide) ?_
  refine z_callVi0 ok (fun l => c_X7_of  (by omega) (by omega)) zm_X7_of zv_X7_of qm_RX7_98 dX7_standing_14 (by decide) (by decide) rfl rfl (Nat.le_of_ble_eq_true rfl) (q0 := 0) rfl rfl rfl (fun ρ _ hρ => ?_)
  subst hρ
  refine z_eq (ws' := mW Z q now kept hist und sav isv pad sg it far many laid sides stuck ord rd pl wr) rfl ?_
  refine z_imul ok dX7_standing_17 ?_
  refine z_iadd ok dX7_standing_18 ?_
  refine z_aload_n ok dX7_standing_19 rfl ?_
  refine z_iload_n ok dX7_standing_20 rfl ?_
  refine z_iconst ok dX7_standing_21 ?_
  refine z_callVi0 ok (fun l => c_X7_of  (by omega) (by omega)) zm_X7_of zv_X7_of qm_RX7_98 dX7_standing_22 (by decide) (by decide) rfl rfl (Nat.le_of_ble_eq_true rfl) (q0 := 0) rfl rfl rfl (fun ρ _ hρ => ?_)
  subst hρ
  refine z_eq (ws' := mW Z q now kept hist und sav isv pad sg it far many laid sides stuck ord rd pl wr) rfl ?_
  refine z_iadd ok dX7_standing_25 ?_
  exact fin (((10 * (pk now p 3)) + (5 * (pk now p 9))) + (pk now p 5)) () 26 _ _ _ dX7_standing_26 (trivial) (rfl) (by decide) (by decide)
set_option maxRecDepth 20000 in
theorem c_X7_isPacket {l : Launch} {Z : zZ} {q : Nat → Nat} {now kept hist : Int → Int} {und : Int} {sav isv pad : Int → Int} {sg it : Int} {far many laid sides stuck ord : Int → Int} {rd pl wr : Int} {p : Int} (h6 : 0 ≤ now 6 ∧ now 6 ≤ 40) (hp : -2147483648 ≤ p ∧ p < 2147483648) : zI (T := Unit) l yX7_isPacket (Cond.code yX7_isPacket cX7_isPacket 2 (some .boolean) :: wsL_law) ({ frames := 1, cells := 0, slots := 0, locals := 22 } : Room) Z [.ref (q 0), .int (iI p)] (mW Z q now kept hist und sav isv pad sg it far many laid sides stuck ord rd pl wr) (fun _ => mW Z q now kept hist und sav isv pad sg it far many laid sides stuck ord rd pl wr) (fun ρ _ => ρ = zb (0 ≤ p ∧ p < now 6)) := by
  refine zI_of (C := RX7) (by decide +kernel) rfl (Nat.le_of_ble_eq_true rfl) (fun ρ => ρ = 0 ∨ ρ = 1) znZ (fun X ok fin => ?_)
  refine z_lsub ok (lv' := [(0, .ref (q 0)), (1, .int (iI p))]) [0, 1] rfl ?_
  refine z_iload_n ok dX7_isPacket_0 rfl ?_
  refine z_iconst ok dX7_isPacket_1 ?_
  refine z_aload_n ok dX7_isPacket_2 rfl ?_
  refine z_get (v := .ref (q 1)) ok zc7 0 rfl 0 (by decide) qf_RX7_7 rfl rfl dX7_isPacket_3 ?_
  refine z_bipush ok dX7_isPacket_6 (by decide) ?_
  refine z_iald (f := now) ok 1 rfl dX7_isPacket_8 (by omega) (by decide) ?_
  refine z_iconst ok dX7_isPacket_9 ?_
  refine z_isub ok dX7_isPacket_10 ?_
  refine z_callSie ok (fun l => c_X7_in  (by omega) (by omega) (by omega)) zm_X7_in qt_X7_in qm_RX7_59 dX7_isPacket_11 (by decide) (by decide) rfl rfl (Nat.le_of_ble_eq_true rfl) (fun ρ _ hρ => ?_)
  subst hρ
  exact fin (zb (0 ≤ p ∧ p ≤ ((now 6) - 1))) () 14 _ _ _ dX7_isPacket_14 (by first | decide | exact zb_01 _ | omega) (zb_cong (by omega)) (by decide) (by decide)
set_option maxRecDepth 20000 in
theorem c_X7_insideOf {l : Launch} {Z : zZ} {q : Nat → Nat} {now kept hist : Int → Int} {und : Int} {sav isv pad : Int → Int} {sg it : Int} {far many laid sides stuck ord : Int → Int} {rd pl wr : Int} {box : Int} (hw : wf now) (hb : -2147483648 ≤ box ∧ box < 2147483648) : zI (T := Unit) l yX7_insideOf (Cond.code yX7_insideOf cX7_insideOf 4 (some .int) :: wsL_law) ({ frames := 1, cells := 0, slots := 0, locals := 22 } : Room) Z [.ref (q 0), .int (iI box)] (mW Z q now kept hist und sav isv pad sg it far many laid sides stuck ord rd pl wr) (fun _ => mW Z q now kept hist und sav isv pad sg it far many laid sides stuck ord rd pl wr) (fun ρ _ => ρ = ins now box) := by
  refine zI_of (C := RX7) (by decide +kernel) rfl (Nat.le_of_ble_eq_true rfl) (fun _ => True) znI (fun X ok fin => ?_)
  obtain ⟨w0, w1, w2, hc, hr, w6, wl, wp⟩ := id hw
  have hcr := cr_rng hc hr
  refine z_lsub ok (lv' := [(0, .ref (q 0)), (1, .int (iI box))]) [0, 1] rfl ?_
  refine z_iconst ok dX7_insideOf_0 ?_
  refine z_istore_n (lv' := [(2, .int (iI 0)), (0, .ref (q 0)), (1, .int (iI box))]) ok dX7_insideOf_1 (by decide) rfl ?_
  refine z_iconst ok dX7_insideOf_2 ?_
  refine z_istore_n (lv' := [(3, .int (iI 0)), (2, .int (iI 0)), (0, .ref (q 0)), (1, .int (iI box))]) ok dX7_insideOf_3 (by decide) rfl ?_
  have L4 : ∀ (fuel : Nat) (i n : Int), (0 ≤ i) → (i ≤ now 6) → (n = zS (insf now box) i.toNat) → (now 6 - i).toNat < fuel → zV X 0 0 (mW Z q now kept hist und sav isv pad sg it far many laid sides stuck ord rd pl wr) 4 [(0, .ref (q 0)), (1, .int (iI box)), (2, .int (iI n)), (3, .int (iI i))] [] := by
    intro fuel
    induction fuel with
    | zero => intro i n h4_0 h4_1 h4_2 hf; exact absurd hf (Nat.not_lt_zero _)
    | succ fuel ih4 =>
      intro i n h4_0 h4_1 h4_2 hf
      refine z_iload_n ok dX7_insideOf_4 rfl ?_
      refine z_aload_n ok dX7_insideOf_5 rfl ?_
      refine z_get (v := .ref (q 1)) ok zc7 0 rfl 0 (by decide) qf_RX7_7 rfl rfl dX7_insideOf_6 ?_
      refine z_bipush ok dX7_insideOf_9 (by decide) ?_
      refine z_iald (f := now) ok 1 rfl dX7_insideOf_11 (by omega) (by decide) ?_
      refine z_icmp_ge (tgt := 49) ok dX7_insideOf_12 (by decide) (by omega) (by omega) (fun c12 => ?_) (fun c12 => ?_)
      · -- t
        refine z_iload_n ok dX7_insideOf_49 rfl ?_
        exact fin n () 50 _ _ _ dX7_insideOf_50 (trivial) (by rw [h4_2, show i = now 6 by omega]; rfl) (by decide) (by decide)
      · -- f
        have wpi := wp i (by omega) (by omega)
        refine z_iload_n ok dX7_insideOf_15 rfl ?_
        refine z_aload_n ok dX7_insideOf_16 rfl ?_
        refine z_iload_n ok dX7_insideOf_17 rfl ?_
        refine z_iconst ok dX7_insideOf_18 ?_
        refine z_callVi0 ok (fun l => c_X7_of  (by omega) (by omega)) zm_X7_of zv_X7_of qm_RX7_98 dX7_insideOf_19 (by decide) (by decide) rfl rfl (Nat.le_of_ble_eq_true rfl) (q0 := 0) rfl rfl rfl (fun ρ _ hρ => ?_)
        subst hρ
        refine z_eq (ws' := mW Z q now kept hist und sav isv pad sg it far many laid sides stuck ord rd pl wr) rfl ?_
        refine z_iconst ok dX7_insideOf_22 ?_
        refine z_icmp_ne (tgt := 40) ok dX7_insideOf_23 (by decide) (by omega) (by omega) (fun c23 => ?_) (fun c23 => ?_)
        · -- t
          refine z_iconst ok dX7_insideOf_40 ?_
          refine z_iadd ok dX7_insideOf_41 ?_
          refine z_istore_n (lv' := [(2, .int (iI (n + 0))), (0, .ref (q 0)), (1, .int (iI box)), (3, .int (iI i))]) ok dX7_insideOf_42 (by decide) rfl ?_
          refine z_iinc (lv' := [(3, .int (iI (i + 1))), (2, .int (iI (n + 0))), (0, .ref (q 0)), (1, .int (iI box))]) ok dX7_insideOf_43 3 rfl (by decide) rfl ?_
          refine z_goto (tgt := 4) ok dX7_insideOf_46 (by decide) ?_
          refine z_lsub ok (lv' := [(0, .ref (q 0)), (1, .int (iI box)), (2, .int (iI (n + 0))), (3, .int (iI (i + 1)))]) [2, 3, 1, 0] rfl ?_
          exact ih4 _ _ (by omega) (by omega) (by rw [zS_s (by omega)]; first | (rw [show insf now box i = 1 from zb_t (by omega)]; omega) | (rw [show insf now box i = 0 from zb_f (by omega)]; omega)) (by omega)
        · -- f
          refine z_aload_n ok dX7_insideOf_26 rfl ?_
          refine z_iload_n ok dX7_insideOf_27 rfl ?_
          refine z_iconst ok dX7_insideOf_28 ?_
          refine z_callVi0 ok (fun l => c_X7_of  (by omega) (by omega)) zm_X7_of zv_X7_of qm_RX7_98 dX7_insideOf_29 (by decide) (by decide) rfl rfl (Nat.le_of_ble_eq_true rfl) (q0 := 0) rfl rfl rfl (fun ρ _ hρ => ?_)
          subst hρ
          refine z_eq (ws' := mW Z q now kept hist und sav isv pad sg it far many laid sides stuck ord rd pl wr) rfl ?_
          refine z_iload_n ok dX7_insideOf_32 rfl ?_
          refine z_icmp_ne (tgt := 40) ok dX7_insideOf_33 (by decide) (by omega) (by omega) (fun c33 => ?_) (fun c33 => ?_)
          · -- t
            refine z_iconst ok dX7_insideOf_40 ?_
            refine z_iadd ok dX7_insideOf_41 ?_
            refine z_istore_n (lv' := [(2, .int (iI (n + 0))), (0, .ref (q 0)), (1, .int (iI box)), (3, .int (iI i))]) ok dX7_insideOf_42 (by decide) rfl ?_
            refine z_iinc (lv' := [(3, .int (iI (i + 1))), (2, .int (iI (n + 0))), (0, .ref (q 0)), (1, .int (iI box))]) ok dX7_insideOf_43 3 rfl (by decide) rfl ?_
            refine z_goto (tgt := 4) ok dX7_insideOf_46 (by decide) ?_
            refine z_lsub ok (lv' := [(0, .ref (q 0)), (1, .int (iI box)), (2, .int (iI (n + 0))), (3, .int (iI (i + 1)))]) [2, 3, 1, 0] rfl ?_
            exact ih4 _ _ (by omega) (by omega) (by rw [zS_s (by omega)]; first | (rw [show insf now box i = 1 from zb_t (by omega)]; omega) | (rw [show insf now box i = 0 from zb_f (by omega)]; omega)) (by omega)
          · -- f
            refine z_iconst ok dX7_insideOf_36 ?_
            refine z_goto (tgt := 41) ok dX7_insideOf_37 (by decide) ?_
            refine z_iadd ok dX7_insideOf_41 ?_
            refine z_istore_n (lv' := [(2, .int (iI (n + 1))), (0, .ref (q 0)), (1, .int (iI box)), (3, .int (iI i))]) ok dX7_insideOf_42 (by decide) rfl ?_
            refine z_iinc (lv' := [(3, .int (iI (i + 1))), (2, .int (iI (n + 1))), (0, .ref (q 0)), (1, .int (iI box))]) ok dX7_insideOf_43 3 rfl (by decide) rfl ?_
            refine z_goto (tgt := 4) ok dX7_insideOf_46 (by decide) ?_
            refine z_lsub ok (lv' := [(0, .ref (q 0)), (1, .int (iI box)), (2, .int (iI (n + 1))), (3, .int (iI (i + 1)))]) [2, 3, 1, 0] rfl ?_
            exact ih4 _ _ (by omega) (by omega) (by rw [zS_s (by omega)]; first | (rw [show insf now box i = 1 from zb_t (by omega)]; omega) | (rw [show insf now box i = 0 from zb_f (by omega)]; omega)) (by omega)
  refine z_lsub ok (lv' := [(0, .ref (q 0)), (1, .int (iI box)), (2, .int (iI 0)), (3, .int (iI 0))]) [2, 3, 1, 0] rfl ?_
  exact L4 _ _ _ (by omega) (by omega) (rfl) (Nat.lt_succ_self _)
set_option maxRecDepth 20000 in
theorem c_X7_hasRoom {l : Launch} {Z : zZ} {q : Nat → Nat} {now kept hist : Int → Int} {und : Int} {sav isv pad : Int → Int} {sg it : Int} {far many laid sides stuck ord : Int → Int} {rd pl wr : Int} {box : Int} (hw : wf now) (hb : -2147483648 ≤ box ∧ box < 2147483648) : zI (T := Unit) l yX7_hasRoom (Cond.code yX7_hasRoom cX7_hasRoom 2 (some .boolean) :: wsL_law) ({ frames := 2, cells := 0, slots := 0, locals := 45 } : Room) Z [.ref (q 0), .int (iI box)] (mW Z q now kept hist und sav isv pad sg it far many laid sides stuck ord rd pl wr) (fun _ => mW Z q now kept hist und sav isv pad sg it far many laid sides stuck ord rd pl wr) (fun ρ _ => ρ = zb (ins now box < now 2)) := by
  refine zI_of (C := RX7) (by decide +kernel) rfl (Nat.le_of_ble_eq_true rfl) (fun ρ => ρ = 0 ∨ ρ = 1) znZ (fun X ok fin => ?_)
  obtain ⟨w0, w1, w2, hc, hr, w6, wl, wp⟩ := id hw
  have hcr := cr_rng hc hr
  have hin := ins_rng (b := box) hw
  refine z_lsub ok (lv' := [(0, .ref (q 0)), (1, .int (iI box))]) [0, 1] rfl ?_
  refine z_aload_n ok dX7_hasRoom_0 rfl ?_
  refine z_iload_n ok dX7_hasRoom_1 rfl ?_
  refine z_callVi0 ok (fun l => c_X7_insideOf  (hw) (hb)) zm_X7_insideOf zv_X7_insideOf qm_RX7_108 dX7_hasRoom_2 (by decide) (by decide) rfl rfl (Nat.le_of_ble_eq_true rfl) (q0 := 0) rfl rfl rfl (fun ρ _ hρ => ?_)
  subst hρ
  refine z_eq (ws' := mW Z q now kept hist und sav isv pad sg it far many laid sides stuck ord rd pl wr) rfl ?_
  refine z_aload_n ok dX7_hasRoom_5 rfl ?_
  refine z_get (v := .ref (q 1)) ok zc7 0 rfl 0 (by decide) qf_RX7_7 rfl rfl dX7_hasRoom_6 ?_
  refine z_iconst ok dX7_hasRoom_9 ?_
  refine z_iald (f := now) ok 1 rfl dX7_hasRoom_10 (by omega) (by decide) ?_
  refine z_icmp_ge (tgt := 18) ok dX7_hasRoom_11 (by decide) (by omega) (by omega) (fun c11 => ?_) (fun c11 => ?_)
  · -- t
    refine z_iconst ok dX7_hasRoom_18 ?_
    exact fin 0 () 19 _ _ _ dX7_hasRoom_19 (by first | decide | exact zb_01 _ | omega) (by first | exact (zb_t (by omega)).symm | exact (zb_f (by omega)).symm) (by decide) (by decide)
  · -- f
    refine z_iconst ok dX7_hasRoom_14 ?_
    refine z_goto (tgt := 19) ok dX7_hasRoom_15 (by decide) ?_
    exact fin 1 () 19 _ _ _ dX7_hasRoom_19 (by first | decide | exact zb_01 _ | omega) (by first | exact (zb_t (by omega)).symm | exact (zb_f (by omega)).symm) (by decide) (by decide)
set_option maxRecDepth 20000 in
theorem c_X7_packetsOf {l : Launch} {Z : zZ} {q : Nat → Nat} {now kept hist : Int → Int} {und : Int} {sav isv pad : Int → Int} {sg it : Int} {far many laid sides stuck ord : Int → Int} {rd pl wr : Int} {box t : Int} (hw : wf now) (hb : -2147483648 ≤ box ∧ box < 2147483648) (ht : -2147483648 ≤ t ∧ t < 2147483648) : zI (T := Unit) l yX7_packetsOf (Cond.code yX7_packetsOf cX7_packetsOf 5 (some .int) :: wsL_law) ({ frames := 1, cells := 0, slots := 0, locals := 22 } : Room) Z [.ref (q 0), .int (iI box), .int (iI t)] (mW Z q now kept hist und sav isv pad sg it far many laid sides stuck ord rd pl wr) (fun _ => mW Z q now kept hist und sav isv pad sg it far many laid sides stuck ord rd pl wr) (fun ρ _ => ρ = cnt now box t) := by
  refine zI_of (C := RX7) (by decide +kernel) rfl (Nat.le_of_ble_eq_true rfl) (fun _ => True) znI (fun X ok fin => ?_)
  obtain ⟨w0, w1, w2, hc, hr, w6, wl, wp⟩ := id hw
  have hcr := cr_rng hc hr
  refine z_lsub ok (lv' := [(0, .ref (q 0)), (1, .int (iI box)), (2, .int (iI t))]) [0, 1, 2] rfl ?_
  refine z_iconst ok dX7_packetsOf_0 ?_
  refine z_istore_n (lv' := [(3, .int (iI 0)), (0, .ref (q 0)), (1, .int (iI box)), (2, .int (iI t))]) ok dX7_packetsOf_1 (by decide) rfl ?_
  refine z_iconst ok dX7_packetsOf_2 ?_
  refine z_istore (lv' := [(4, .int (iI 0)), (3, .int (iI 0)), (0, .ref (q 0)), (1, .int (iI box)), (2, .int (iI t))]) ok dX7_packetsOf_3 (by decide) rfl ?_
  have L5 : ∀ (fuel : Nat) (i n : Int), (0 ≤ i) → (i ≤ now 6) → (n = zS (cntf now box t) i.toNat) → (now 6 - i).toNat < fuel → zV X 0 0 (mW Z q now kept hist und sav isv pad sg it far many laid sides stuck ord rd pl wr) 5 [(0, .ref (q 0)), (1, .int (iI box)), (2, .int (iI t)), (3, .int (iI n)), (4, .int (iI i))] [] := by
    intro fuel
    induction fuel with
    | zero => intro i n h5_0 h5_1 h5_2 hf; exact absurd hf (Nat.not_lt_zero _)
    | succ fuel ih5 =>
      intro i n h5_0 h5_1 h5_2 hf
      refine z_iload ok dX7_packetsOf_5 rfl ?_
      refine z_aload_n ok dX7_packetsOf_7 rfl ?_
      refine z_get (v := .ref (q 1)) ok zc7 0 rfl 0 (by decide) qf_RX7_7 rfl rfl dX7_packetsOf_8 ?_
      refine z_bipush ok dX7_packetsOf_11 (by decide) ?_
      refine z_iald (f := now) ok 1 rfl dX7_packetsOf_13 (by omega) (by decide) ?_
      refine z_icmp_ge (tgt := 57) ok dX7_packetsOf_14 (by decide) (by omega) (by omega) (fun c14 => ?_) (fun c14 => ?_)
      · -- t
        refine z_iload_n ok dX7_packetsOf_57 rfl ?_
        exact fin n () 58 _ _ _ dX7_packetsOf_58 (trivial) (by rw [h5_2, show i = now 6 by omega]; rfl) (by decide) (by decide)
      · -- f
        have wpi := wp i (by omega) (by omega)
        refine z_iload_n ok dX7_packetsOf_17 rfl ?_
        refine z_aload_n ok dX7_packetsOf_18 rfl ?_
        refine z_iload ok dX7_packetsOf_19 rfl ?_
        refine z_iconst ok dX7_packetsOf_21 ?_
        refine z_callVi0 ok (fun l => c_X7_of  (by omega) (by omega)) zm_X7_of zv_X7_of qm_RX7_98 dX7_packetsOf_22 (by decide) (by decide) rfl rfl (Nat.le_of_ble_eq_true rfl) (q0 := 0) rfl rfl rfl (fun ρ _ hρ => ?_)
        subst hρ
        refine z_eq (ws' := mW Z q now kept hist und sav isv pad sg it far many laid sides stuck ord rd pl wr) rfl ?_
        refine z_iload_n ok dX7_packetsOf_25 rfl ?_
        refine z_icmp_ne (tgt := 48) ok dX7_packetsOf_26 (by decide) (by omega) (by omega) (fun c26 => ?_) (fun c26 => ?_)
        · -- t
          refine z_iconst ok dX7_packetsOf_48 ?_
          refine z_iadd ok dX7_packetsOf_49 ?_
          refine z_istore_n (lv' := [(3, .int (iI (n + 0))), (0, .ref (q 0)), (1, .int (iI box)), (2, .int (iI t)), (4, .int (iI i))]) ok dX7_packetsOf_50 (by decide) rfl ?_
          refine z_iinc (lv' := [(4, .int (iI (i + 1))), (3, .int (iI (n + 0))), (0, .ref (q 0)), (1, .int (iI box)), (2, .int (iI t))]) ok dX7_packetsOf_51 4 rfl (by decide) rfl ?_
          refine z_goto (tgt := 5) ok dX7_packetsOf_54 (by decide) ?_
          refine z_lsub ok (lv' := [(0, .ref (q 0)), (1, .int (iI box)), (2, .int (iI t)), (3, .int (iI (n + 0))), (4, .int (iI (i + 1)))]) [2, 3, 4, 1, 0] rfl ?_
          exact ih5 _ _ (by omega) (by omega) (by rw [zS_s (by omega)]; first | (rw [show cntf now box t i = 1 from zb_t (by omega)]; omega) | (rw [show cntf now box t i = 0 from zb_f (by omega)]; omega)) (by omega)
        · -- f
          refine z_iload_n ok dX7_packetsOf_29 rfl ?_
          refine z_if_lt (tgt := 44) ok dX7_packetsOf_30 (by decide) (by omega) (fun c30 => ?_) (fun c30 => ?_)
          · -- t
            refine z_iconst ok dX7_packetsOf_44 ?_
            refine z_goto (tgt := 49) ok dX7_packetsOf_45 (by decide) ?_
            refine z_iadd ok dX7_packetsOf_49 ?_
            refine z_istore_n (lv' := [(3, .int (iI (n + 1))), (0, .ref (q 0)), (1, .int (iI box)), (2, .int (iI t)), (4, .int (iI i))]) ok dX7_packetsOf_50 (by decide) rfl ?_
            refine z_iinc (lv' := [(4, .int (iI (i + 1))), (3, .int (iI (n + 1))), (0, .ref (q 0)), (1, .int (iI box)), (2, .int (iI t))]) ok dX7_packetsOf_51 4 rfl (by decide) rfl ?_
            refine z_goto (tgt := 5) ok dX7_packetsOf_54 (by decide) ?_
            refine z_lsub ok (lv' := [(0, .ref (q 0)), (1, .int (iI box)), (2, .int (iI t)), (3, .int (iI (n + 1))), (4, .int (iI (i + 1)))]) [2, 3, 4, 1, 0] rfl ?_
            exact ih5 _ _ (by omega) (by omega) (by rw [zS_s (by omega)]; first | (rw [show cntf now box t i = 1 from zb_t (by omega)]; omega) | (rw [show cntf now box t i = 0 from zb_f (by omega)]; omega)) (by omega)
          · -- f
            refine z_aload_n ok dX7_packetsOf_33 rfl ?_
            refine z_iload ok dX7_packetsOf_34 rfl ?_
            refine z_iconst ok dX7_packetsOf_36 ?_
            refine z_callVi0 ok (fun l => c_X7_of  (by omega) (by omega)) zm_X7_of zv_X7_of qm_RX7_98 dX7_packetsOf_37 (by decide) (by decide) rfl rfl (Nat.le_of_ble_eq_true rfl) (q0 := 0) rfl rfl rfl (fun ρ _ hρ => ?_)
            subst hρ
            refine z_eq (ws' := mW Z q now kept hist und sav isv pad sg it far many laid sides stuck ord rd pl wr) rfl ?_
            refine z_iload_n ok dX7_packetsOf_40 rfl ?_
            refine z_icmp_ne (tgt := 48) ok dX7_packetsOf_41 (by decide) (by omega) (by omega) (fun c41 => ?_) (fun c41 => ?_)
            · -- t
              refine z_iconst ok dX7_packetsOf_48 ?_
              refine z_iadd ok dX7_packetsOf_49 ?_
              refine z_istore_n (lv' := [(3, .int (iI (n + 0))), (0, .ref (q 0)), (1, .int (iI box)), (2, .int (iI t)), (4, .int (iI i))]) ok dX7_packetsOf_50 (by decide) rfl ?_
              refine z_iinc (lv' := [(4, .int (iI (i + 1))), (3, .int (iI (n + 0))), (0, .ref (q 0)), (1, .int (iI box)), (2, .int (iI t))]) ok dX7_packetsOf_51 4 rfl (by decide) rfl ?_
              refine z_goto (tgt := 5) ok dX7_packetsOf_54 (by decide) ?_
              refine z_lsub ok (lv' := [(0, .ref (q 0)), (1, .int (iI box)), (2, .int (iI t)), (3, .int (iI (n + 0))), (4, .int (iI (i + 1)))]) [2, 3, 4, 1, 0] rfl ?_
              exact ih5 _ _ (by omega) (by omega) (by rw [zS_s (by omega)]; first | (rw [show cntf now box t i = 1 from zb_t (by omega)]; omega) | (rw [show cntf now box t i = 0 from zb_f (by omega)]; omega)) (by omega)
            · -- f
              refine z_iconst ok dX7_packetsOf_44 ?_
              refine z_goto (tgt := 49) ok dX7_packetsOf_45 (by decide) ?_
              refine z_iadd ok dX7_packetsOf_49 ?_
              refine z_istore_n (lv' := [(3, .int (iI (n + 1))), (0, .ref (q 0)), (1, .int (iI box)), (2, .int (iI t)), (4, .int (iI i))]) ok dX7_packetsOf_50 (by decide) rfl ?_
              refine z_iinc (lv' := [(4, .int (iI (i + 1))), (3, .int (iI (n + 1))), (0, .ref (q 0)), (1, .int (iI box)), (2, .int (iI t))]) ok dX7_packetsOf_51 4 rfl (by decide) rfl ?_
              refine z_goto (tgt := 5) ok dX7_packetsOf_54 (by decide) ?_
              refine z_lsub ok (lv' := [(0, .ref (q 0)), (1, .int (iI box)), (2, .int (iI t)), (3, .int (iI (n + 1))), (4, .int (iI (i + 1)))]) [2, 3, 4, 1, 0] rfl ?_
              exact ih5 _ _ (by omega) (by omega) (by rw [zS_s (by omega)]; first | (rw [show cntf now box t i = 1 from zb_t (by omega)]; omega) | (rw [show cntf now box t i = 0 from zb_f (by omega)]; omega)) (by omega)
  refine z_lsub ok (lv' := [(0, .ref (q 0)), (1, .int (iI box)), (2, .int (iI t)), (3, .int (iI 0)), (4, .int (iI 0))]) [2, 3, 4, 1, 0] rfl ?_
  exact L5 _ _ _ (by omega) (by omega) (rfl) (Nat.lt_succ_self _)
set_option maxRecDepth 20000 in
theorem c_X7_sum {l : Launch} {Z : zZ} {q : Nat → Nat} {now kept hist : Int → Int} {und : Int} {sav isv pad : Int → Int} {sg it : Int} {far many laid sides stuck ord : Int → Int} {rd pl wr : Int} {j : Int} (h6 : 0 ≤ now 6 ∧ now 6 ≤ 40) (hj : 0 ≤ j ∧ j ≤ 9) : zI (T := Unit) l yX7_sum (Cond.code yX7_sum cX7_sum 4 (some .int) :: wsL_law) ({ frames := 1, cells := 0, slots := 0, locals := 22 } : Room) Z [.ref (q 0), .int (iI j)] (mW Z q now kept hist und sav isv pad sg it far many laid sides stuck ord rd pl wr) (fun _ => mW Z q now kept hist und sav isv pad sg it far many laid sides stuck ord rd pl wr) (fun ρ _ => ρ = sumOf now j) := by
  refine zI_of (C := RX7) (by decide +kernel) rfl (Nat.le_of_ble_eq_true rfl) (fun _ => True) znI (fun X ok fin => ?_)
  refine z_lsub ok (lv' := [(0, .ref (q 0)), (1, .int (iI j))]) [0, 1] rfl ?_
  refine z_iconst ok dX7_sum_0 ?_
  refine z_istore_n (lv' := [(2, .int (iI 0)), (0, .ref (q 0)), (1, .int (iI j))]) ok dX7_sum_1 (by decide) rfl ?_
  refine z_iconst ok dX7_sum_2 ?_
  refine z_istore_n (lv' := [(3, .int (iI 0)), (2, .int (iI 0)), (0, .ref (q 0)), (1, .int (iI j))]) ok dX7_sum_3 (by decide) rfl ?_
  have L4 : ∀ (fuel : Nat) (i n : Int), (0 ≤ i) → (i ≤ now 6) → (n = zS (fun p => pk now p j) i.toNat) → (now 6 - i).toNat < fuel → zV X 0 0 (mW Z q now kept hist und sav isv pad sg it far many laid sides stuck ord rd pl wr) 4 [(0, .ref (q 0)), (1, .int (iI j)), (2, .int (iI n)), (3, .int (iI i))] [] := by
    intro fuel
    induction fuel with
    | zero => intro i n h4_0 h4_1 h4_2 hf; exact absurd hf (Nat.not_lt_zero _)
    | succ fuel ih4 =>
      intro i n h4_0 h4_1 h4_2 hf
      refine z_iload_n ok dX7_sum_4 rfl ?_
      refine z_aload_n ok dX7_sum_5 rfl ?_
      refine z_get (v := .ref (q 1)) ok zc7 0 rfl 0 (by decide) qf_RX7_7 rfl rfl dX7_sum_6 ?_
      refine z_bipush ok dX7_sum_9 (by decide) ?_
      refine z_iald (f := now) ok 1 rfl dX7_sum_11 (by omega) (by decide) ?_
      refine z_icmp_ge (tgt := 30) ok dX7_sum_12 (by decide) (by omega) (by omega) (fun c12 => ?_) (fun c12 => ?_)
      · -- t
        refine z_iload_n ok dX7_sum_30 rfl ?_
        exact fin n () 31 _ _ _ dX7_sum_31 (trivial) (by rw [h4_2, show i = now 6 by omega]; rfl) (by decide) (by decide)
      · -- f
        refine z_iload_n ok dX7_sum_15 rfl ?_
        refine z_aload_n ok dX7_sum_16 rfl ?_
        refine z_iload_n ok dX7_sum_17 rfl ?_
        refine z_iload_n ok dX7_sum_18 rfl ?_
        refine z_callVi0 ok (fun l => c_X7_of  (by omega) (by omega)) zm_X7_of zv_X7_of qm_RX7_98 dX7_sum_19 (by decide) (by decide) rfl rfl (Nat.le_of_ble_eq_true rfl) (q0 := 0) rfl rfl rfl (fun ρ _ hρ => ?_)
        subst hρ
        refine z_eq (ws' := mW Z q now kept hist und sav isv pad sg it far many laid sides stuck ord rd pl wr) rfl ?_
        refine z_iadd ok dX7_sum_22 ?_
        refine z_istore_n (lv' := [(2, .int (iI (n + (pk now i j)))), (0, .ref (q 0)), (1, .int (iI j)), (3, .int (iI i))]) ok dX7_sum_23 (by decide) rfl ?_
        refine z_iinc (lv' := [(3, .int (iI (i + 1))), (2, .int (iI (n + (pk now i j)))), (0, .ref (q 0)), (1, .int (iI j))]) ok dX7_sum_24 3 rfl (by decide) rfl ?_
        refine z_goto (tgt := 4) ok dX7_sum_27 (by decide) ?_
        refine z_lsub ok (lv' := [(0, .ref (q 0)), (1, .int (iI j)), (2, .int (iI (n + (pk now i j)))), (3, .int (iI (i + 1)))]) [2, 3, 1, 0] rfl ?_
        exact ih4 _ _ (by omega) (by omega) (by rw [zS_s (by omega), h4_2]) (by omega)
  refine z_lsub ok (lv' := [(0, .ref (q 0)), (1, .int (iI j)), (2, .int (iI 0)), (3, .int (iI 0))]) [2, 3, 1, 0] rfl ?_
  exact L4 _ _ _ (by omega) (by omega) (rfl) (Nat.lt_succ_self _)
set_option maxRecDepth 20000 in
theorem c_X7_broken {l : Launch} {Z : zZ} {q : Nat → Nat} {now kept hist : Int → Int} {und : Int} {sav isv pad : Int → Int} {sg it : Int} {far many laid sides stuck ord : Int → Int} {rd pl wr : Int}  : zI (T := Unit) l yX7_broken (Cond.code yX7_broken cX7_broken 3 (some .int) :: wsL_law) ({ frames := 0, cells := 0, slots := 0, locals := 0 } : Room) Z [.ref (q 0)] (mW Z q now kept hist und sav isv pad sg it far many laid sides stuck ord rd pl wr) (fun _ => mW Z q now kept hist und sav isv pad sg it far many laid sides stuck ord rd pl wr) (fun ρ _ => ρ = brokenOf now) := by
  refine zI_of (C := RX7) (by decide +kernel) rfl (Nat.le_of_ble_eq_true rfl) (fun _ => True) znI (fun X ok fin => ?_)
  refine z_lsub ok (lv' := [(0, .ref (q 0))]) [0] rfl ?_
  refine z_iconst ok dX7_broken_0 ?_
  refine z_istore_n (lv' := [(1, .int (iI 0)), (0, .ref (q 0))]) ok dX7_broken_1 (by decide) rfl ?_
  refine z_bipush ok dX7_broken_2 (by decide) ?_
  refine z_istore_n (lv' := [(2, .int (iI 10)), (1, .int (iI 0)), (0, .ref (q 0))]) ok dX7_broken_4 (by decide) rfl ?_
  have L5 : ∀ (fuel : Nat) (i n : Int), (0 ≤ i) → (i ≤ 50) → (n = zS (fun k => now (10 + k)) i.toNat) → (50 - i).toNat < fuel → zV X 0 0 (mW Z q now kept hist und sav isv pad sg it far many laid sides stuck ord rd pl wr) 5 [(0, .ref (q 0)), (1, .int (iI n)), (2, .int (iI (10 + i)))] [] := by
    intro fuel
    induction fuel with
    | zero => intro i n h5_0 h5_1 h5_2 hf; exact absurd hf (Nat.not_lt_zero _)
    | succ fuel ih5 =>
      intro i n h5_0 h5_1 h5_2 hf
      refine z_iload_n ok dX7_broken_5 rfl ?_
      refine z_bipush ok dX7_broken_6 (by decide) ?_
      refine z_icmp_ge (tgt := 26) ok dX7_broken_8 (by decide) (by omega) (by omega) (fun c8 => ?_) (fun c8 => ?_)
      · -- t
        refine z_iload_n ok dX7_broken_26 rfl ?_
        exact fin n () 27 _ _ _ dX7_broken_27 (trivial) (by rw [h5_2, show i = 50 by omega]; rfl) (by decide) (by decide)
      · -- f
        refine z_iload_n ok dX7_broken_11 rfl ?_
        refine z_aload_n ok dX7_broken_12 rfl ?_
        refine z_get (v := .ref (q 1)) ok zc7 0 rfl 0 (by decide) qf_RX7_7 rfl rfl dX7_broken_13 ?_
        refine z_iload_n ok dX7_broken_16 rfl ?_
        refine z_iald (f := now) ok 1 rfl dX7_broken_17 (by omega) (by decide) ?_
        refine z_iadd ok dX7_broken_18 ?_
        refine z_istore_n (lv' := [(1, .int (iI (n + (now (10 + i))))), (0, .ref (q 0)), (2, .int (iI (10 + i)))]) ok dX7_broken_19 (by decide) rfl ?_
        refine z_iinc (lv' := [(2, .int (iI ((10 + i) + 1))), (1, .int (iI (n + (now (10 + i))))), (0, .ref (q 0))]) ok dX7_broken_20 2 rfl (by decide) rfl ?_
        refine z_goto (tgt := 5) ok dX7_broken_23 (by decide) ?_
        refine z_lsub ok (lv' := [(0, .ref (q 0)), (1, .int (iI (n + (now (10 + i))))), (2, .int (iI ((10 + i) + 1)))]) [2, 1, 0] rfl ?_
        rw [show 10 + i + 1 = 10 + (i + 1) by omega]
        exact ih5 (i + 1) _ (by omega) (by omega) (by rw [zS_s (by omega), h5_2]) (by omega)
  refine z_lsub ok (lv' := [(0, .ref (q 0)), (1, .int (iI 0)), (2, .int (iI 10))]) [2, 1, 0] rfl ?_
  exact L5 _ 0 0 (by omega) (by omega) (rfl) (Nat.lt_succ_self _)
