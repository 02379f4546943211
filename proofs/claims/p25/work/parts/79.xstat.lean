/-! the constructor of a state -/
theorem inN_v {j : Int} : inN j = if j = 5 then 4 else if j = 4 then 4 else if j = 2 then 1 else if j = 0 then 1 else 0 := rfl
theorem wf_inN : wf inN := by
  unfold wf
  refine ⟨by decide, by decide, by decide, by decide, by decide, by decide, fun k h0 h1 => ?_, fun p h0 h1 => absurd h1 (by rw [inN_v]; simp; omega)⟩
  rw [inN_v, if_neg (by omega), if_neg (by omega), if_neg (by omega), if_neg (by omega)]; decide
theorem inN_0 {j : Int} (h : 6 ≤ j) : inN j = 0 := by
  rw [inN_v, if_neg (by omega), if_neg (by omega), if_neg (by omega), if_neg (by omega)]
theorem z_inN {X : zX} {Z : zZ} {R : Room} {cc : ByteArray} {own : String} {nL k n : Nat} {pc : Nat} {lv : List (Nat × Value)} {stk : List Value} {a : Nat → Nat} (ok : zOK X Z R cc own nL) (Lr : List va_W) (h : zV X k n (zf (sL Z a inN Lr)) pc lv stk) : zV X k n (zf (soW Z a (zu (zu (zu (fun _ : Int => (0 : Int)) 0 1) 1 0) 2 1) (fun _ => 0) (fun _ => 0) 0 :: gW Z a 4 4 (iL 0) :: pW Z a 0 (fun _ => 0) (fun _ => 0) (fun _ => 0) (fun _ => 0) (fun _ => 0) (fun _ => 0) (fun _ => 0) (fun _ => 0) (fun _ => 0) (fun _ => 0) :: Lr)) pc lv stk := by
  have hp : ∀ j q : Int, 0 ≤ j → 0 ≤ q → (0 : Int) = pk inN q j := fun j q hj hq => (inN_0 (by omega)).symm
  exact z_sN ok inN Lr (fun j h0 h1 => by rw [inN_v]; unfold zu; have hj : j = 0 ∨ j = 1 ∨ j = 2 := (by omega); rcases hj with rfl | rfl | rfl <;> rfl) (fun j h0 h1 => rfl) (fun j h0 h1 => (inN_0 (by omega)).symm) rfl rfl rfl (bk_zero (fun k h0 h1 => inN_0 (by omega))).symm rfl (fun q hq => hp 0 q (by decide) hq) (fun q hq => hp 1 q (by decide) hq) (fun q hq => hp 2 q (by decide) hq) (fun q hq => hp 3 q (by decide) hq) (fun q hq => hp 4 q (by decide) hq) (fun q hq => hp 5 q (by decide) hq) (fun q hq => hp 6 q (by decide) hq) (fun q hq => hp 7 q (by decide) hq) (fun q hq => hp 8 q (by decide) hq) (fun q hq => hp 9 q (by decide) hq) h
set_option maxHeartbeats 4000000 in
set_option maxRecDepth 20000 in
theorem c_X5_init {l : Launch} {Z : zZ} {o : Nat} : zK (T := Nat → Nat) l yX5_init (Cond.code yX5_init cX5_init 1 none :: wsL_law) ({ frames := 2, cells := 15, slots := 542, locals := 40 } : Room) Z [.ref o] [(o, .inr (5, [.null, .null, .null, .null, .null, .int (iI 0)]))] (fun a => zf (sL Z a inN [])) (fun a => a 0 = o) := by
  refine zKn_of (C := RX5) (by decide +kernel) rfl rfl (Nat.le_of_ble_eq_true rfl) (fun X ok hin hnx fin => ?_)
  refine z_lsub ok (lv' := [(0, .ref o)]) [0] rfl ?_
  refine z_aload_n ok dX5_init_0 rfl ?_
  refine z_objInit ok qm_RX5_3 qi_objectInit qc_objectInit dX5_init_1 (by decide) (Nat.le_of_ble_eq_true rfl) ?_
  refine z_aload_n ok dX5_init_4 rfl ?_
  refine z_iconst ok dX5_init_5 ?_
  refine z_newai ok 3 qa__int dX5_init_6 rfl (by decide) (by decide) (by decide) (fun _ => rfl) (fun qst => ?_)
  refine z_eq (ws' := [(o, .inr (5, [.null, .null, .null, .null, .null, .int (iI 0)])), (qst, .inl (Z.2.1, 3, .inl (fun j : Nat => iI ((fun _ : Int => (0 : Int)) (j : Int)))))]) rfl ?_
  refine z_dup ok dX5_init_8 rfl ?_
  refine z_iconst ok dX5_init_9 ?_
  refine z_iconst ok dX5_init_10 ?_
  refine z_iast (f := (fun _ : Int => (0 : Int))) (v := 1) (ws' := [(o, .inr (5, [.null, .null, .null, .null, .null, .int (iI 0)])), (qst, .inl (Z.2.1, 3, .inl (fun j : Nat => iI ((zu (fun _ : Int => (0 : Int)) 0 1) (j : Int)))))]) ok 1 rfl dX5_init_11 (by omega) (by decide) rfl ?_
  refine z_dup ok dX5_init_12 rfl ?_
  refine z_iconst ok dX5_init_13 ?_
  refine z_iconst ok dX5_init_14 ?_
  refine z_iast (f := (zu (fun _ : Int => (0 : Int)) 0 1)) (v := 0) (ws' := [(o, .inr (5, [.null, .null, .null, .null, .null, .int (iI 0)])), (qst, .inl (Z.2.1, 3, .inl (fun j : Nat => iI ((zu (zu (fun _ : Int => (0 : Int)) 0 1) 1 0) (j : Int)))))]) ok 1 rfl dX5_init_15 (by omega) (by decide) rfl ?_
  refine z_dup ok dX5_init_16 rfl ?_
  refine z_iconst ok dX5_init_17 ?_
  refine z_iconst ok dX5_init_18 ?_
  refine z_iast (f := (zu (zu (fun _ : Int => (0 : Int)) 0 1) 1 0)) (v := 1) (ws' := [(o, .inr (5, [.null, .null, .null, .null, .null, .int (iI 0)])), (qst, .inl (Z.2.1, 3, .inl (fun j : Nat => iI ((zu (zu (zu (fun _ : Int => (0 : Int)) 0 1) 1 0) 2 1) (j : Int)))))]) ok 1 rfl dX5_init_19 (by omega) (by decide) rfl ?_
  refine z_putF (ws' := [(o, .inr (5, [.ref qst, .null, .null, .null, .null, .int (iI 0)])), (qst, .inl (Z.2.1, 3, .inl (fun j : Nat => iI ((zu (zu (zu (fun _ : Int => (0 : Int)) 0 1) 1 0) 2 1) (j : Int)))))]) ok hin zc5 0 rfl 0 (by decide) qf_RX5_9 rfl rfl rfl rfl rfl (Nat.le_of_ble_eq_true rfl) dX5_init_20 rfl ?_
  refine z_aload_n ok dX5_init_23 rfl ?_
  refine z_new ok zc0 qk_RX5_15 qx_RX0 qn_RX0 [.int (iI 0), .int (iI 0), .long (iL 0)] (fun j hj => by rcases (show j = 0 ∨ j = 1 ∨ j = 2 by omega) with rfl | rfl | rfl <;> rfl) dX5_init_24 (by decide) (by decide) (fun qg => ?_)
  refine z_dup ok dX5_init_27 rfl ?_
  refine z_callK ok hnx (wc := [(qg, .inr (0, [.int (iI 0), .int (iI 0), .long (iL 0)]))]) (fun l => c_X0_init) zm_X0_init rfl qi_X0_init (fun U hz => hz.2.2.2.2.1) dX5_init_28 (by decide) (by decide) (Nat.le_of_ble_eq_true rfl) List.perm_append_comm (fun uqg huqg => ?_)
  refine z_perm List.perm_append_comm ?_
  refine z_eq (ws' := [(o, .inr (5, [.ref qst, .null, .null, .null, .null, .int (iI 0)])), (qst, .inl (Z.2.1, 3, .inl (fun j : Nat => iI ((zu (zu (zu (fun _ : Int => (0 : Int)) 0 1) 1 0) 2 1) (j : Int))))), (qg, .inr (0, [.int (iI 4), .int (iI 4), .long (iL 0)]))]) rfl ?_
  refine z_putF (ws' := [(o, .inr (5, [.ref qst, .ref qg, .null, .null, .null, .int (iI 0)])), (qst, .inl (Z.2.1, 3, .inl (fun j : Nat => iI ((zu (zu (zu (fun _ : Int => (0 : Int)) 0 1) 1 0) 2 1) (j : Int))))), (qg, .inr (0, [.int (iI 4), .int (iI 4), .long (iL 0)]))]) ok hin zc5 0 rfl 1 (by decide) qf_RX5_18 rfl rfl rfl rfl rfl (Nat.le_of_ble_eq_true rfl) dX5_init_31 rfl ?_
  refine z_aload_n ok dX5_init_34 rfl ?_
  refine z_new ok zc2 qk_RX5_22 qx_RX2 qn_RX2 [.int (iI 0), .null, .null, .null, .null, .null, .null, .null, .null, .null, .null] (fun j hj => by rcases (show j = 0 ∨ j = 1 ∨ j = 2 ∨ j = 3 ∨ j = 4 ∨ j = 5 ∨ j = 6 ∨ j = 7 ∨ j = 8 ∨ j = 9 ∨ j = 10 by omega) with rfl | rfl | rfl | rfl | rfl | rfl | rfl | rfl | rfl | rfl | rfl <;> rfl) dX5_init_35 (by decide) (by decide) (fun qp => ?_)
  refine z_dup ok dX5_init_38 rfl ?_
  refine z_callK ok hnx (wc := [(qp, .inr (2, [.int (iI 0), .null, .null, .null, .null, .null, .null, .null, .null, .null, .null]))]) (fun l => c_X2_init) zm_X2_init rfl qi_X2_init (fun U hz => hz.2.2.2.2.2.1) dX5_init_39 (by decide) (by decide) (Nat.le_of_ble_eq_true rfl) List.perm_append_comm (fun uqp huqp => ?_)
  refine z_perm List.perm_append_comm ?_
  have huqp : uqp 3 = qp := huqp
  subst huqp
  refine z_eq (ws' := [(o, .inr (5, [.ref qst, .ref qg, .null, .null, .null, .int (iI 0)])), (qst, .inl (Z.2.1, 3, .inl (fun j : Nat => iI ((zu (zu (zu (fun _ : Int => (0 : Int)) 0 1) 1 0) 2 1) (j : Int))))), (qg, .inr (0, [.int (iI 4), .int (iI 4), .long (iL 0)]))] ++ (pW Z uqp 0 (fun _ => 0) (fun _ => 0) (fun _ => 0) (fun _ => 0) (fun _ => 0) (fun _ => 0) (fun _ => 0) (fun _ => 0) (fun _ => 0) (fun _ => 0) ++ [])) rfl ?_
  refine z_putF (ws' := [(o, .inr (5, [.ref qst, .ref qg, .ref (uqp 3), .null, .null, .int (iI 0)])), (qst, .inl (Z.2.1, 3, .inl (fun j : Nat => iI ((zu (zu (zu (fun _ : Int => (0 : Int)) 0 1) 1 0) 2 1) (j : Int))))), (qg, .inr (0, [.int (iI 4), .int (iI 4), .long (iL 0)]))] ++ (pW Z uqp 0 (fun _ => 0) (fun _ => 0) (fun _ => 0) (fun _ => 0) (fun _ => 0) (fun _ => 0) (fun _ => 0) (fun _ => 0) (fun _ => 0) (fun _ => 0) ++ [])) ok hin zc5 0 rfl 2 (by decide) qf_RX5_25 rfl rfl rfl rfl rfl (Nat.le_of_ble_eq_true rfl) dX5_init_42 rfl ?_
  refine z_aload_n ok dX5_init_45 rfl ?_
  refine z_bipush ok dX5_init_46 (by decide) ?_
  refine z_newai ok 25 qa__int dX5_init_48 rfl (by decide) (by decide) (by decide) (fun _ => rfl) (fun qiv => ?_)
  refine z_eq (ws' := [(o, .inr (5, [.ref qst, .ref qg, .ref (uqp 3), .null, .null, .int (iI 0)])), (qst, .inl (Z.2.1, 3, .inl (fun j : Nat => iI ((zu (zu (zu (fun _ : Int => (0 : Int)) 0 1) 1 0) 2 1) (j : Int))))), (qg, .inr (0, [.int (iI 4), .int (iI 4), .long (iL 0)]))] ++ (pW Z uqp 0 (fun _ => 0) (fun _ => 0) (fun _ => 0) (fun _ => 0) (fun _ => 0) (fun _ => 0) (fun _ => 0) (fun _ => 0) (fun _ => 0) (fun _ => 0) ++ [(qiv, .inl (Z.2.1, 25, .inl (fun _ : Nat => iI 0)))])) rfl ?_
  refine z_putF (ws' := [(o, .inr (5, [.ref qst, .ref qg, .ref (uqp 3), .ref qiv, .null, .int (iI 0)])), (qst, .inl (Z.2.1, 3, .inl (fun j : Nat => iI ((zu (zu (zu (fun _ : Int => (0 : Int)) 0 1) 1 0) 2 1) (j : Int))))), (qg, .inr (0, [.int (iI 4), .int (iI 4), .long (iL 0)]))] ++ (pW Z uqp 0 (fun _ => 0) (fun _ => 0) (fun _ => 0) (fun _ => 0) (fun _ => 0) (fun _ => 0) (fun _ => 0) (fun _ => 0) (fun _ => 0) (fun _ => 0) ++ [(qiv, .inl (Z.2.1, 25, .inl (fun _ : Nat => iI 0)))])) ok hin zc5 0 rfl 3 (by decide) qf_RX5_29 rfl rfl rfl rfl rfl (Nat.le_of_ble_eq_true rfl) dX5_init_50 rfl ?_
  refine z_aload_n ok dX5_init_53 rfl ?_
  refine z_bipush ok dX5_init_54 (by decide) ?_
  refine z_newai ok 100 qa__int dX5_init_56 rfl (by decide) (by decide) (by decide) (fun _ => rfl) (fun qmf => ?_)
  refine z_eq (ws' := [(o, .inr (5, [.ref qst, .ref qg, .ref (uqp 3), .ref qiv, .null, .int (iI 0)])), (qst, .inl (Z.2.1, 3, .inl (fun j : Nat => iI ((zu (zu (zu (fun _ : Int => (0 : Int)) 0 1) 1 0) 2 1) (j : Int))))), (qg, .inr (0, [.int (iI 4), .int (iI 4), .long (iL 0)]))] ++ (pW Z uqp 0 (fun _ => 0) (fun _ => 0) (fun _ => 0) (fun _ => 0) (fun _ => 0) (fun _ => 0) (fun _ => 0) (fun _ => 0) (fun _ => 0) (fun _ => 0) ++ [(qiv, .inl (Z.2.1, 25, .inl (fun _ : Nat => iI 0))), (qmf, .inl (Z.2.1, 100, .inl (fun _ : Nat => iI 0)))])) rfl ?_
  refine z_putF (ws' := [(o, .inr (5, [.ref qst, .ref qg, .ref (uqp 3), .ref qiv, .ref qmf, .int (iI 0)])), (qst, .inl (Z.2.1, 3, .inl (fun j : Nat => iI ((zu (zu (zu (fun _ : Int => (0 : Int)) 0 1) 1 0) 2 1) (j : Int))))), (qg, .inr (0, [.int (iI 4), .int (iI 4), .long (iL 0)]))] ++ (pW Z uqp 0 (fun _ => 0) (fun _ => 0) (fun _ => 0) (fun _ => 0) (fun _ => 0) (fun _ => 0) (fun _ => 0) (fun _ => 0) (fun _ => 0) (fun _ => 0) ++ [(qiv, .inl (Z.2.1, 25, .inl (fun _ : Nat => iI 0))), (qmf, .inl (Z.2.1, 100, .inl (fun _ : Nat => iI 0)))])) ok hin zc5 0 rfl 4 (by decide) qf_RX5_32 rfl rfl rfl rfl rfl (Nat.le_of_ble_eq_true rfl) dX5_init_58 rfl ?_
  refine z_aload_n ok dX5_init_61 rfl ?_
  refine z_iconst ok dX5_init_62 ?_
  refine z_put (ws' := [(o, .inr (5, [.ref qst, .ref qg, .ref (uqp 3), .ref qiv, .ref qmf, .int (iI 0)])), (qst, .inl (Z.2.1, 3, .inl (fun j : Nat => iI ((zu (zu (zu (fun _ : Int => (0 : Int)) 0 1) 1 0) 2 1) (j : Int))))), (qg, .inr (0, [.int (iI 4), .int (iI 4), .long (iL 0)]))] ++ (pW Z uqp 0 (fun _ => 0) (fun _ => 0) (fun _ => 0) (fun _ => 0) (fun _ => 0) (fun _ => 0) (fun _ => 0) (fun _ => 0) (fun _ => 0) (fun _ => 0) ++ [(qiv, .inl (Z.2.1, 25, .inl (fun _ : Nat => iI 0))), (qmf, .inl (Z.2.1, 100, .inl (fun _ : Nat => iI 0)))])) ok zc5 0 rfl 5 (by decide) qf_RX5_35 rfl rfl rfl rfl (Nat.le_of_ble_eq_true rfl) dX5_init_63 rfl ?_
  refine z_eq (ws' := zf [[(o, .inr (5, [.ref qst, .ref qg, .ref (uqp 3), .ref qiv, .ref qmf, .int (iI 0)]))], [(qst, .inl (Z.2.1, 3, .inl (fun j : Nat => iI ((zu (zu (zu (fun _ : Int => (0 : Int)) 0 1) 1 0) 2 1) (j : Int)))))], [(qg, .inr (0, [.int (iI 4), .int (iI 4), .long (iL 0)]))], pW Z uqp 0 (fun _ => 0) (fun _ => 0) (fun _ => 0) (fun _ => 0) (fun _ => 0) (fun _ => 0) (fun _ => 0) (fun _ => 0) (fun _ => 0) (fun _ => 0), [(qiv, .inl (Z.2.1, 25, .inl (fun _ : Nat => iI 0)))], [(qmf, .inl (Z.2.1, 100, .inl (fun _ : Nat => iI 0)))]]) rfl ?_
  refine z_perm (zf_perm (zix_permN (nn := 6) (ix := [0, 1, 4, 5, 2, 3]) (L := [[(o, .inr (5, [.ref qst, .ref qg, .ref (uqp 3), .ref qiv, .ref qmf, .int (iI 0)]))], [(qst, .inl (Z.2.1, 3, .inl (fun j : Nat => iI ((zu (zu (zu (fun _ : Int => (0 : Int)) 0 1) 1 0) 2 1) (j : Int)))))], [(qg, .inr (0, [.int (iI 4), .int (iI 4), .long (iL 0)]))], pW Z uqp 0 (fun _ => 0) (fun _ => 0) (fun _ => 0) (fun _ => 0) (fun _ => 0) (fun _ => 0) (fun _ => 0) (fun _ => 0) (fun _ => 0) (fun _ => 0), [(qiv, .inl (Z.2.1, 25, .inl (fun _ : Nat => iI 0)))], [(qmf, .inl (Z.2.1, 100, .inl (fun _ : Nat => iI 0)))]]) rfl (by decide +kernel))) ?_
  refine z_eq (ws' := zf (soW Z (fun i => [o, qst, qg, uqp 3, uqp 4, uqp 5, uqp 6, uqp 7, uqp 8, uqp 9, uqp 10, uqp 11, uqp 12, uqp 13, qiv, qmf].getD i 0) (zu (zu (zu (fun _ : Int => (0 : Int)) 0 1) 1 0) 2 1) (fun _ => 0) (fun _ => 0) 0 :: gW Z (fun i => [o, qst, qg, uqp 3, uqp 4, uqp 5, uqp 6, uqp 7, uqp 8, uqp 9, uqp 10, uqp 11, uqp 12, uqp 13, qiv, qmf].getD i 0) 4 4 (iL 0) :: pW Z (fun i => [o, qst, qg, uqp 3, uqp 4, uqp 5, uqp 6, uqp 7, uqp 8, uqp 9, uqp 10, uqp 11, uqp 12, uqp 13, qiv, qmf].getD i 0) 0 (fun _ => 0) (fun _ => 0) (fun _ => 0) (fun _ => 0) (fun _ => 0) (fun _ => 0) (fun _ => 0) (fun _ => 0) (fun _ => 0) (fun _ => 0) :: [])) rfl ?_
  refine z_inN ok [] ?_
  exact fin (fun i => [o, qst, qg, uqp 3, uqp 4, uqp 5, uqp 6, uqp 7, uqp 8, uqp 9, uqp 10, uqp 11, uqp 12, uqp 13, qiv, qmf].getD i 0) 66 _ _ _ dX5_init_66 rfl (by decide) (by decide)
