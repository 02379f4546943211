/-! the law: a tick -/
theorem z_astore {X : zX} {Z : zZ} {R : Room} {cc : ByteArray} {own : String} {nL k n : Nat} {ws : va_W} {pc : Nat} {lv : List (Nat × Value)} {st : List Value} (ok : zOK X Z R cc own nL) {i : Nat} {v : Nat} {lv' : List (Nat × Value)} (d : decode cc pc = .ok (.astore i, 2)) (hn : i < nL) (e : (i, Value.ref v) :: lv.filter (fun q => !(q.1 == i) && !(q.1 + 1 == i && q.2.category == 2)) = lv') (h : zV X k n ws (pc + 2) lv' st) : zV X k n ws pc lv (.ref v :: st) := by
  obtain ⟨p, l, e0, R, s, m, args, below, meth, c, Q, Z, A, H0⟩ := X
  obtain ⟨rfl, rfl, hx, hb, hml, ho, hts, hK, hA⟩ := ok
  intro H locs ls hP hD hS hl
  exact lv_astore hx hb d hl (by rw [hml]; exact hn) e (fun ls' hl' => h H locs ls' hP hD hS hl')
theorem l_apart {X : zX} {Z : zZ} {R : Room} {cc : ByteArray} {own : String} {nL k n : Nat} {wa wb : va_W} {ad : zAd} {N : Int → Int} {h : zHd} {pc idx : Nat} {lv : List (Nat × Value)} {rest : List Value} {a b v : Int} (ok : zOK X Z R cc own nL) (hI : obI N h) (hw : wf N) (ha : isB N a) (hb : isB N b) (hv : dist N a b = v) (hlk : Cond.methodLink own idx yL_apart ∈ wsL_law) (d : decode cc pc = .ok (.invokestatic idx, 3)) (hR : 8 + 1 ≤ R.frames ∧ 8 + (6 + 11) + 190 ≤ R.locals) (hc : k ≤ R.cells ∧ n ≤ R.slots) (hcat : (rest.map fun v => v.category).sum ≤ 8) (hk : ∀ h' : zHd, obI N h' → zV X k n (wa ++ (obW Z ad N h' ++ wb)) (pc + 3) lv (.int (iI v) :: rest)) : zV X k n (wa ++ (obW Z ad N h ++ wb)) pc lv (.int (iI b) :: .int (iI a) :: .ref (obX ad) :: rest) := by
  refine z_callSi ok (fun l => c_L_apart hI hw ha hb) zm_L_apart qt_L_apart hlk d hR hc rfl rfl hcat (List.perm_append_comm_assoc wa (obW Z ad N h) wb) (fun ρ u hp => ?_)
  obtain ⟨hp, hI2⟩ := hp
  subst hp
  rw [hv]
  exact z_perm (List.perm_append_comm_assoc (obW Z ad N u) wa wb) (hk u hI2)
theorem l_beside {X : zX} {Z : zZ} {R : Room} {cc : ByteArray} {own : String} {nL k n : Nat} {wa wb : va_W} {ad : zAd} {N : Int → Int} {h : zHd} {pc idx : Nat} {lv : List (Nat × Value)} {rest : List Value} {b dd v : Int} (ok : zOK X Z R cc own nL) (hI : obI N h) (hw : wf N) (hb : isB N b) (hd : 0 ≤ dd ∧ dd ≤ 3) (hv : nb N b dd = v) (hlk : Cond.methodLink own idx yL_beside ∈ wsL_law) (d : decode cc pc = .ok (.invokestatic idx, 3)) (hR : 8 + 1 ≤ R.frames ∧ 8 + (7 + 11) + 190 ≤ R.locals) (hc : k ≤ R.cells ∧ n ≤ R.slots) (hcat : (rest.map fun v => v.category).sum ≤ 8) (hk : ∀ h' : zHd, obI N h' → zV X k n (wa ++ (obW Z ad N h' ++ wb)) (pc + 3) lv (.int (iI v) :: rest)) : zV X k n (wa ++ (obW Z ad N h ++ wb)) pc lv (.int (iI dd) :: .int (iI b) :: .ref (obX ad) :: rest) := by
  refine z_callSi ok (fun l => c_L_beside hI hw hb hd) zm_L_beside qt_L_beside hlk d hR hc rfl rfl hcat (List.perm_append_comm_assoc wa (obW Z ad N h) wb) (fun ρ u hp => ?_)
  obtain ⟨hp, hI2⟩ := hp
  subst hp
  rw [hv]
  exact z_perm (List.perm_append_comm_assoc (obW Z ad N u) wa wb) (hk u hI2)
theorem zall_u {g sk : Int → Int} {i v : Int} (h : ∀ j : Int, 0 ≤ j → j < i → sk j = g j) (hv : v = g i) : ∀ j : Int, 0 ≤ j → j < i + 1 → zu sk i v j = g j := by
  intro j h0 h1
  by_cases e : j = i
  · subst e; rw [zu_s]; exact hv
  · rw [zu_n e]; exact h j h0 (by omega)
theorem ins_inc {N f : Int → Int} {i v : Int} (hi : 0 ≤ i) (h : ∀ b : Int, 0 ≤ b → b < 25 → f b = zS (insf N b) i.toNat) (hv : v = zb (pk N i 2 = 1)) : ∀ b : Int, 0 ≤ b → b < 25 → zu f (pk N i 3) (f (pk N i 3) + v) b = zS (insf N b) (i + 1).toNat := by
  intro b b0 b1
  rw [zS_s hi]
  have a := h b b0 b1
  have e : insf N b i = if b = pk N i 3 then v else 0 := by
    unfold insf
    by_cases e : b = pk N i 3
    · rw [if_pos e, hv]; exact zb_cong ⟨fun z => z.1, fun z => ⟨z, e.symm⟩⟩
    · rw [if_neg e]; exact zb_f (fun z => e z.2.symm)
  by_cases e1 : b = pk N i 3
  · rw [if_pos e1] at e
    rw [← e1, zu_s]; omega
  · rw [if_neg e1] at e
    rw [zu_n e1]; omega
set_option maxHeartbeats 4000000 in
set_option maxRecDepth 20000 in
theorem c_L_isTick {l : Launch} {Z : zZ} {ad : zAd} {N : Int → Int} {h : zHd} {B : Int} (hI : obI N h) (hV : INV B N) (hB : B ≤ 1000) : zI (T := (Int → Int) × zHd) l yL_isTick (Cond.code yL_isTick cL_isTick 16 (some .boolean) :: wsL_law) ({ frames := 9, cells := 6, slots := 225, locals := 216 } : Room) Z [.ref (obX ad)] (obW Z ad N h) (fun u => obW Z ad u.1 u.2) (fun ρ u => ρ = 1 ∧ obI u.1 u.2 ∧ INV (B + 1) u.1) := by
  refine zI_of (C := RL) (by decide +kernel) rfl (Nat.le_of_ble_eq_true rfl) (fun ρ => ρ = 0 ∨ ρ = 1) znZ (fun X ok fin => ?_)
  have hw := hV.1.1
  have hcr := wf_cr hw
  have hc4 := hw.2.2.2.1
  have w6 := hw.2.2.2.2.2.1
  have w2 := hw.2.2.1
  have h3 := hV.1.2.1
  have hV2 := INV_pas hV
  have hw2 := hV2.1.1
  have e6 : pasN N 6 = N 6 := (wf_pas hw).2 6 (by omega) (by omega)
  have e4 : pasN N 4 = N 4 := (wf_pas hw).2 4 (by omega) (by omega)
  have e5 : pasN N 5 = N 5 := (wf_pas hw).2 5 (by omega) (by omega)
  have e45 : pasN N 4 * pasN N 5 = N 4 * N 5 := by rw [e4, e5]
  have L170 : ∀ (qB qS qW qM qF qN : Nat) (fuel : Nat) (i : Int) (fB fS fW fM fF fN : Int → Int) (g : zHd), (0 ≤ i) → (i ≤ N 6) → (∀ p : Int, 0 ≤ p → p < N 6 → fB p = pk N p 3) → (∀ p : Int, 0 ≤ p → p < N 6 → fS p = pk N p 2) → (∀ p : Int, 0 ≤ p → p < N 6 → fW p = pk N p 6) → (∀ p : Int, 0 ≤ p → p < N 6 → fM p = pk N p 4) → (∀ p : Int, 0 ≤ p → p < N 6 → fF p = fsV N p) → (∀ b : Int, 0 ≤ b → b < 25 → fN b = insQ N i b) → (obI (pasN N) g) → (N 6 - i).toNat < fuel → zV X 6 225 ([aW Z qN 25 fN, aW Z qF 40 fF, aW Z qM 40 fM, aW Z qW 40 fW, aW Z qS 40 fS, aW Z qB 40 fB] ++ (obW Z ad (pasN N) g ++ ([] : va_W))) 170 [(10, .int (iI i)), (9, .int (iI (N 2))), (8, .int (iI (N 3))), (7, .ref qN), (6, .ref qF), (5, .ref qM), (4, .ref qW), (3, .ref qS), (2, .ref qB), (1, .int (iI (N 6))), (0, .ref (obX ad))] [] := by
    intro qB qS qW qM qF qN fuel
    induction fuel with
    | zero => intro i fB fS fW fM fF fN g i0 i1 rB rS rW rM rF rN gI hf; exact absurd hf (Nat.not_lt_zero _)
    | succ fuel ih =>
      intro i fB fS fW fM fF fN g i0 i1 rB rS rW rM rF rN gI hf
      refine z_iload ok dL_isTick_170 rfl ?_
      refine z_iload_n ok dL_isTick_172 rfl ?_
      refine z_icmp_ge (tgt := 635) ok dL_isTick_173 (by decide) (by omega) (by omega) (fun c173 => ?_) (fun c173 => ?_)
      · -- t
        refine z_iconst ok dL_isTick_635 ?_
        refine z_drop ?_
        refine z_eq (ws' := obW Z ad (pasN N) g) (List.append_nil _) ?_
        exact fin 1 (pasN N, g) 636 _ _ _ dL_isTick_636 (by decide) ⟨rfl, gI, hV2⟩ (by decide) (by decide)
      · -- f
        have hq : 0 ≤ i ∧ i < N 6 := ⟨i0, by omega⟩
        have hq2 : 0 ≤ i ∧ i < pasN N 6 := ⟨i0, by omega⟩
        have wpp := hw.2.2.2.2.2.2.2 i hq.1 hq.2
        have hP := hV.2.1 i hq.1 hq.2
        have hP2 := hV2.2.1 i hq2.1 hq2.2
        have wpp2 := hw2.2.2.2.2.2.2.2 i hq2.1 hq2.2
        unfold PK at hP hP2
        have hir := fun b => insQ_rng (N := N) (q := i) (b := b) hw ⟨i0, i1⟩
        have hb1 : isB (pasN N) (pk N i 3) := by unfold isB; omega
        have hb2 : isB (pasN N) (pk (pasN N) i 3) := by unfold isB; omega
        have ir3 := hir (pk N i 3)
        rcases tk_5 hw hq with ⟨k1, k2, k3⟩ | ⟨k1, k2, k3, k4, k5⟩ | ⟨k1, k2, k3, k4, k5⟩ | ⟨g0, k1, k2, k3, k4, k5, f0, fnb, kg, ⟨z0, z1, z2, z3, z4, z5, z6, z7, z8, z9⟩, kI⟩ | ⟨k1, k2, k3, k4, k5⟩
        · -- tk2
          have z1 := k2 1 (by decide) (by decide)
          have z2 := k2 2 (by decide) (by decide)
          have z3 := k2 3 (by decide) (by decide)
          have z4 := k2 4 (by decide) (by decide)
          have z6 := k2 6 (by decide) (by decide)
          have z8 := k2 8 (by decide) (by decide)
          refine z_aload_n ok dL_isTick_176 rfl ?_
          refine z_iload ok dL_isTick_177 rfl ?_
          refine z_iconst ok dL_isTick_179 ?_
          refine o_ofPacket (v := pk (pasN N) i 3) ok gI hw2 (by omega) (by decide) (v_pk (hq2) (by decide)) qm_RL_14 dL_isTick_180 (by decide) ⟨by decide, by decide⟩ (Nat.le_of_ble_eq_true rfl) (fun h101 h101I => ?_)
          refine z_istore (lv' := [(11, .int (iI (pk (pasN N) i 3))), (10, .int (iI i)), (9, .int (iI (N 2))), (8, .int (iI (N 3))), (7, .ref qN), (6, .ref qF), (5, .ref qM), (4, .ref qW), (3, .ref qS), (2, .ref qB), (1, .int (iI (N 6))), (0, .ref (obX ad))]) ok dL_isTick_183 (by decide) rfl ?_
          refine z_aload_n ok dL_isTick_185 rfl ?_
          refine z_iload ok dL_isTick_186 rfl ?_
          refine z_iconst ok dL_isTick_188 ?_
          refine o_ofPacket (v := pk (pasN N) i 4) ok h101I hw2 (by omega) (by decide) (v_pk (hq2) (by decide)) qm_RL_14 dL_isTick_189 (by decide) ⟨by decide, by decide⟩ (Nat.le_of_ble_eq_true rfl) (fun h102 h102I => ?_)
          refine z_istore (lv' := [(12, .int (iI (pk (pasN N) i 4))), (11, .int (iI (pk (pasN N) i 3))), (10, .int (iI i)), (9, .int (iI (N 2))), (8, .int (iI (N 3))), (7, .ref qN), (6, .ref qF), (5, .ref qM), (4, .ref qW), (3, .ref qS), (2, .ref qB), (1, .int (iI (N 6))), (0, .ref (obX ad))]) ok dL_isTick_192 (by decide) rfl ?_
          refine z_aload_n ok dL_isTick_194 rfl ?_
          refine z_iload ok dL_isTick_195 rfl ?_
          refine z_bipush ok dL_isTick_197 (by decide) ?_
          refine o_ofPacket (v := pk (pasN N) i 6) ok h102I hw2 (by omega) (by decide) (v_pk (hq2) (by decide)) qm_RL_14 dL_isTick_199 (by decide) ⟨by decide, by decide⟩ (Nat.le_of_ble_eq_true rfl) (fun h103 h103I => ?_)
          refine z_aload ok dL_isTick_202 rfl ?_
          refine z_iload ok dL_isTick_204 rfl ?_
          refine z_iale (f := fW) (v := pk N i 6) ok 3 rfl (rW _ (by omega) (by omega)) dL_isTick_206 (by omega) (by decide) ?_
          refine z_iconst ok dL_isTick_207 ?_
          refine z_iadd ok dL_isTick_208 ?_
          refine z_icmp_ne (tgt := 216) ok dL_isTick_209 (by decide) (by omega) (by omega) (fun c209 => ?_) (fun c => (by omega : False).elim)
          refine z_iconst ok dL_isTick_216 ?_
          refine z_istore (lv' := [(13, .int (iI 0)), (12, .int (iI (pk (pasN N) i 4))), (11, .int (iI (pk (pasN N) i 3))), (10, .int (iI i)), (9, .int (iI (N 2))), (8, .int (iI (N 3))), (7, .ref qN), (6, .ref qF), (5, .ref qM), (4, .ref qW), (3, .ref qS), (2, .ref qB), (1, .int (iI (N 6))), (0, .ref (obX ad))]) ok dL_isTick_217 (by decide) rfl ?_
          refine z_aload_n ok dL_isTick_219 rfl ?_
          refine z_iload ok dL_isTick_220 rfl ?_
          refine z_bipush ok dL_isTick_222 (by decide) ?_
          refine o_ofPacket (v := pk (pasN N) i 6) ok h103I hw2 (by omega) (by decide) (v_pk (hq2) (by decide)) qm_RL_14 dL_isTick_224 (by decide) ⟨by decide, by decide⟩ (Nat.le_of_ble_eq_true rfl) (fun h104 h104I => ?_)
          refine z_aload ok dL_isTick_227 rfl ?_
          refine z_iload ok dL_isTick_229 rfl ?_
          refine z_iale (f := fW) (v := pk N i 6) ok 3 rfl (rW _ (by omega) (by omega)) dL_isTick_231 (by omega) (by decide) ?_
          refine z_iload ok dL_isTick_232 rfl ?_
          refine z_if_eq (tgt := 241) ok dL_isTick_234 (by decide) (by decide) (fun c234 => ?_) (fun c => absurd c (by decide))
          refine z_iconst ok dL_isTick_241 ?_
          refine z_iadd ok dL_isTick_242 ?_
          refine z_icmp_ne (tgt := 271) ok dL_isTick_243 (by decide) (by omega) (by omega) (fun c => (by omega : False).elim) (fun c243 => ?_)
          refine z_iload ok dL_isTick_246 rfl ?_
          refine z_aload ok dL_isTick_248 rfl ?_
          refine z_iload ok dL_isTick_250 rfl ?_
          refine z_iale (f := fM) (v := pk N i 4) ok 2 rfl (rM _ (by omega) (by omega)) dL_isTick_252 (by omega) (by decide) ?_
          refine z_iload ok dL_isTick_253 rfl ?_
          refine z_aload_n ok dL_isTick_255 rfl ?_
          refine z_iload ok dL_isTick_256 rfl ?_
          refine z_iale (f := fB) (v := pk N i 3) ok 5 rfl (rB _ (by omega) (by omega)) dL_isTick_258 (by omega) (by decide) ?_
          refine z_icmp_ne (tgt := 266) ok dL_isTick_259 (by decide) (by omega) (by omega) (fun c => (by omega : False).elim) (fun c259 => ?_)
          refine z_iconst ok dL_isTick_262 ?_
          refine z_goto (tgt := 267) ok dL_isTick_263 (by decide) ?_
          refine z_iadd ok dL_isTick_267 ?_
          refine z_icmp_eq (tgt := 273) ok dL_isTick_268 (by decide) (by omega) (by omega) (fun c268 => ?_) (fun c => (by omega : False).elim)
          refine z_aload_n ok dL_isTick_273 rfl ?_
          refine z_iload ok dL_isTick_274 rfl ?_
          refine z_iale (f := fS) (v := pk N i 2) ok 4 rfl (rS _ (by omega) (by omega)) dL_isTick_276 (by omega) (by decide) ?_
          refine z_iconst ok dL_isTick_277 ?_
          refine z_icmp_ne (tgt := 297) ok dL_isTick_278 (by decide) (by omega) (by decide) (fun c => (by omega : False).elim) (fun c278 => ?_)
          refine z_iload ok dL_isTick_281 rfl ?_
          refine z_if_ne (tgt := 295) ok dL_isTick_283 (by decide) (by decide) (fun c => absurd c (by decide)) (fun c283 => ?_)
          refine z_iload ok dL_isTick_286 rfl ?_
          refine z_aload_n ok dL_isTick_288 rfl ?_
          refine z_iload ok dL_isTick_289 rfl ?_
          refine z_iale (f := fB) (v := pk N i 3) ok 5 rfl (rB _ (by omega) (by omega)) dL_isTick_291 (by omega) (by decide) ?_
          refine z_icmp_eq (tgt := 297) ok dL_isTick_292 (by decide) (by omega) (by omega) (fun c292 => ?_) (fun c => (by omega : False).elim)
          refine z_aload_n ok dL_isTick_297 rfl ?_
          refine z_iload ok dL_isTick_298 rfl ?_
          refine z_iale (f := fS) (v := pk N i 2) ok 4 rfl (rS _ (by omega) (by omega)) dL_isTick_300 (by omega) (by decide) ?_
          refine z_if_ne (tgt := 381) ok dL_isTick_301 (by decide) (by omega) (fun c301 => ?_) (fun c => (by omega : False).elim)
          refine z_aload_n ok dL_isTick_381 rfl ?_
          refine z_iload ok dL_isTick_382 rfl ?_
          refine z_iale (f := fS) (v := pk N i 2) ok 4 rfl (rS _ (by omega) (by omega)) dL_isTick_384 (by omega) (by decide) ?_
          refine z_iconst ok dL_isTick_385 ?_
          refine z_icmp_ne (tgt := 629) ok dL_isTick_386 (by decide) (by omega) (by decide) (fun c386 => ?_) (fun c => (by omega : False).elim)
          refine z_iinc (lv' := [(10, .int (iI (i + 1))), (13, .int (iI 0)), (12, .int (iI (pk (pasN N) i 4))), (11, .int (iI (pk (pasN N) i 3))), (9, .int (iI (N 2))), (8, .int (iI (N 3))), (7, .ref qN), (6, .ref qF), (5, .ref qM), (4, .ref qW), (3, .ref qS), (2, .ref qB), (1, .int (iI (N 6))), (0, .ref (obX ad))]) ok dL_isTick_629 3 rfl (by decide) rfl ?_
          refine z_goto (tgt := 170) ok dL_isTick_632 (by decide) ?_
          refine z_lsub ok (lv' := [(10, .int (iI (i + 1))), (9, .int (iI (N 2))), (8, .int (iI (N 3))), (7, .ref qN), (6, .ref qF), (5, .ref qM), (4, .ref qW), (3, .ref qS), (2, .ref qB), (1, .int (iI (N 6))), (0, .ref (obX ad))]) [0, 4, 5, 6, 7, 8, 9, 10, 11, 12, 13] rfl ?_
          exact ih (i + 1) fB fS fW fM fF fN h104 (by omega) (by omega) rB rS rW rM rF (fun b b0 b1 => (rN b b0 b1).trans (k3 b).symm) h104I (by omega)
        · -- tk0y
          have z2 := k3
          have z1 := k4 1 (by decide) (by decide) (by decide)
          have z3 := k4 3 (by decide) (by decide) (by decide)
          have z4 := k4 4 (by decide) (by decide) (by decide)
          have z6 := k4 6 (by decide) (by decide) (by decide)
          have z8 := k4 8 (by decide) (by decide) (by decide)
          refine z_aload_n ok dL_isTick_176 rfl ?_
          refine z_iload ok dL_isTick_177 rfl ?_
          refine z_iconst ok dL_isTick_179 ?_
          refine o_ofPacket (v := pk (pasN N) i 3) ok gI hw2 (by omega) (by decide) (v_pk (hq2) (by decide)) qm_RL_14 dL_isTick_180 (by decide) ⟨by decide, by decide⟩ (Nat.le_of_ble_eq_true rfl) (fun h101 h101I => ?_)
          refine z_istore (lv' := [(11, .int (iI (pk (pasN N) i 3))), (10, .int (iI i)), (9, .int (iI (N 2))), (8, .int (iI (N 3))), (7, .ref qN), (6, .ref qF), (5, .ref qM), (4, .ref qW), (3, .ref qS), (2, .ref qB), (1, .int (iI (N 6))), (0, .ref (obX ad))]) ok dL_isTick_183 (by decide) rfl ?_
          refine z_aload_n ok dL_isTick_185 rfl ?_
          refine z_iload ok dL_isTick_186 rfl ?_
          refine z_iconst ok dL_isTick_188 ?_
          refine o_ofPacket (v := pk (pasN N) i 4) ok h101I hw2 (by omega) (by decide) (v_pk (hq2) (by decide)) qm_RL_14 dL_isTick_189 (by decide) ⟨by decide, by decide⟩ (Nat.le_of_ble_eq_true rfl) (fun h102 h102I => ?_)
          refine z_istore (lv' := [(12, .int (iI (pk (pasN N) i 4))), (11, .int (iI (pk (pasN N) i 3))), (10, .int (iI i)), (9, .int (iI (N 2))), (8, .int (iI (N 3))), (7, .ref qN), (6, .ref qF), (5, .ref qM), (4, .ref qW), (3, .ref qS), (2, .ref qB), (1, .int (iI (N 6))), (0, .ref (obX ad))]) ok dL_isTick_192 (by decide) rfl ?_
          refine z_aload_n ok dL_isTick_194 rfl ?_
          refine z_iload ok dL_isTick_195 rfl ?_
          refine z_bipush ok dL_isTick_197 (by decide) ?_
          refine o_ofPacket (v := pk (pasN N) i 6) ok h102I hw2 (by omega) (by decide) (v_pk (hq2) (by decide)) qm_RL_14 dL_isTick_199 (by decide) ⟨by decide, by decide⟩ (Nat.le_of_ble_eq_true rfl) (fun h103 h103I => ?_)
          refine z_aload ok dL_isTick_202 rfl ?_
          refine z_iload ok dL_isTick_204 rfl ?_
          refine z_iale (f := fW) (v := pk N i 6) ok 3 rfl (rW _ (by omega) (by omega)) dL_isTick_206 (by omega) (by decide) ?_
          refine z_iconst ok dL_isTick_207 ?_
          refine z_iadd ok dL_isTick_208 ?_
          refine z_icmp_ne (tgt := 216) ok dL_isTick_209 (by decide) (by omega) (by omega) (fun c209 => ?_) (fun c => (by omega : False).elim)
          refine z_iconst ok dL_isTick_216 ?_
          refine z_istore (lv' := [(13, .int (iI 0)), (12, .int (iI (pk (pasN N) i 4))), (11, .int (iI (pk (pasN N) i 3))), (10, .int (iI i)), (9, .int (iI (N 2))), (8, .int (iI (N 3))), (7, .ref qN), (6, .ref qF), (5, .ref qM), (4, .ref qW), (3, .ref qS), (2, .ref qB), (1, .int (iI (N 6))), (0, .ref (obX ad))]) ok dL_isTick_217 (by decide) rfl ?_
          refine z_aload_n ok dL_isTick_219 rfl ?_
          refine z_iload ok dL_isTick_220 rfl ?_
          refine z_bipush ok dL_isTick_222 (by decide) ?_
          refine o_ofPacket (v := pk (pasN N) i 6) ok h103I hw2 (by omega) (by decide) (v_pk (hq2) (by decide)) qm_RL_14 dL_isTick_224 (by decide) ⟨by decide, by decide⟩ (Nat.le_of_ble_eq_true rfl) (fun h104 h104I => ?_)
          refine z_aload ok dL_isTick_227 rfl ?_
          refine z_iload ok dL_isTick_229 rfl ?_
          refine z_iale (f := fW) (v := pk N i 6) ok 3 rfl (rW _ (by omega) (by omega)) dL_isTick_231 (by omega) (by decide) ?_
          refine z_iload ok dL_isTick_232 rfl ?_
          refine z_if_eq (tgt := 241) ok dL_isTick_234 (by decide) (by decide) (fun c234 => ?_) (fun c => absurd c (by decide))
          refine z_iconst ok dL_isTick_241 ?_
          refine z_iadd ok dL_isTick_242 ?_
          refine z_icmp_ne (tgt := 271) ok dL_isTick_243 (by decide) (by omega) (by omega) (fun c => (by omega : False).elim) (fun c243 => ?_)
          refine z_iload ok dL_isTick_246 rfl ?_
          refine z_aload ok dL_isTick_248 rfl ?_
          refine z_iload ok dL_isTick_250 rfl ?_
          refine z_iale (f := fM) (v := pk N i 4) ok 2 rfl (rM _ (by omega) (by omega)) dL_isTick_252 (by omega) (by decide) ?_
          refine z_iload ok dL_isTick_253 rfl ?_
          refine z_aload_n ok dL_isTick_255 rfl ?_
          refine z_iload ok dL_isTick_256 rfl ?_
          refine z_iale (f := fB) (v := pk N i 3) ok 5 rfl (rB _ (by omega) (by omega)) dL_isTick_258 (by omega) (by decide) ?_
          refine z_icmp_ne (tgt := 266) ok dL_isTick_259 (by decide) (by omega) (by omega) (fun c => (by omega : False).elim) (fun c259 => ?_)
          refine z_iconst ok dL_isTick_262 ?_
          refine z_goto (tgt := 267) ok dL_isTick_263 (by decide) ?_
          refine z_iadd ok dL_isTick_267 ?_
          refine z_icmp_eq (tgt := 273) ok dL_isTick_268 (by decide) (by omega) (by omega) (fun c268 => ?_) (fun c => (by omega : False).elim)
          refine z_aload_n ok dL_isTick_273 rfl ?_
          refine z_iload ok dL_isTick_274 rfl ?_
          refine z_iale (f := fS) (v := pk N i 2) ok 4 rfl (rS _ (by omega) (by omega)) dL_isTick_276 (by omega) (by decide) ?_
          refine z_iconst ok dL_isTick_277 ?_
          refine z_icmp_ne (tgt := 297) ok dL_isTick_278 (by decide) (by omega) (by decide) (fun c278 => ?_) (fun c => (by omega : False).elim)
          refine z_aload_n ok dL_isTick_297 rfl ?_
          refine z_iload ok dL_isTick_298 rfl ?_
          refine z_iale (f := fS) (v := pk N i 2) ok 4 rfl (rS _ (by omega) (by omega)) dL_isTick_300 (by omega) (by decide) ?_
          refine z_if_ne (tgt := 381) ok dL_isTick_301 (by decide) (by omega) (fun c => (by omega : False).elim) (fun c301 => ?_)
          refine z_aload ok dL_isTick_304 rfl ?_
          refine z_aload_n ok dL_isTick_306 rfl ?_
          refine z_iload ok dL_isTick_307 rfl ?_
          refine z_iale (f := fB) (v := pk N i 3) ok 5 rfl (rB _ (by omega) (by omega)) dL_isTick_309 (by omega) (by decide) ?_
          refine z_iale (f := fN) (v := insQ N i (pk N i 3)) ok 0 rfl (rN _ (by omega) (by omega)) dL_isTick_310 (by omega) (by decide) ?_
          refine z_iload ok dL_isTick_311 rfl ?_
          refine z_icmp_ge (tgt := 320) ok dL_isTick_313 (by decide) (by omega) (by omega) (fun c => (by omega : False).elim) (fun c313 => ?_)
          refine z_iconst ok dL_isTick_316 ?_
          refine z_goto (tgt := 321) ok dL_isTick_317 (by decide) ?_
          refine z_istore (lv' := [(14, .int (iI 1)), (13, .int (iI 0)), (12, .int (iI (pk (pasN N) i 4))), (11, .int (iI (pk (pasN N) i 3))), (10, .int (iI i)), (9, .int (iI (N 2))), (8, .int (iI (N 3))), (7, .ref qN), (6, .ref qF), (5, .ref qM), (4, .ref qW), (3, .ref qS), (2, .ref qB), (1, .int (iI (N 6))), (0, .ref (obX ad))]) ok dL_isTick_321 (by decide) rfl ?_
          refine z_iload ok dL_isTick_323 rfl ?_
          refine z_aload_n ok dL_isTick_325 rfl ?_
          refine z_iload ok dL_isTick_326 rfl ?_
          refine z_iale (f := fB) (v := pk N i 3) ok 5 rfl (rB _ (by omega) (by omega)) dL_isTick_328 (by omega) (by decide) ?_
          refine z_icmp_ne (tgt := 359) ok dL_isTick_329 (by decide) (by omega) (by omega) (fun c => (by omega : False).elim) (fun c329 => ?_)
          refine z_iload ok dL_isTick_332 rfl ?_
          refine z_iload ok dL_isTick_334 rfl ?_
          refine z_icmp_eq (tgt := 359) ok dL_isTick_336 (by decide) (by decide) (by decide) (fun c => absurd c (by decide)) (fun c336 => ?_)
          refine z_aload_n ok dL_isTick_339 rfl ?_
          refine z_iload ok dL_isTick_340 rfl ?_
          refine z_iconst ok dL_isTick_342 ?_
          refine o_ofPacket (v := pk (pasN N) i 2) ok h104I hw2 (by omega) (by decide) (v_pk (hq2) (by decide)) qm_RL_14 dL_isTick_343 (by decide) ⟨by decide, by decide⟩ (Nat.le_of_ble_eq_true rfl) (fun h105 h105I => ?_)
          refine z_iload ok dL_isTick_346 rfl ?_
          refine z_if_eq (tgt := 355) ok dL_isTick_348 (by decide) (by decide) (fun c => absurd c (by decide)) (fun c348 => ?_)
          refine z_iconst ok dL_isTick_351 ?_
          refine z_goto (tgt := 356) ok dL_isTick_352 (by decide) ?_
          refine z_icmp_eq (tgt := 361) ok dL_isTick_356 (by decide) (by omega) (by decide) (fun c356 => ?_) (fun c => (by omega : False).elim)
          refine z_aload ok dL_isTick_361 rfl ?_
          refine z_aload_n ok dL_isTick_363 rfl ?_
          refine z_iload ok dL_isTick_364 rfl ?_
          refine z_iale (f := fB) (v := pk N i 3) ok 5 rfl (rB _ (by omega) (by omega)) dL_isTick_366 (by omega) (by decide) ?_
          refine z_dup2 ok dL_isTick_367 rfl rfl ?_
          refine z_iale (f := fN) (v := insQ N i (pk N i 3)) ok 0 rfl (rN _ (by omega) (by omega)) dL_isTick_368 (by omega) (by decide) ?_
          refine z_iload ok dL_isTick_369 rfl ?_
          refine z_if_eq (tgt := 378) ok dL_isTick_371 (by decide) (by decide) (fun c => absurd c (by decide)) (fun c371 => ?_)
          refine z_iconst ok dL_isTick_374 ?_
          refine z_goto (tgt := 379) ok dL_isTick_375 (by decide) ?_
          refine z_iadd ok dL_isTick_379 ?_
          refine z_iast (f := fN) (v := (insQ N i (pk N i 3)) + 1) (ws' := [aW Z qN 25 (zu fN (pk N i 3) ((insQ N i (pk N i 3)) + 1)), aW Z qF 40 fF, aW Z qM 40 fM, aW Z qW 40 fW, aW Z qS 40 fS, aW Z qB 40 fB] ++ (obW Z ad (pasN N) h105 ++ ([] : va_W))) ok 0 rfl dL_isTick_380 (by omega) (by decide) rfl ?_
          refine z_aload_n ok dL_isTick_381 rfl ?_
          refine z_iload ok dL_isTick_382 rfl ?_
          refine z_iale (f := fS) (v := pk N i 2) ok 4 rfl (rS _ (by omega) (by omega)) dL_isTick_384 (by omega) (by decide) ?_
          refine z_iconst ok dL_isTick_385 ?_
          refine z_icmp_ne (tgt := 629) ok dL_isTick_386 (by decide) (by omega) (by decide) (fun c386 => ?_) (fun c => (by omega : False).elim)
          refine z_iinc (lv' := [(10, .int (iI (i + 1))), (14, .int (iI 1)), (13, .int (iI 0)), (12, .int (iI (pk (pasN N) i 4))), (11, .int (iI (pk (pasN N) i 3))), (9, .int (iI (N 2))), (8, .int (iI (N 3))), (7, .ref qN), (6, .ref qF), (5, .ref qM), (4, .ref qW), (3, .ref qS), (2, .ref qB), (1, .int (iI (N 6))), (0, .ref (obX ad))]) ok dL_isTick_629 4 rfl (by decide) rfl ?_
          refine z_goto (tgt := 170) ok dL_isTick_632 (by decide) ?_
          have hfin : ∀ b : Int, 0 ≤ b → b < 25 → (zu fN (pk N i 3) ((insQ N i (pk N i 3)) + 1)) b = insQ N (i + 1) b := by
            intro b b0 b1
            by_cases e1 : b = pk N i 3
            · rw [e1, zu_s, k5]; rw [if_pos rfl]
            · rw [zu_n e1, k5, rN b b0 b1]; rw [if_neg e1]; omega
          refine z_lsub ok (lv' := [(10, .int (iI (i + 1))), (9, .int (iI (N 2))), (8, .int (iI (N 3))), (7, .ref qN), (6, .ref qF), (5, .ref qM), (4, .ref qW), (3, .ref qS), (2, .ref qB), (1, .int (iI (N 6))), (0, .ref (obX ad))]) [0, 5, 6, 7, 8, 9, 10, 11, 12, 13, 14] rfl ?_
          exact ih (i + 1) fB fS fW fM fF (zu fN (pk N i 3) ((insQ N i (pk N i 3)) + 1)) h105 (by omega) (by omega) rB rS rW rM rF (hfin) h105I (by omega)
        · -- tk0n
          have z6 := k3
          have z1 := k4 1 (by decide) (by decide) (by decide)
          have z2 := k4 2 (by decide) (by decide) (by decide)
          have z3 := k4 3 (by decide) (by decide) (by decide)
          have z4 := k4 4 (by decide) (by decide) (by decide)
          have z8 := k4 8 (by decide) (by decide) (by decide)
          refine z_aload_n ok dL_isTick_176 rfl ?_
          refine z_iload ok dL_isTick_177 rfl ?_
          refine z_iconst ok dL_isTick_179 ?_
          refine o_ofPacket (v := pk (pasN N) i 3) ok gI hw2 (by omega) (by decide) (v_pk (hq2) (by decide)) qm_RL_14 dL_isTick_180 (by decide) ⟨by decide, by decide⟩ (Nat.le_of_ble_eq_true rfl) (fun h101 h101I => ?_)
          refine z_istore (lv' := [(11, .int (iI (pk (pasN N) i 3))), (10, .int (iI i)), (9, .int (iI (N 2))), (8, .int (iI (N 3))), (7, .ref qN), (6, .ref qF), (5, .ref qM), (4, .ref qW), (3, .ref qS), (2, .ref qB), (1, .int (iI (N 6))), (0, .ref (obX ad))]) ok dL_isTick_183 (by decide) rfl ?_
          refine z_aload_n ok dL_isTick_185 rfl ?_
          refine z_iload ok dL_isTick_186 rfl ?_
          refine z_iconst ok dL_isTick_188 ?_
          refine o_ofPacket (v := pk (pasN N) i 4) ok h101I hw2 (by omega) (by decide) (v_pk (hq2) (by decide)) qm_RL_14 dL_isTick_189 (by decide) ⟨by decide, by decide⟩ (Nat.le_of_ble_eq_true rfl) (fun h102 h102I => ?_)
          refine z_istore (lv' := [(12, .int (iI (pk (pasN N) i 4))), (11, .int (iI (pk (pasN N) i 3))), (10, .int (iI i)), (9, .int (iI (N 2))), (8, .int (iI (N 3))), (7, .ref qN), (6, .ref qF), (5, .ref qM), (4, .ref qW), (3, .ref qS), (2, .ref qB), (1, .int (iI (N 6))), (0, .ref (obX ad))]) ok dL_isTick_192 (by decide) rfl ?_
          refine z_aload_n ok dL_isTick_194 rfl ?_
          refine z_iload ok dL_isTick_195 rfl ?_
          refine z_bipush ok dL_isTick_197 (by decide) ?_
          refine o_ofPacket (v := pk (pasN N) i 6) ok h102I hw2 (by omega) (by decide) (v_pk (hq2) (by decide)) qm_RL_14 dL_isTick_199 (by decide) ⟨by decide, by decide⟩ (Nat.le_of_ble_eq_true rfl) (fun h103 h103I => ?_)
          refine z_aload ok dL_isTick_202 rfl ?_
          refine z_iload ok dL_isTick_204 rfl ?_
          refine z_iale (f := fW) (v := pk N i 6) ok 3 rfl (rW _ (by omega) (by omega)) dL_isTick_206 (by omega) (by decide) ?_
          refine z_iconst ok dL_isTick_207 ?_
          refine z_iadd ok dL_isTick_208 ?_
          refine z_icmp_ne (tgt := 216) ok dL_isTick_209 (by decide) (by omega) (by omega) (fun c => (by omega : False).elim) (fun c209 => ?_)
          refine z_iconst ok dL_isTick_212 ?_
          refine z_goto (tgt := 217) ok dL_isTick_213 (by decide) ?_
          refine z_istore (lv' := [(13, .int (iI 1)), (12, .int (iI (pk (pasN N) i 4))), (11, .int (iI (pk (pasN N) i 3))), (10, .int (iI i)), (9, .int (iI (N 2))), (8, .int (iI (N 3))), (7, .ref qN), (6, .ref qF), (5, .ref qM), (4, .ref qW), (3, .ref qS), (2, .ref qB), (1, .int (iI (N 6))), (0, .ref (obX ad))]) ok dL_isTick_217 (by decide) rfl ?_
          refine z_aload_n ok dL_isTick_219 rfl ?_
          refine z_iload ok dL_isTick_220 rfl ?_
          refine z_bipush ok dL_isTick_222 (by decide) ?_
          refine o_ofPacket (v := pk (pasN N) i 6) ok h103I hw2 (by omega) (by decide) (v_pk (hq2) (by decide)) qm_RL_14 dL_isTick_224 (by decide) ⟨by decide, by decide⟩ (Nat.le_of_ble_eq_true rfl) (fun h104 h104I => ?_)
          refine z_aload ok dL_isTick_227 rfl ?_
          refine z_iload ok dL_isTick_229 rfl ?_
          refine z_iale (f := fW) (v := pk N i 6) ok 3 rfl (rW _ (by omega) (by omega)) dL_isTick_231 (by omega) (by decide) ?_
          refine z_iload ok dL_isTick_232 rfl ?_
          refine z_if_eq (tgt := 241) ok dL_isTick_234 (by decide) (by decide) (fun c => absurd c (by decide)) (fun c234 => ?_)
          refine z_iconst ok dL_isTick_237 ?_
          refine z_goto (tgt := 242) ok dL_isTick_238 (by decide) ?_
          refine z_iadd ok dL_isTick_242 ?_
          refine z_icmp_ne (tgt := 271) ok dL_isTick_243 (by decide) (by omega) (by omega) (fun c => (by omega : False).elim) (fun c243 => ?_)
          refine z_iload ok dL_isTick_246 rfl ?_
          refine z_aload ok dL_isTick_248 rfl ?_
          refine z_iload ok dL_isTick_250 rfl ?_
          refine z_iale (f := fM) (v := pk N i 4) ok 2 rfl (rM _ (by omega) (by omega)) dL_isTick_252 (by omega) (by decide) ?_
          refine z_iload ok dL_isTick_253 rfl ?_
          refine z_aload_n ok dL_isTick_255 rfl ?_
          refine z_iload ok dL_isTick_256 rfl ?_
          refine z_iale (f := fB) (v := pk N i 3) ok 5 rfl (rB _ (by omega) (by omega)) dL_isTick_258 (by omega) (by decide) ?_
          refine z_icmp_ne (tgt := 266) ok dL_isTick_259 (by decide) (by omega) (by omega) (fun c => (by omega : False).elim) (fun c259 => ?_)
          refine z_iconst ok dL_isTick_262 ?_
          refine z_goto (tgt := 267) ok dL_isTick_263 (by decide) ?_
          refine z_iadd ok dL_isTick_267 ?_
          refine z_icmp_eq (tgt := 273) ok dL_isTick_268 (by decide) (by omega) (by omega) (fun c268 => ?_) (fun c => (by omega : False).elim)
          refine z_aload_n ok dL_isTick_273 rfl ?_
          refine z_iload ok dL_isTick_274 rfl ?_
          refine z_iale (f := fS) (v := pk N i 2) ok 4 rfl (rS _ (by omega) (by omega)) dL_isTick_276 (by omega) (by decide) ?_
          refine z_iconst ok dL_isTick_277 ?_
          refine z_icmp_ne (tgt := 297) ok dL_isTick_278 (by decide) (by omega) (by decide) (fun c278 => ?_) (fun c => (by omega : False).elim)
          refine z_aload_n ok dL_isTick_297 rfl ?_
          refine z_iload ok dL_isTick_298 rfl ?_
          refine z_iale (f := fS) (v := pk N i 2) ok 4 rfl (rS _ (by omega) (by omega)) dL_isTick_300 (by omega) (by decide) ?_
          refine z_if_ne (tgt := 381) ok dL_isTick_301 (by decide) (by omega) (fun c => (by omega : False).elim) (fun c301 => ?_)
          refine z_aload ok dL_isTick_304 rfl ?_
          refine z_aload_n ok dL_isTick_306 rfl ?_
          refine z_iload ok dL_isTick_307 rfl ?_
          refine z_iale (f := fB) (v := pk N i 3) ok 5 rfl (rB _ (by omega) (by omega)) dL_isTick_309 (by omega) (by decide) ?_
          refine z_iale (f := fN) (v := insQ N i (pk N i 3)) ok 0 rfl (rN _ (by omega) (by omega)) dL_isTick_310 (by omega) (by decide) ?_
          refine z_iload ok dL_isTick_311 rfl ?_
          refine z_icmp_ge (tgt := 320) ok dL_isTick_313 (by decide) (by omega) (by omega) (fun c313 => ?_) (fun c => (by omega : False).elim)
          refine z_iconst ok dL_isTick_320 ?_
          refine z_istore (lv' := [(14, .int (iI 0)), (13, .int (iI 1)), (12, .int (iI (pk (pasN N) i 4))), (11, .int (iI (pk (pasN N) i 3))), (10, .int (iI i)), (9, .int (iI (N 2))), (8, .int (iI (N 3))), (7, .ref qN), (6, .ref qF), (5, .ref qM), (4, .ref qW), (3, .ref qS), (2, .ref qB), (1, .int (iI (N 6))), (0, .ref (obX ad))]) ok dL_isTick_321 (by decide) rfl ?_
          refine z_iload ok dL_isTick_323 rfl ?_
          refine z_aload_n ok dL_isTick_325 rfl ?_
          refine z_iload ok dL_isTick_326 rfl ?_
          refine z_iale (f := fB) (v := pk N i 3) ok 5 rfl (rB _ (by omega) (by omega)) dL_isTick_328 (by omega) (by decide) ?_
          refine z_icmp_ne (tgt := 359) ok dL_isTick_329 (by decide) (by omega) (by omega) (fun c => (by omega : False).elim) (fun c329 => ?_)
          refine z_iload ok dL_isTick_332 rfl ?_
          refine z_iload ok dL_isTick_334 rfl ?_
          refine z_icmp_eq (tgt := 359) ok dL_isTick_336 (by decide) (by decide) (by decide) (fun c => absurd c (by decide)) (fun c336 => ?_)
          refine z_aload_n ok dL_isTick_339 rfl ?_
          refine z_iload ok dL_isTick_340 rfl ?_
          refine z_iconst ok dL_isTick_342 ?_
          refine o_ofPacket (v := pk (pasN N) i 2) ok h104I hw2 (by omega) (by decide) (v_pk (hq2) (by decide)) qm_RL_14 dL_isTick_343 (by decide) ⟨by decide, by decide⟩ (Nat.le_of_ble_eq_true rfl) (fun h105 h105I => ?_)
          refine z_iload ok dL_isTick_346 rfl ?_
          refine z_if_eq (tgt := 355) ok dL_isTick_348 (by decide) (by decide) (fun c348 => ?_) (fun c => absurd c (by decide))
          refine z_iconst ok dL_isTick_355 ?_
          refine z_icmp_eq (tgt := 361) ok dL_isTick_356 (by decide) (by omega) (by decide) (fun c356 => ?_) (fun c => (by omega : False).elim)
          refine z_aload ok dL_isTick_361 rfl ?_
          refine z_aload_n ok dL_isTick_363 rfl ?_
          refine z_iload ok dL_isTick_364 rfl ?_
          refine z_iale (f := fB) (v := pk N i 3) ok 5 rfl (rB _ (by omega) (by omega)) dL_isTick_366 (by omega) (by decide) ?_
          refine z_dup2 ok dL_isTick_367 rfl rfl ?_
          refine z_iale (f := fN) (v := insQ N i (pk N i 3)) ok 0 rfl (rN _ (by omega) (by omega)) dL_isTick_368 (by omega) (by decide) ?_
          refine z_iload ok dL_isTick_369 rfl ?_
          refine z_if_eq (tgt := 378) ok dL_isTick_371 (by decide) (by decide) (fun c371 => ?_) (fun c => absurd c (by decide))
          refine z_iconst ok dL_isTick_378 ?_
          refine z_iadd ok dL_isTick_379 ?_
          refine z_iast (f := fN) (v := (insQ N i (pk N i 3)) + 0) (ws' := [aW Z qN 25 (zu fN (pk N i 3) ((insQ N i (pk N i 3)) + 0)), aW Z qF 40 fF, aW Z qM 40 fM, aW Z qW 40 fW, aW Z qS 40 fS, aW Z qB 40 fB] ++ (obW Z ad (pasN N) h105 ++ ([] : va_W))) ok 0 rfl dL_isTick_380 (by omega) (by decide) rfl ?_
          refine z_aload_n ok dL_isTick_381 rfl ?_
          refine z_iload ok dL_isTick_382 rfl ?_
          refine z_iale (f := fS) (v := pk N i 2) ok 4 rfl (rS _ (by omega) (by omega)) dL_isTick_384 (by omega) (by decide) ?_
          refine z_iconst ok dL_isTick_385 ?_
          refine z_icmp_ne (tgt := 629) ok dL_isTick_386 (by decide) (by omega) (by decide) (fun c386 => ?_) (fun c => (by omega : False).elim)
          refine z_iinc (lv' := [(10, .int (iI (i + 1))), (14, .int (iI 0)), (13, .int (iI 1)), (12, .int (iI (pk (pasN N) i 4))), (11, .int (iI (pk (pasN N) i 3))), (9, .int (iI (N 2))), (8, .int (iI (N 3))), (7, .ref qN), (6, .ref qF), (5, .ref qM), (4, .ref qW), (3, .ref qS), (2, .ref qB), (1, .int (iI (N 6))), (0, .ref (obX ad))]) ok dL_isTick_629 4 rfl (by decide) rfl ?_
          refine z_goto (tgt := 170) ok dL_isTick_632 (by decide) ?_
          have hfin : ∀ b : Int, 0 ≤ b → b < 25 → (zu fN (pk N i 3) ((insQ N i (pk N i 3)) + 0)) b = insQ N (i + 1) b := by
            intro b b0 b1
            by_cases e1 : b = pk N i 3
            · rw [e1, zu_s, k5]; omega
            · rw [zu_n e1, k5, rN b b0 b1]
          refine z_lsub ok (lv' := [(10, .int (iI (i + 1))), (9, .int (iI (N 2))), (8, .int (iI (N 3))), (7, .ref qN), (6, .ref qF), (5, .ref qM), (4, .ref qW), (3, .ref qS), (2, .ref qB), (1, .int (iI (N 6))), (0, .ref (obX ad))]) [0, 5, 6, 7, 8, 9, 10, 11, 12, 13, 14] rfl ?_
          exact ih (i + 1) fB fS fW fM fF (zu fN (pk N i 3) ((insQ N i (pk N i 3)) + 0)) h105 (by omega) (by omega) rB rS rW rM rF (hfin) h105I (by omega)
        · -- tk1y
          have hfv : fsV N i = fsN N i := if_neg (by omega)
          have hnn := nb_ne hc4 (by omega : 0 ≤ pk N i 3) k4.1
          have ir4 := hir (nb N (pk N i 3) g0)
          have ir5 := hir (nb N (pk N i 3) (fsN N i))
          have hd1 : dist N (pk (pasN N) i 3) (pk N i 3) = 1 := by rw [z3]; exact hnn.2
          have ez : insQ N i (pk (pasN N) i 3) = insQ N i (nb N (pk N i 3) g0) := by rw [z3]
          rcases (show nb N (pk N i 3) (fsN N i) = pk N i 1 ∨ (nb N (pk N i 3) (fsN N i) ≠ pk N i 1 ∧ insQ N i (nb N (pk N i 3) (fsN N i)) < N 2) ∨ (nb N (pk N i 3) (fsN N i) ≠ pk N i 1 ∧ N 2 ≤ insQ N i (nb N (pk N i 3) (fsN N i)) ∧ nb N (pk N i 3) g0 = pk N i 1) ∨ (nb N (pk N i 3) (fsN N i) ≠ pk N i 1 ∧ N 2 ≤ insQ N i (nb N (pk N i 3) (fsN N i)) ∧ nb N (pk N i 3) g0 ≠ pk N i 1) by omega) with c | c | c | c
          · -- y1
            have eg := kg (Or.inl c)
            rw [← eg] at c
            rw [if_pos c] at z2 z8
            have ef : nb N (pk N i 3) g0 = nb N (pk N i 3) (fsN N i) := by rw [eg]
            refine z_aload_n ok dL_isTick_176 rfl ?_
            refine z_iload ok dL_isTick_177 rfl ?_
            refine z_iconst ok dL_isTick_179 ?_
            refine o_ofPacket (v := pk (pasN N) i 3) ok gI hw2 (by omega) (by decide) (v_pk (hq2) (by decide)) qm_RL_14 dL_isTick_180 (by decide) ⟨by decide, by decide⟩ (Nat.le_of_ble_eq_true rfl) (fun h101 h101I => ?_)
            refine z_istore (lv' := [(11, .int (iI (pk (pasN N) i 3))), (10, .int (iI i)), (9, .int (iI (N 2))), (8, .int (iI (N 3))), (7, .ref qN), (6, .ref qF), (5, .ref qM), (4, .ref qW), (3, .ref qS), (2, .ref qB), (1, .int (iI (N 6))), (0, .ref (obX ad))]) ok dL_isTick_183 (by decide) rfl ?_
            refine z_aload_n ok dL_isTick_185 rfl ?_
            refine z_iload ok dL_isTick_186 rfl ?_
            refine z_iconst ok dL_isTick_188 ?_
            refine o_ofPacket (v := pk (pasN N) i 4) ok h101I hw2 (by omega) (by decide) (v_pk (hq2) (by decide)) qm_RL_14 dL_isTick_189 (by decide) ⟨by decide, by decide⟩ (Nat.le_of_ble_eq_true rfl) (fun h102 h102I => ?_)
            refine z_istore (lv' := [(12, .int (iI (pk (pasN N) i 4))), (11, .int (iI (pk (pasN N) i 3))), (10, .int (iI i)), (9, .int (iI (N 2))), (8, .int (iI (N 3))), (7, .ref qN), (6, .ref qF), (5, .ref qM), (4, .ref qW), (3, .ref qS), (2, .ref qB), (1, .int (iI (N 6))), (0, .ref (obX ad))]) ok dL_isTick_192 (by decide) rfl ?_
            refine z_aload_n ok dL_isTick_194 rfl ?_
            refine z_iload ok dL_isTick_195 rfl ?_
            refine z_bipush ok dL_isTick_197 (by decide) ?_
            refine o_ofPacket (v := pk (pasN N) i 6) ok h102I hw2 (by omega) (by decide) (v_pk (hq2) (by decide)) qm_RL_14 dL_isTick_199 (by decide) ⟨by decide, by decide⟩ (Nat.le_of_ble_eq_true rfl) (fun h103 h103I => ?_)
            refine z_aload ok dL_isTick_202 rfl ?_
            refine z_iload ok dL_isTick_204 rfl ?_
            refine z_iale (f := fW) (v := pk N i 6) ok 3 rfl (rW _ (by omega) (by omega)) dL_isTick_206 (by omega) (by decide) ?_
            refine z_iconst ok dL_isTick_207 ?_
            refine z_iadd ok dL_isTick_208 ?_
            refine z_icmp_ne (tgt := 216) ok dL_isTick_209 (by decide) (by omega) (by omega) (fun c209 => ?_) (fun c => (by omega : False).elim)
            refine z_iconst ok dL_isTick_216 ?_
            refine z_istore (lv' := [(13, .int (iI 0)), (12, .int (iI (pk (pasN N) i 4))), (11, .int (iI (pk (pasN N) i 3))), (10, .int (iI i)), (9, .int (iI (N 2))), (8, .int (iI (N 3))), (7, .ref qN), (6, .ref qF), (5, .ref qM), (4, .ref qW), (3, .ref qS), (2, .ref qB), (1, .int (iI (N 6))), (0, .ref (obX ad))]) ok dL_isTick_217 (by decide) rfl ?_
            refine z_aload_n ok dL_isTick_219 rfl ?_
            refine z_iload ok dL_isTick_220 rfl ?_
            refine z_bipush ok dL_isTick_222 (by decide) ?_
            refine o_ofPacket (v := pk (pasN N) i 6) ok h103I hw2 (by omega) (by decide) (v_pk (hq2) (by decide)) qm_RL_14 dL_isTick_224 (by decide) ⟨by decide, by decide⟩ (Nat.le_of_ble_eq_true rfl) (fun h104 h104I => ?_)
            refine z_aload ok dL_isTick_227 rfl ?_
            refine z_iload ok dL_isTick_229 rfl ?_
            refine z_iale (f := fW) (v := pk N i 6) ok 3 rfl (rW _ (by omega) (by omega)) dL_isTick_231 (by omega) (by decide) ?_
            refine z_iload ok dL_isTick_232 rfl ?_
            refine z_if_eq (tgt := 241) ok dL_isTick_234 (by decide) (by decide) (fun c234 => ?_) (fun c => absurd c (by decide))
            refine z_iconst ok dL_isTick_241 ?_
            refine z_iadd ok dL_isTick_242 ?_
            refine z_icmp_ne (tgt := 271) ok dL_isTick_243 (by decide) (by omega) (by omega) (fun c => (by omega : False).elim) (fun c243 => ?_)
            refine z_iload ok dL_isTick_246 rfl ?_
            refine z_aload ok dL_isTick_248 rfl ?_
            refine z_iload ok dL_isTick_250 rfl ?_
            refine z_iale (f := fM) (v := pk N i 4) ok 2 rfl (rM _ (by omega) (by omega)) dL_isTick_252 (by omega) (by decide) ?_
            refine z_iload ok dL_isTick_253 rfl ?_
            refine z_aload_n ok dL_isTick_255 rfl ?_
            refine z_iload ok dL_isTick_256 rfl ?_
            refine z_iale (f := fB) (v := pk N i 3) ok 5 rfl (rB _ (by omega) (by omega)) dL_isTick_258 (by omega) (by decide) ?_
            refine z_icmp_ne (tgt := 266) ok dL_isTick_259 (by decide) (by omega) (by omega) (fun c259 => ?_) (fun c => (by omega : False).elim)
            refine z_iconst ok dL_isTick_266 ?_
            refine z_iadd ok dL_isTick_267 ?_
            refine z_icmp_eq (tgt := 273) ok dL_isTick_268 (by decide) (by omega) (by omega) (fun c268 => ?_) (fun c => (by omega : False).elim)
            refine z_aload_n ok dL_isTick_273 rfl ?_
            refine z_iload ok dL_isTick_274 rfl ?_
            refine z_iale (f := fS) (v := pk N i 2) ok 4 rfl (rS _ (by omega) (by omega)) dL_isTick_276 (by omega) (by decide) ?_
            refine z_iconst ok dL_isTick_277 ?_
            refine z_icmp_ne (tgt := 297) ok dL_isTick_278 (by decide) (by omega) (by decide) (fun c278 => ?_) (fun c => (by omega : False).elim)
            refine z_aload_n ok dL_isTick_297 rfl ?_
            refine z_iload ok dL_isTick_298 rfl ?_
            refine z_iale (f := fS) (v := pk N i 2) ok 4 rfl (rS _ (by omega) (by omega)) dL_isTick_300 (by omega) (by decide) ?_
            refine z_if_ne (tgt := 381) ok dL_isTick_301 (by decide) (by omega) (fun c301 => ?_) (fun c => (by omega : False).elim)
            refine z_aload_n ok dL_isTick_381 rfl ?_
            refine z_iload ok dL_isTick_382 rfl ?_
            refine z_iale (f := fS) (v := pk N i 2) ok 4 rfl (rS _ (by omega) (by omega)) dL_isTick_384 (by omega) (by decide) ?_
            refine z_iconst ok dL_isTick_385 ?_
            refine z_icmp_ne (tgt := 629) ok dL_isTick_386 (by decide) (by omega) (by decide) (fun c => (by omega : False).elim) (fun c386 => ?_)
            refine z_iload ok dL_isTick_389 rfl ?_
            refine z_if_eq (tgt := 406) ok dL_isTick_391 (by decide) (by decide) (fun c391 => ?_) (fun c => absurd c (by decide))
            refine z_iload ok dL_isTick_406 rfl ?_
            refine z_aload_n ok dL_isTick_408 rfl ?_
            refine z_iload ok dL_isTick_409 rfl ?_
            refine z_iale (f := fB) (v := pk N i 3) ok 5 rfl (rB _ (by omega) (by omega)) dL_isTick_411 (by omega) (by decide) ?_
            refine z_icmp_eq (tgt := 429) ok dL_isTick_412 (by decide) (by omega) (by omega) (fun c => (by omega : False).elim) (fun c412 => ?_)
            refine z_aload_n ok dL_isTick_415 rfl ?_
            refine z_iload ok dL_isTick_416 rfl ?_
            refine z_aload_n ok dL_isTick_418 rfl ?_
            refine z_iload ok dL_isTick_419 rfl ?_
            refine z_iale (f := fB) (v := pk N i 3) ok 5 rfl (rB _ (by omega) (by omega)) dL_isTick_421 (by omega) (by decide) ?_
            refine l_apart (v := dist N (pk (pasN N) i 3) (pk N i 3)) ok h104I hw2 (by assumption) (by assumption) (dist_4 e4) qm_RL_18 dL_isTick_422 (by decide) ⟨by decide, by decide⟩ (Nat.le_of_ble_eq_true rfl) (fun h105 h105I => ?_)
            refine z_iconst ok dL_isTick_425 ?_
            refine z_icmp_eq (tgt := 431) ok dL_isTick_426 (by decide) (by omega) (by decide) (fun c426 => ?_) (fun c => (by omega : False).elim)
            refine z_iload ok dL_isTick_431 rfl ?_
            refine z_aload_n ok dL_isTick_433 rfl ?_
            refine z_iload ok dL_isTick_434 rfl ?_
            refine z_iconst ok dL_isTick_436 ?_
            refine o_ofPacket (v := pk (pasN N) i 1) ok h105I hw2 (by omega) (by decide) (v_pk (hq2) (by decide)) qm_RL_14 dL_isTick_437 (by decide) ⟨by decide, by decide⟩ (Nat.le_of_ble_eq_true rfl) (fun h106 h106I => ?_)
            refine z_icmp_ne (tgt := 447) ok dL_isTick_440 (by decide) (by omega) (by omega) (fun c => (by omega : False).elim) (fun c440 => ?_)
            refine z_iconst ok dL_isTick_443 ?_
            refine z_goto (tgt := 448) ok dL_isTick_444 (by decide) ?_
            refine z_istore (lv' := [(14, .int (iI 1)), (13, .int (iI 0)), (12, .int (iI (pk (pasN N) i 4))), (11, .int (iI (pk (pasN N) i 3))), (10, .int (iI i)), (9, .int (iI (N 2))), (8, .int (iI (N 3))), (7, .ref qN), (6, .ref qF), (5, .ref qM), (4, .ref qW), (3, .ref qS), (2, .ref qB), (1, .int (iI (N 6))), (0, .ref (obX ad))]) ok dL_isTick_448 (by decide) rfl ?_
            refine z_aload ok dL_isTick_450 rfl ?_
            refine z_iload ok dL_isTick_452 rfl ?_
            refine z_iale (f := fF) (v := fsN N i) ok 1 rfl ((rF _ (by omega) (by omega)).trans hfv) dL_isTick_454 (by omega) (by decide) ?_
            refine z_if_ge (tgt := 462) ok dL_isTick_455 (by decide) (by omega) (fun c455 => ?_) (fun c => (by omega : False).elim)
            refine z_aload_n ok dL_isTick_462 rfl ?_
            refine z_aload_n ok dL_isTick_463 rfl ?_
            refine z_iload ok dL_isTick_464 rfl ?_
            refine z_iale (f := fB) (v := pk N i 3) ok 5 rfl (rB _ (by omega) (by omega)) dL_isTick_466 (by omega) (by decide) ?_
            refine z_aload ok dL_isTick_467 rfl ?_
            refine z_iload ok dL_isTick_469 rfl ?_
            refine z_iale (f := fF) (v := fsN N i) ok 1 rfl ((rF _ (by omega) (by omega)).trans hfv) dL_isTick_471 (by omega) (by decide) ?_
            refine l_beside (v := nb N (pk N i 3) (fsN N i)) ok h106I hw2 (by assumption) (by omega) (nb_45 e4 e5) qm_RL_27 dL_isTick_472 (by decide) ⟨by decide, by decide⟩ (Nat.le_of_ble_eq_true rfl) (fun h107 h107I => ?_)
            refine z_istore (lv' := [(15, .int (iI (nb N (pk N i 3) (fsN N i)))), (14, .int (iI 1)), (13, .int (iI 0)), (12, .int (iI (pk (pasN N) i 4))), (11, .int (iI (pk (pasN N) i 3))), (10, .int (iI i)), (9, .int (iI (N 2))), (8, .int (iI (N 3))), (7, .ref qN), (6, .ref qF), (5, .ref qM), (4, .ref qW), (3, .ref qS), (2, .ref qB), (1, .int (iI (N 6))), (0, .ref (obX ad))]) ok dL_isTick_475 (by decide) rfl ?_
            refine z_iload ok dL_isTick_477 rfl ?_
            refine z_if_ge (tgt := 490) ok dL_isTick_479 (by decide) (by omega) (fun c479 => ?_) (fun c => (by omega : False).elim)
            refine z_iload ok dL_isTick_490 rfl ?_
            refine z_aload_n ok dL_isTick_492 rfl ?_
            refine z_iload ok dL_isTick_493 rfl ?_
            refine z_iconst ok dL_isTick_495 ?_
            refine o_ofPacket (v := pk (pasN N) i 1) ok h107I hw2 (by omega) (by decide) (v_pk (hq2) (by decide)) qm_RL_14 dL_isTick_496 (by decide) ⟨by decide, by decide⟩ (Nat.le_of_ble_eq_true rfl) (fun h108 h108I => ?_)
            refine z_icmp_eq (tgt := 512) ok dL_isTick_499 (by decide) (by omega) (by omega) (fun c499 => ?_) (fun c => (by omega : False).elim)
            refine z_iload ok dL_isTick_512 rfl ?_
            refine z_iload ok dL_isTick_514 rfl ?_
            refine z_icmp_eq (tgt := 521) ok dL_isTick_516 (by decide) (by omega) (by omega) (fun c516 => ?_) (fun c => (by omega : False).elim)
            refine z_iload ok dL_isTick_521 rfl ?_
            refine z_if_ne (tgt := 541) ok dL_isTick_523 (by decide) (by decide) (fun c => absurd c (by decide)) (fun c523 => ?_)
            refine z_iload ok dL_isTick_526 rfl ?_
            refine z_if_ne (tgt := 541) ok dL_isTick_528 (by decide) (by decide) (fun c528 => ?_) (fun c => absurd c (by decide))
            refine z_iload ok dL_isTick_541 rfl ?_
            refine z_if_ne (tgt := 566) ok dL_isTick_543 (by decide) (by decide) (fun c => absurd c (by decide)) (fun c543 => ?_)
            refine z_aload_n ok dL_isTick_546 rfl ?_
            refine z_iload ok dL_isTick_547 rfl ?_
            refine z_iconst ok dL_isTick_549 ?_
            refine o_ofPacket (v := pk (pasN N) i 2) ok h108I hw2 (by omega) (by decide) (v_pk (hq2) (by decide)) qm_RL_14 dL_isTick_550 (by decide) ⟨by decide, by decide⟩ (Nat.le_of_ble_eq_true rfl) (fun h109 h109I => ?_)
            refine z_iload ok dL_isTick_553 rfl ?_
            refine z_if_eq (tgt := 562) ok dL_isTick_555 (by decide) (by decide) (fun c => absurd c (by decide)) (fun c555 => ?_)
            refine z_iconst ok dL_isTick_558 ?_
            refine z_goto (tgt := 563) ok dL_isTick_559 (by decide) ?_
            refine z_icmp_ne (tgt := 584) ok dL_isTick_563 (by decide) (by omega) (by decide) (fun c => (by omega : False).elim) (fun c563 => ?_)
            refine z_iload ok dL_isTick_566 rfl ?_
            refine z_if_eq (tgt := 586) ok dL_isTick_568 (by decide) (by decide) (fun c => absurd c (by decide)) (fun c568 => ?_)
            refine z_aload_n ok dL_isTick_571 rfl ?_
            refine z_iload ok dL_isTick_572 rfl ?_
            refine z_bipush ok dL_isTick_574 (by decide) ?_
            refine o_ofPacket (v := pk (pasN N) i 8) ok h109I hw2 (by omega) (by decide) (v_pk (hq2) (by decide)) qm_RL_14 dL_isTick_576 (by decide) ⟨by decide, by decide⟩ (Nat.le_of_ble_eq_true rfl) (fun h110 h110I => ?_)
            refine z_iload ok dL_isTick_579 rfl ?_
            refine z_icmp_eq (tgt := 586) ok dL_isTick_581 (by decide) (by omega) (by omega) (fun c581 => ?_) (fun c => (by omega : False).elim)
            refine z_aload ok dL_isTick_586 rfl ?_
            refine z_aload_n ok dL_isTick_588 rfl ?_
            refine z_iload ok dL_isTick_589 rfl ?_
            refine z_iale (f := fB) (v := pk N i 3) ok 5 rfl (rB _ (by omega) (by omega)) dL_isTick_591 (by omega) (by decide) ?_
            refine z_dup2 ok dL_isTick_592 rfl rfl ?_
            refine z_iale (f := fN) (v := insQ N i (pk N i 3)) ok 0 rfl (rN _ (by omega) (by omega)) dL_isTick_593 (by omega) (by decide) ?_
            refine z_iload ok dL_isTick_594 rfl ?_
            refine z_if_eq (tgt := 603) ok dL_isTick_596 (by decide) (by decide) (fun c596 => ?_) (fun c => absurd c (by decide))
            refine z_iconst ok dL_isTick_603 ?_
            refine z_isub ok dL_isTick_604 ?_
            refine z_iast (f := fN) (v := (insQ N i (pk N i 3)) - 1) (ws' := [aW Z qN 25 (zu fN (pk N i 3) ((insQ N i (pk N i 3)) - 1)), aW Z qF 40 fF, aW Z qM 40 fM, aW Z qW 40 fW, aW Z qS 40 fS, aW Z qB 40 fB] ++ (obW Z ad (pasN N) h110 ++ ([] : va_W))) ok 0 rfl dL_isTick_605 (by omega) (by decide) rfl ?_
            refine z_aload ok dL_isTick_606 rfl ?_
            refine z_iload ok dL_isTick_608 rfl ?_
            refine z_dup2 ok dL_isTick_610 rfl rfl ?_
            refine z_iale (f := zu fN (pk N i 3) ((insQ N i (pk N i 3)) - 1)) (v := (zu fN (pk N i 3) ((insQ N i (pk N i 3)) - 1)) (pk (pasN N) i 3)) ok 0 rfl (rfl) dL_isTick_611 (by omega) (by decide) ?_
            refine z_iload ok dL_isTick_612 rfl ?_
            refine z_if_ne (tgt := 622) ok dL_isTick_614 (by decide) (by decide) (fun c => absurd c (by decide)) (fun c614 => ?_)
            refine z_iload ok dL_isTick_617 rfl ?_
            refine z_if_eq (tgt := 626) ok dL_isTick_619 (by decide) (by decide) (fun c => absurd c (by decide)) (fun c619 => ?_)
            refine z_iconst ok dL_isTick_622 ?_
            refine z_goto (tgt := 627) ok dL_isTick_623 (by decide) ?_
            refine z_iadd ok dL_isTick_627 ?_
            refine z_iast (f := zu fN (pk N i 3) ((insQ N i (pk N i 3)) - 1)) (v := ((zu fN (pk N i 3) ((insQ N i (pk N i 3)) - 1)) (pk (pasN N) i 3)) + 0) (ws' := [aW Z qN 25 (zu (zu fN (pk N i 3) ((insQ N i (pk N i 3)) - 1)) (pk (pasN N) i 3) (((zu fN (pk N i 3) ((insQ N i (pk N i 3)) - 1)) (pk (pasN N) i 3)) + 0)), aW Z qF 40 fF, aW Z qM 40 fM, aW Z qW 40 fW, aW Z qS 40 fS, aW Z qB 40 fB] ++ (obW Z ad (pasN N) h110 ++ ([] : va_W))) ok 0 rfl dL_isTick_628 (by omega) (by decide) rfl ?_
            refine z_iinc (lv' := [(10, .int (iI (i + 1))), (15, .int (iI (nb N (pk N i 3) (fsN N i)))), (14, .int (iI 1)), (13, .int (iI 0)), (12, .int (iI (pk (pasN N) i 4))), (11, .int (iI (pk (pasN N) i 3))), (9, .int (iI (N 2))), (8, .int (iI (N 3))), (7, .ref qN), (6, .ref qF), (5, .ref qM), (4, .ref qW), (3, .ref qS), (2, .ref qB), (1, .int (iI (N 6))), (0, .ref (obX ad))]) ok dL_isTick_629 5 rfl (by decide) rfl ?_
            refine z_goto (tgt := 170) ok dL_isTick_632 (by decide) ?_
            have hfin : ∀ b : Int, 0 ≤ b → b < 25 → (zu (zu fN (pk N i 3) ((insQ N i (pk N i 3)) - 1)) (pk (pasN N) i 3) (((zu fN (pk N i 3) ((insQ N i (pk N i 3)) - 1)) (pk (pasN N) i 3)) + 0)) b = insQ N (i + 1) b := by
              intro b b0 b1
              by_cases e2 : b = pk (pasN N) i 3
              · have hyx : pk (pasN N) i 3 ≠ pk N i 3 := by omega
                have a2 := kI (pk (pasN N) i 3)
                rw [if_neg hyx, if_neg (fun z => z.2 c)] at a2
                rw [e2, zu_s, zu_n hyx, rN (pk (pasN N) i 3) (by omega) (by omega)]; omega
              · rw [zu_n e2]
                by_cases e1 : b = pk N i 3
                · have a2 := kI (pk N i 3)
                  rw [if_pos rfl, if_neg (fun z => hnn.1 z.1.symm)] at a2
                  rw [e1, zu_s]; omega
                · have a2 := kI b
                  rw [if_neg e1, if_neg (fun z => e2 (z.1.trans z3.symm))] at a2
                  rw [zu_n e1, rN b b0 b1]; omega
            refine z_lsub ok (lv' := [(10, .int (iI (i + 1))), (9, .int (iI (N 2))), (8, .int (iI (N 3))), (7, .ref qN), (6, .ref qF), (5, .ref qM), (4, .ref qW), (3, .ref qS), (2, .ref qB), (1, .int (iI (N 6))), (0, .ref (obX ad))]) [0, 6, 7, 8, 9, 10, 11, 12, 13, 14, 15] rfl ?_
            exact ih (i + 1) fB fS fW fM fF (zu (zu fN (pk N i 3) ((insQ N i (pk N i 3)) - 1)) (pk (pasN N) i 3) (((zu fN (pk N i 3) ((insQ N i (pk N i 3)) - 1)) (pk (pasN N) i 3)) + 0)) h110 (by omega) (by omega) rB rS rW rM rF (hfin) h110I (by omega)
          · -- y2
            have eg := kg (Or.inr c.2)
            have ei : insQ N i (nb N (pk N i 3) g0) = insQ N i (nb N (pk N i 3) (fsN N i)) := by rw [eg]
            rw [← eg] at c
            rw [if_neg c.1] at z2 z8
            have ef : nb N (pk N i 3) g0 = nb N (pk N i 3) (fsN N i) := by rw [eg]
            refine z_aload_n ok dL_isTick_176 rfl ?_
            refine z_iload ok dL_isTick_177 rfl ?_
            refine z_iconst ok dL_isTick_179 ?_
            refine o_ofPacket (v := pk (pasN N) i 3) ok gI hw2 (by omega) (by decide) (v_pk (hq2) (by decide)) qm_RL_14 dL_isTick_180 (by decide) ⟨by decide, by decide⟩ (Nat.le_of_ble_eq_true rfl) (fun h101 h101I => ?_)
            refine z_istore (lv' := [(11, .int (iI (pk (pasN N) i 3))), (10, .int (iI i)), (9, .int (iI (N 2))), (8, .int (iI (N 3))), (7, .ref qN), (6, .ref qF), (5, .ref qM), (4, .ref qW), (3, .ref qS), (2, .ref qB), (1, .int (iI (N 6))), (0, .ref (obX ad))]) ok dL_isTick_183 (by decide) rfl ?_
            refine z_aload_n ok dL_isTick_185 rfl ?_
            refine z_iload ok dL_isTick_186 rfl ?_
            refine z_iconst ok dL_isTick_188 ?_
            refine o_ofPacket (v := pk (pasN N) i 4) ok h101I hw2 (by omega) (by decide) (v_pk (hq2) (by decide)) qm_RL_14 dL_isTick_189 (by decide) ⟨by decide, by decide⟩ (Nat.le_of_ble_eq_true rfl) (fun h102 h102I => ?_)
            refine z_istore (lv' := [(12, .int (iI (pk (pasN N) i 4))), (11, .int (iI (pk (pasN N) i 3))), (10, .int (iI i)), (9, .int (iI (N 2))), (8, .int (iI (N 3))), (7, .ref qN), (6, .ref qF), (5, .ref qM), (4, .ref qW), (3, .ref qS), (2, .ref qB), (1, .int (iI (N 6))), (0, .ref (obX ad))]) ok dL_isTick_192 (by decide) rfl ?_
            refine z_aload_n ok dL_isTick_194 rfl ?_
            refine z_iload ok dL_isTick_195 rfl ?_
            refine z_bipush ok dL_isTick_197 (by decide) ?_
            refine o_ofPacket (v := pk (pasN N) i 6) ok h102I hw2 (by omega) (by decide) (v_pk (hq2) (by decide)) qm_RL_14 dL_isTick_199 (by decide) ⟨by decide, by decide⟩ (Nat.le_of_ble_eq_true rfl) (fun h103 h103I => ?_)
            refine z_aload ok dL_isTick_202 rfl ?_
            refine z_iload ok dL_isTick_204 rfl ?_
            refine z_iale (f := fW) (v := pk N i 6) ok 3 rfl (rW _ (by omega) (by omega)) dL_isTick_206 (by omega) (by decide) ?_
            refine z_iconst ok dL_isTick_207 ?_
            refine z_iadd ok dL_isTick_208 ?_
            refine z_icmp_ne (tgt := 216) ok dL_isTick_209 (by decide) (by omega) (by omega) (fun c209 => ?_) (fun c => (by omega : False).elim)
            refine z_iconst ok dL_isTick_216 ?_
            refine z_istore (lv' := [(13, .int (iI 0)), (12, .int (iI (pk (pasN N) i 4))), (11, .int (iI (pk (pasN N) i 3))), (10, .int (iI i)), (9, .int (iI (N 2))), (8, .int (iI (N 3))), (7, .ref qN), (6, .ref qF), (5, .ref qM), (4, .ref qW), (3, .ref qS), (2, .ref qB), (1, .int (iI (N 6))), (0, .ref (obX ad))]) ok dL_isTick_217 (by decide) rfl ?_
            refine z_aload_n ok dL_isTick_219 rfl ?_
            refine z_iload ok dL_isTick_220 rfl ?_
            refine z_bipush ok dL_isTick_222 (by decide) ?_
            refine o_ofPacket (v := pk (pasN N) i 6) ok h103I hw2 (by omega) (by decide) (v_pk (hq2) (by decide)) qm_RL_14 dL_isTick_224 (by decide) ⟨by decide, by decide⟩ (Nat.le_of_ble_eq_true rfl) (fun h104 h104I => ?_)
            refine z_aload ok dL_isTick_227 rfl ?_
            refine z_iload ok dL_isTick_229 rfl ?_
            refine z_iale (f := fW) (v := pk N i 6) ok 3 rfl (rW _ (by omega) (by omega)) dL_isTick_231 (by omega) (by decide) ?_
            refine z_iload ok dL_isTick_232 rfl ?_
            refine z_if_eq (tgt := 241) ok dL_isTick_234 (by decide) (by decide) (fun c234 => ?_) (fun c => absurd c (by decide))
            refine z_iconst ok dL_isTick_241 ?_
            refine z_iadd ok dL_isTick_242 ?_
            refine z_icmp_ne (tgt := 271) ok dL_isTick_243 (by decide) (by omega) (by omega) (fun c => (by omega : False).elim) (fun c243 => ?_)
            refine z_iload ok dL_isTick_246 rfl ?_
            refine z_aload ok dL_isTick_248 rfl ?_
            refine z_iload ok dL_isTick_250 rfl ?_
            refine z_iale (f := fM) (v := pk N i 4) ok 2 rfl (rM _ (by omega) (by omega)) dL_isTick_252 (by omega) (by decide) ?_
            refine z_iload ok dL_isTick_253 rfl ?_
            refine z_aload_n ok dL_isTick_255 rfl ?_
            refine z_iload ok dL_isTick_256 rfl ?_
            refine z_iale (f := fB) (v := pk N i 3) ok 5 rfl (rB _ (by omega) (by omega)) dL_isTick_258 (by omega) (by decide) ?_
            refine z_icmp_ne (tgt := 266) ok dL_isTick_259 (by decide) (by omega) (by omega) (fun c259 => ?_) (fun c => (by omega : False).elim)
            refine z_iconst ok dL_isTick_266 ?_
            refine z_iadd ok dL_isTick_267 ?_
            refine z_icmp_eq (tgt := 273) ok dL_isTick_268 (by decide) (by omega) (by omega) (fun c268 => ?_) (fun c => (by omega : False).elim)
            refine z_aload_n ok dL_isTick_273 rfl ?_
            refine z_iload ok dL_isTick_274 rfl ?_
            refine z_iale (f := fS) (v := pk N i 2) ok 4 rfl (rS _ (by omega) (by omega)) dL_isTick_276 (by omega) (by decide) ?_
            refine z_iconst ok dL_isTick_277 ?_
            refine z_icmp_ne (tgt := 297) ok dL_isTick_278 (by decide) (by omega) (by decide) (fun c278 => ?_) (fun c => (by omega : False).elim)
            refine z_aload_n ok dL_isTick_297 rfl ?_
            refine z_iload ok dL_isTick_298 rfl ?_
            refine z_iale (f := fS) (v := pk N i 2) ok 4 rfl (rS _ (by omega) (by omega)) dL_isTick_300 (by omega) (by decide) ?_
            refine z_if_ne (tgt := 381) ok dL_isTick_301 (by decide) (by omega) (fun c301 => ?_) (fun c => (by omega : False).elim)
            refine z_aload_n ok dL_isTick_381 rfl ?_
            refine z_iload ok dL_isTick_382 rfl ?_
            refine z_iale (f := fS) (v := pk N i 2) ok 4 rfl (rS _ (by omega) (by omega)) dL_isTick_384 (by omega) (by decide) ?_
            refine z_iconst ok dL_isTick_385 ?_
            refine z_icmp_ne (tgt := 629) ok dL_isTick_386 (by decide) (by omega) (by decide) (fun c => (by omega : False).elim) (fun c386 => ?_)
            refine z_iload ok dL_isTick_389 rfl ?_
            refine z_if_eq (tgt := 406) ok dL_isTick_391 (by decide) (by decide) (fun c391 => ?_) (fun c => absurd c (by decide))
            refine z_iload ok dL_isTick_406 rfl ?_
            refine z_aload_n ok dL_isTick_408 rfl ?_
            refine z_iload ok dL_isTick_409 rfl ?_
            refine z_iale (f := fB) (v := pk N i 3) ok 5 rfl (rB _ (by omega) (by omega)) dL_isTick_411 (by omega) (by decide) ?_
            refine z_icmp_eq (tgt := 429) ok dL_isTick_412 (by decide) (by omega) (by omega) (fun c => (by omega : False).elim) (fun c412 => ?_)
            refine z_aload_n ok dL_isTick_415 rfl ?_
            refine z_iload ok dL_isTick_416 rfl ?_
            refine z_aload_n ok dL_isTick_418 rfl ?_
            refine z_iload ok dL_isTick_419 rfl ?_
            refine z_iale (f := fB) (v := pk N i 3) ok 5 rfl (rB _ (by omega) (by omega)) dL_isTick_421 (by omega) (by decide) ?_
            refine l_apart (v := dist N (pk (pasN N) i 3) (pk N i 3)) ok h104I hw2 (by assumption) (by assumption) (dist_4 e4) qm_RL_18 dL_isTick_422 (by decide) ⟨by decide, by decide⟩ (Nat.le_of_ble_eq_true rfl) (fun h105 h105I => ?_)
            refine z_iconst ok dL_isTick_425 ?_
            refine z_icmp_eq (tgt := 431) ok dL_isTick_426 (by decide) (by omega) (by decide) (fun c426 => ?_) (fun c => (by omega : False).elim)
            refine z_iload ok dL_isTick_431 rfl ?_
            refine z_aload_n ok dL_isTick_433 rfl ?_
            refine z_iload ok dL_isTick_434 rfl ?_
            refine z_iconst ok dL_isTick_436 ?_
            refine o_ofPacket (v := pk (pasN N) i 1) ok h105I hw2 (by omega) (by decide) (v_pk (hq2) (by decide)) qm_RL_14 dL_isTick_437 (by decide) ⟨by decide, by decide⟩ (Nat.le_of_ble_eq_true rfl) (fun h106 h106I => ?_)
            refine z_icmp_ne (tgt := 447) ok dL_isTick_440 (by decide) (by omega) (by omega) (fun c440 => ?_) (fun c => (by omega : False).elim)
            refine z_iconst ok dL_isTick_447 ?_
            refine z_istore (lv' := [(14, .int (iI 0)), (13, .int (iI 0)), (12, .int (iI (pk (pasN N) i 4))), (11, .int (iI (pk (pasN N) i 3))), (10, .int (iI i)), (9, .int (iI (N 2))), (8, .int (iI (N 3))), (7, .ref qN), (6, .ref qF), (5, .ref qM), (4, .ref qW), (3, .ref qS), (2, .ref qB), (1, .int (iI (N 6))), (0, .ref (obX ad))]) ok dL_isTick_448 (by decide) rfl ?_
            refine z_aload ok dL_isTick_450 rfl ?_
            refine z_iload ok dL_isTick_452 rfl ?_
            refine z_iale (f := fF) (v := fsN N i) ok 1 rfl ((rF _ (by omega) (by omega)).trans hfv) dL_isTick_454 (by omega) (by decide) ?_
            refine z_if_ge (tgt := 462) ok dL_isTick_455 (by decide) (by omega) (fun c455 => ?_) (fun c => (by omega : False).elim)
            refine z_aload_n ok dL_isTick_462 rfl ?_
            refine z_aload_n ok dL_isTick_463 rfl ?_
            refine z_iload ok dL_isTick_464 rfl ?_
            refine z_iale (f := fB) (v := pk N i 3) ok 5 rfl (rB _ (by omega) (by omega)) dL_isTick_466 (by omega) (by decide) ?_
            refine z_aload ok dL_isTick_467 rfl ?_
            refine z_iload ok dL_isTick_469 rfl ?_
            refine z_iale (f := fF) (v := fsN N i) ok 1 rfl ((rF _ (by omega) (by omega)).trans hfv) dL_isTick_471 (by omega) (by decide) ?_
            refine l_beside (v := nb N (pk N i 3) (fsN N i)) ok h106I hw2 (by assumption) (by omega) (nb_45 e4 e5) qm_RL_27 dL_isTick_472 (by decide) ⟨by decide, by decide⟩ (Nat.le_of_ble_eq_true rfl) (fun h107 h107I => ?_)
            refine z_istore (lv' := [(15, .int (iI (nb N (pk N i 3) (fsN N i)))), (14, .int (iI 0)), (13, .int (iI 0)), (12, .int (iI (pk (pasN N) i 4))), (11, .int (iI (pk (pasN N) i 3))), (10, .int (iI i)), (9, .int (iI (N 2))), (8, .int (iI (N 3))), (7, .ref qN), (6, .ref qF), (5, .ref qM), (4, .ref qW), (3, .ref qS), (2, .ref qB), (1, .int (iI (N 6))), (0, .ref (obX ad))]) ok dL_isTick_475 (by decide) rfl ?_
            refine z_iload ok dL_isTick_477 rfl ?_
            refine z_if_ge (tgt := 490) ok dL_isTick_479 (by decide) (by omega) (fun c479 => ?_) (fun c => (by omega : False).elim)
            refine z_iload ok dL_isTick_490 rfl ?_
            refine z_aload_n ok dL_isTick_492 rfl ?_
            refine z_iload ok dL_isTick_493 rfl ?_
            refine z_iconst ok dL_isTick_495 ?_
            refine o_ofPacket (v := pk (pasN N) i 1) ok h107I hw2 (by omega) (by decide) (v_pk (hq2) (by decide)) qm_RL_14 dL_isTick_496 (by decide) ⟨by decide, by decide⟩ (Nat.le_of_ble_eq_true rfl) (fun h108 h108I => ?_)
            refine z_icmp_eq (tgt := 512) ok dL_isTick_499 (by decide) (by omega) (by omega) (fun c => (by omega : False).elim) (fun c499 => ?_)
            refine z_aload ok dL_isTick_502 rfl ?_
            refine z_iload ok dL_isTick_504 rfl ?_
            refine z_iale (f := fN) (v := insQ N i (nb N (pk N i 3) (fsN N i))) ok 0 rfl (rN _ (by omega) (by omega)) dL_isTick_506 (by omega) (by decide) ?_
            refine z_iload ok dL_isTick_507 rfl ?_
            refine z_icmp_ge (tgt := 521) ok dL_isTick_509 (by decide) (by omega) (by omega) (fun c => (by omega : False).elim) (fun c509 => ?_)
            refine z_iload ok dL_isTick_512 rfl ?_
            refine z_iload ok dL_isTick_514 rfl ?_
            refine z_icmp_eq (tgt := 521) ok dL_isTick_516 (by decide) (by omega) (by omega) (fun c516 => ?_) (fun c => (by omega : False).elim)
            refine z_iload ok dL_isTick_521 rfl ?_
            refine z_if_ne (tgt := 541) ok dL_isTick_523 (by decide) (by decide) (fun c => absurd c (by decide)) (fun c523 => ?_)
            refine z_iload ok dL_isTick_526 rfl ?_
            refine z_if_ne (tgt := 541) ok dL_isTick_528 (by decide) (by decide) (fun c => absurd c (by decide)) (fun c528 => ?_)
            refine z_aload ok dL_isTick_531 rfl ?_
            refine z_iload ok dL_isTick_533 rfl ?_
            refine z_iale (f := fN) (v := insQ N i (pk (pasN N) i 3)) ok 0 rfl (rN _ (by omega) (by omega)) dL_isTick_535 (by omega) (by decide) ?_
            refine z_iload ok dL_isTick_536 rfl ?_
            refine z_icmp_ge (tgt := 584) ok dL_isTick_538 (by decide) (by omega) (by omega) (fun c => (by omega : False).elim) (fun c538 => ?_)
            refine z_iload ok dL_isTick_541 rfl ?_
            refine z_if_ne (tgt := 566) ok dL_isTick_543 (by decide) (by decide) (fun c => absurd c (by decide)) (fun c543 => ?_)
            refine z_aload_n ok dL_isTick_546 rfl ?_
            refine z_iload ok dL_isTick_547 rfl ?_
            refine z_iconst ok dL_isTick_549 ?_
            refine o_ofPacket (v := pk (pasN N) i 2) ok h108I hw2 (by omega) (by decide) (v_pk (hq2) (by decide)) qm_RL_14 dL_isTick_550 (by decide) ⟨by decide, by decide⟩ (Nat.le_of_ble_eq_true rfl) (fun h109 h109I => ?_)
            refine z_iload ok dL_isTick_553 rfl ?_
            refine z_if_eq (tgt := 562) ok dL_isTick_555 (by decide) (by decide) (fun c555 => ?_) (fun c => absurd c (by decide))
            refine z_iconst ok dL_isTick_562 ?_
            refine z_icmp_ne (tgt := 584) ok dL_isTick_563 (by decide) (by omega) (by decide) (fun c => (by omega : False).elim) (fun c563 => ?_)
            refine z_iload ok dL_isTick_566 rfl ?_
            refine z_if_eq (tgt := 586) ok dL_isTick_568 (by decide) (by decide) (fun c568 => ?_) (fun c => absurd c (by decide))
            refine z_aload ok dL_isTick_586 rfl ?_
            refine z_aload_n ok dL_isTick_588 rfl ?_
            refine z_iload ok dL_isTick_589 rfl ?_
            refine z_iale (f := fB) (v := pk N i 3) ok 5 rfl (rB _ (by omega) (by omega)) dL_isTick_591 (by omega) (by decide) ?_
            refine z_dup2 ok dL_isTick_592 rfl rfl ?_
            refine z_iale (f := fN) (v := insQ N i (pk N i 3)) ok 0 rfl (rN _ (by omega) (by omega)) dL_isTick_593 (by omega) (by decide) ?_
            refine z_iload ok dL_isTick_594 rfl ?_
            refine z_if_eq (tgt := 603) ok dL_isTick_596 (by decide) (by decide) (fun c596 => ?_) (fun c => absurd c (by decide))
            refine z_iconst ok dL_isTick_603 ?_
            refine z_isub ok dL_isTick_604 ?_
            refine z_iast (f := fN) (v := (insQ N i (pk N i 3)) - 1) (ws' := [aW Z qN 25 (zu fN (pk N i 3) ((insQ N i (pk N i 3)) - 1)), aW Z qF 40 fF, aW Z qM 40 fM, aW Z qW 40 fW, aW Z qS 40 fS, aW Z qB 40 fB] ++ (obW Z ad (pasN N) h109 ++ ([] : va_W))) ok 0 rfl dL_isTick_605 (by omega) (by decide) rfl ?_
            refine z_aload ok dL_isTick_606 rfl ?_
            refine z_iload ok dL_isTick_608 rfl ?_
            refine z_dup2 ok dL_isTick_610 rfl rfl ?_
            refine z_iale (f := zu fN (pk N i 3) ((insQ N i (pk N i 3)) - 1)) (v := (zu fN (pk N i 3) ((insQ N i (pk N i 3)) - 1)) (pk (pasN N) i 3)) ok 0 rfl (rfl) dL_isTick_611 (by omega) (by decide) ?_
            refine z_iload ok dL_isTick_612 rfl ?_
            refine z_if_ne (tgt := 622) ok dL_isTick_614 (by decide) (by decide) (fun c => absurd c (by decide)) (fun c614 => ?_)
            refine z_iload ok dL_isTick_617 rfl ?_
            refine z_if_eq (tgt := 626) ok dL_isTick_619 (by decide) (by decide) (fun c619 => ?_) (fun c => absurd c (by decide))
            refine z_iconst ok dL_isTick_626 ?_
            refine z_iadd ok dL_isTick_627 ?_
            refine z_iast (f := zu fN (pk N i 3) ((insQ N i (pk N i 3)) - 1)) (v := ((zu fN (pk N i 3) ((insQ N i (pk N i 3)) - 1)) (pk (pasN N) i 3)) + 1) (ws' := [aW Z qN 25 (zu (zu fN (pk N i 3) ((insQ N i (pk N i 3)) - 1)) (pk (pasN N) i 3) (((zu fN (pk N i 3) ((insQ N i (pk N i 3)) - 1)) (pk (pasN N) i 3)) + 1)), aW Z qF 40 fF, aW Z qM 40 fM, aW Z qW 40 fW, aW Z qS 40 fS, aW Z qB 40 fB] ++ (obW Z ad (pasN N) h109 ++ ([] : va_W))) ok 0 rfl dL_isTick_628 (by omega) (by decide) rfl ?_
            refine z_iinc (lv' := [(10, .int (iI (i + 1))), (15, .int (iI (nb N (pk N i 3) (fsN N i)))), (14, .int (iI 0)), (13, .int (iI 0)), (12, .int (iI (pk (pasN N) i 4))), (11, .int (iI (pk (pasN N) i 3))), (9, .int (iI (N 2))), (8, .int (iI (N 3))), (7, .ref qN), (6, .ref qF), (5, .ref qM), (4, .ref qW), (3, .ref qS), (2, .ref qB), (1, .int (iI (N 6))), (0, .ref (obX ad))]) ok dL_isTick_629 5 rfl (by decide) rfl ?_
            refine z_goto (tgt := 170) ok dL_isTick_632 (by decide) ?_
            have hfin : ∀ b : Int, 0 ≤ b → b < 25 → (zu (zu fN (pk N i 3) ((insQ N i (pk N i 3)) - 1)) (pk (pasN N) i 3) (((zu fN (pk N i 3) ((insQ N i (pk N i 3)) - 1)) (pk (pasN N) i 3)) + 1)) b = insQ N (i + 1) b := by
              intro b b0 b1
              by_cases e2 : b = pk (pasN N) i 3
              · have hyx : pk (pasN N) i 3 ≠ pk N i 3 := by omega
                have a2 := kI (pk (pasN N) i 3)
                rw [if_neg hyx, if_pos ⟨z3, c.1⟩] at a2
                rw [e2, zu_s, zu_n hyx, rN (pk (pasN N) i 3) (by omega) (by omega)]; omega
              · rw [zu_n e2]
                by_cases e1 : b = pk N i 3
                · have a2 := kI (pk N i 3)
                  rw [if_pos rfl, if_neg (fun z => hnn.1 z.1.symm)] at a2
                  rw [e1, zu_s]; omega
                · have a2 := kI b
                  rw [if_neg e1, if_neg (fun z => e2 (z.1.trans z3.symm))] at a2
                  rw [zu_n e1, rN b b0 b1]; omega
            refine z_lsub ok (lv' := [(10, .int (iI (i + 1))), (9, .int (iI (N 2))), (8, .int (iI (N 3))), (7, .ref qN), (6, .ref qF), (5, .ref qM), (4, .ref qW), (3, .ref qS), (2, .ref qB), (1, .int (iI (N 6))), (0, .ref (obX ad))]) [0, 6, 7, 8, 9, 10, 11, 12, 13, 14, 15] rfl ?_
            exact ih (i + 1) fB fS fW fM fF (zu (zu fN (pk N i 3) ((insQ N i (pk N i 3)) - 1)) (pk (pasN N) i 3) (((zu fN (pk N i 3) ((insQ N i (pk N i 3)) - 1)) (pk (pasN N) i 3)) + 1)) h109 (by omega) (by omega) rB rS rW rM rF (hfin) h109I (by omega)
          · -- y3
            rw [if_pos c.2.2] at z2 z8
            refine z_aload_n ok dL_isTick_176 rfl ?_
            refine z_iload ok dL_isTick_177 rfl ?_
            refine z_iconst ok dL_isTick_179 ?_
            refine o_ofPacket (v := pk (pasN N) i 3) ok gI hw2 (by omega) (by decide) (v_pk (hq2) (by decide)) qm_RL_14 dL_isTick_180 (by decide) ⟨by decide, by decide⟩ (Nat.le_of_ble_eq_true rfl) (fun h101 h101I => ?_)
            refine z_istore (lv' := [(11, .int (iI (pk (pasN N) i 3))), (10, .int (iI i)), (9, .int (iI (N 2))), (8, .int (iI (N 3))), (7, .ref qN), (6, .ref qF), (5, .ref qM), (4, .ref qW), (3, .ref qS), (2, .ref qB), (1, .int (iI (N 6))), (0, .ref (obX ad))]) ok dL_isTick_183 (by decide) rfl ?_
            refine z_aload_n ok dL_isTick_185 rfl ?_
            refine z_iload ok dL_isTick_186 rfl ?_
            refine z_iconst ok dL_isTick_188 ?_
            refine o_ofPacket (v := pk (pasN N) i 4) ok h101I hw2 (by omega) (by decide) (v_pk (hq2) (by decide)) qm_RL_14 dL_isTick_189 (by decide) ⟨by decide, by decide⟩ (Nat.le_of_ble_eq_true rfl) (fun h102 h102I => ?_)
            refine z_istore (lv' := [(12, .int (iI (pk (pasN N) i 4))), (11, .int (iI (pk (pasN N) i 3))), (10, .int (iI i)), (9, .int (iI (N 2))), (8, .int (iI (N 3))), (7, .ref qN), (6, .ref qF), (5, .ref qM), (4, .ref qW), (3, .ref qS), (2, .ref qB), (1, .int (iI (N 6))), (0, .ref (obX ad))]) ok dL_isTick_192 (by decide) rfl ?_
            refine z_aload_n ok dL_isTick_194 rfl ?_
            refine z_iload ok dL_isTick_195 rfl ?_
            refine z_bipush ok dL_isTick_197 (by decide) ?_
            refine o_ofPacket (v := pk (pasN N) i 6) ok h102I hw2 (by omega) (by decide) (v_pk (hq2) (by decide)) qm_RL_14 dL_isTick_199 (by decide) ⟨by decide, by decide⟩ (Nat.le_of_ble_eq_true rfl) (fun h103 h103I => ?_)
            refine z_aload ok dL_isTick_202 rfl ?_
            refine z_iload ok dL_isTick_204 rfl ?_
            refine z_iale (f := fW) (v := pk N i 6) ok 3 rfl (rW _ (by omega) (by omega)) dL_isTick_206 (by omega) (by decide) ?_
            refine z_iconst ok dL_isTick_207 ?_
            refine z_iadd ok dL_isTick_208 ?_
            refine z_icmp_ne (tgt := 216) ok dL_isTick_209 (by decide) (by omega) (by omega) (fun c209 => ?_) (fun c => (by omega : False).elim)
            refine z_iconst ok dL_isTick_216 ?_
            refine z_istore (lv' := [(13, .int (iI 0)), (12, .int (iI (pk (pasN N) i 4))), (11, .int (iI (pk (pasN N) i 3))), (10, .int (iI i)), (9, .int (iI (N 2))), (8, .int (iI (N 3))), (7, .ref qN), (6, .ref qF), (5, .ref qM), (4, .ref qW), (3, .ref qS), (2, .ref qB), (1, .int (iI (N 6))), (0, .ref (obX ad))]) ok dL_isTick_217 (by decide) rfl ?_
            refine z_aload_n ok dL_isTick_219 rfl ?_
            refine z_iload ok dL_isTick_220 rfl ?_
            refine z_bipush ok dL_isTick_222 (by decide) ?_
            refine o_ofPacket (v := pk (pasN N) i 6) ok h103I hw2 (by omega) (by decide) (v_pk (hq2) (by decide)) qm_RL_14 dL_isTick_224 (by decide) ⟨by decide, by decide⟩ (Nat.le_of_ble_eq_true rfl) (fun h104 h104I => ?_)
            refine z_aload ok dL_isTick_227 rfl ?_
            refine z_iload ok dL_isTick_229 rfl ?_
            refine z_iale (f := fW) (v := pk N i 6) ok 3 rfl (rW _ (by omega) (by omega)) dL_isTick_231 (by omega) (by decide) ?_
            refine z_iload ok dL_isTick_232 rfl ?_
            refine z_if_eq (tgt := 241) ok dL_isTick_234 (by decide) (by decide) (fun c234 => ?_) (fun c => absurd c (by decide))
            refine z_iconst ok dL_isTick_241 ?_
            refine z_iadd ok dL_isTick_242 ?_
            refine z_icmp_ne (tgt := 271) ok dL_isTick_243 (by decide) (by omega) (by omega) (fun c => (by omega : False).elim) (fun c243 => ?_)
            refine z_iload ok dL_isTick_246 rfl ?_
            refine z_aload ok dL_isTick_248 rfl ?_
            refine z_iload ok dL_isTick_250 rfl ?_
            refine z_iale (f := fM) (v := pk N i 4) ok 2 rfl (rM _ (by omega) (by omega)) dL_isTick_252 (by omega) (by decide) ?_
            refine z_iload ok dL_isTick_253 rfl ?_
            refine z_aload_n ok dL_isTick_255 rfl ?_
            refine z_iload ok dL_isTick_256 rfl ?_
            refine z_iale (f := fB) (v := pk N i 3) ok 5 rfl (rB _ (by omega) (by omega)) dL_isTick_258 (by omega) (by decide) ?_
            refine z_icmp_ne (tgt := 266) ok dL_isTick_259 (by decide) (by omega) (by omega) (fun c259 => ?_) (fun c => (by omega : False).elim)
            refine z_iconst ok dL_isTick_266 ?_
            refine z_iadd ok dL_isTick_267 ?_
            refine z_icmp_eq (tgt := 273) ok dL_isTick_268 (by decide) (by omega) (by omega) (fun c268 => ?_) (fun c => (by omega : False).elim)
            refine z_aload_n ok dL_isTick_273 rfl ?_
            refine z_iload ok dL_isTick_274 rfl ?_
            refine z_iale (f := fS) (v := pk N i 2) ok 4 rfl (rS _ (by omega) (by omega)) dL_isTick_276 (by omega) (by decide) ?_
            refine z_iconst ok dL_isTick_277 ?_
            refine z_icmp_ne (tgt := 297) ok dL_isTick_278 (by decide) (by omega) (by decide) (fun c278 => ?_) (fun c => (by omega : False).elim)
            refine z_aload_n ok dL_isTick_297 rfl ?_
            refine z_iload ok dL_isTick_298 rfl ?_
            refine z_iale (f := fS) (v := pk N i 2) ok 4 rfl (rS _ (by omega) (by omega)) dL_isTick_300 (by omega) (by decide) ?_
            refine z_if_ne (tgt := 381) ok dL_isTick_301 (by decide) (by omega) (fun c301 => ?_) (fun c => (by omega : False).elim)
            refine z_aload_n ok dL_isTick_381 rfl ?_
            refine z_iload ok dL_isTick_382 rfl ?_
            refine z_iale (f := fS) (v := pk N i 2) ok 4 rfl (rS _ (by omega) (by omega)) dL_isTick_384 (by omega) (by decide) ?_
            refine z_iconst ok dL_isTick_385 ?_
            refine z_icmp_ne (tgt := 629) ok dL_isTick_386 (by decide) (by omega) (by decide) (fun c => (by omega : False).elim) (fun c386 => ?_)
            refine z_iload ok dL_isTick_389 rfl ?_
            refine z_if_eq (tgt := 406) ok dL_isTick_391 (by decide) (by decide) (fun c391 => ?_) (fun c => absurd c (by decide))
            refine z_iload ok dL_isTick_406 rfl ?_
            refine z_aload_n ok dL_isTick_408 rfl ?_
            refine z_iload ok dL_isTick_409 rfl ?_
            refine z_iale (f := fB) (v := pk N i 3) ok 5 rfl (rB _ (by omega) (by omega)) dL_isTick_411 (by omega) (by decide) ?_
            refine z_icmp_eq (tgt := 429) ok dL_isTick_412 (by decide) (by omega) (by omega) (fun c => (by omega : False).elim) (fun c412 => ?_)
            refine z_aload_n ok dL_isTick_415 rfl ?_
            refine z_iload ok dL_isTick_416 rfl ?_
            refine z_aload_n ok dL_isTick_418 rfl ?_
            refine z_iload ok dL_isTick_419 rfl ?_
            refine z_iale (f := fB) (v := pk N i 3) ok 5 rfl (rB _ (by omega) (by omega)) dL_isTick_421 (by omega) (by decide) ?_
            refine l_apart (v := dist N (pk (pasN N) i 3) (pk N i 3)) ok h104I hw2 (by assumption) (by assumption) (dist_4 e4) qm_RL_18 dL_isTick_422 (by decide) ⟨by decide, by decide⟩ (Nat.le_of_ble_eq_true rfl) (fun h105 h105I => ?_)
            refine z_iconst ok dL_isTick_425 ?_
            refine z_icmp_eq (tgt := 431) ok dL_isTick_426 (by decide) (by omega) (by decide) (fun c426 => ?_) (fun c => (by omega : False).elim)
            refine z_iload ok dL_isTick_431 rfl ?_
            refine z_aload_n ok dL_isTick_433 rfl ?_
            refine z_iload ok dL_isTick_434 rfl ?_
            refine z_iconst ok dL_isTick_436 ?_
            refine o_ofPacket (v := pk (pasN N) i 1) ok h105I hw2 (by omega) (by decide) (v_pk (hq2) (by decide)) qm_RL_14 dL_isTick_437 (by decide) ⟨by decide, by decide⟩ (Nat.le_of_ble_eq_true rfl) (fun h106 h106I => ?_)
            refine z_icmp_ne (tgt := 447) ok dL_isTick_440 (by decide) (by omega) (by omega) (fun c => (by omega : False).elim) (fun c440 => ?_)
            refine z_iconst ok dL_isTick_443 ?_
            refine z_goto (tgt := 448) ok dL_isTick_444 (by decide) ?_
            refine z_istore (lv' := [(14, .int (iI 1)), (13, .int (iI 0)), (12, .int (iI (pk (pasN N) i 4))), (11, .int (iI (pk (pasN N) i 3))), (10, .int (iI i)), (9, .int (iI (N 2))), (8, .int (iI (N 3))), (7, .ref qN), (6, .ref qF), (5, .ref qM), (4, .ref qW), (3, .ref qS), (2, .ref qB), (1, .int (iI (N 6))), (0, .ref (obX ad))]) ok dL_isTick_448 (by decide) rfl ?_
            refine z_aload ok dL_isTick_450 rfl ?_
            refine z_iload ok dL_isTick_452 rfl ?_
            refine z_iale (f := fF) (v := fsN N i) ok 1 rfl ((rF _ (by omega) (by omega)).trans hfv) dL_isTick_454 (by omega) (by decide) ?_
            refine z_if_ge (tgt := 462) ok dL_isTick_455 (by decide) (by omega) (fun c455 => ?_) (fun c => (by omega : False).elim)
            refine z_aload_n ok dL_isTick_462 rfl ?_
            refine z_aload_n ok dL_isTick_463 rfl ?_
            refine z_iload ok dL_isTick_464 rfl ?_
            refine z_iale (f := fB) (v := pk N i 3) ok 5 rfl (rB _ (by omega) (by omega)) dL_isTick_466 (by omega) (by decide) ?_
            refine z_aload ok dL_isTick_467 rfl ?_
            refine z_iload ok dL_isTick_469 rfl ?_
            refine z_iale (f := fF) (v := fsN N i) ok 1 rfl ((rF _ (by omega) (by omega)).trans hfv) dL_isTick_471 (by omega) (by decide) ?_
            refine l_beside (v := nb N (pk N i 3) (fsN N i)) ok h106I hw2 (by assumption) (by omega) (nb_45 e4 e5) qm_RL_27 dL_isTick_472 (by decide) ⟨by decide, by decide⟩ (Nat.le_of_ble_eq_true rfl) (fun h107 h107I => ?_)
            refine z_istore (lv' := [(15, .int (iI (nb N (pk N i 3) (fsN N i)))), (14, .int (iI 1)), (13, .int (iI 0)), (12, .int (iI (pk (pasN N) i 4))), (11, .int (iI (pk (pasN N) i 3))), (10, .int (iI i)), (9, .int (iI (N 2))), (8, .int (iI (N 3))), (7, .ref qN), (6, .ref qF), (5, .ref qM), (4, .ref qW), (3, .ref qS), (2, .ref qB), (1, .int (iI (N 6))), (0, .ref (obX ad))]) ok dL_isTick_475 (by decide) rfl ?_
            refine z_iload ok dL_isTick_477 rfl ?_
            refine z_if_ge (tgt := 490) ok dL_isTick_479 (by decide) (by omega) (fun c479 => ?_) (fun c => (by omega : False).elim)
            refine z_iload ok dL_isTick_490 rfl ?_
            refine z_aload_n ok dL_isTick_492 rfl ?_
            refine z_iload ok dL_isTick_493 rfl ?_
            refine z_iconst ok dL_isTick_495 ?_
            refine o_ofPacket (v := pk (pasN N) i 1) ok h107I hw2 (by omega) (by decide) (v_pk (hq2) (by decide)) qm_RL_14 dL_isTick_496 (by decide) ⟨by decide, by decide⟩ (Nat.le_of_ble_eq_true rfl) (fun h108 h108I => ?_)
            refine z_icmp_eq (tgt := 512) ok dL_isTick_499 (by decide) (by omega) (by omega) (fun c => (by omega : False).elim) (fun c499 => ?_)
            refine z_aload ok dL_isTick_502 rfl ?_
            refine z_iload ok dL_isTick_504 rfl ?_
            refine z_iale (f := fN) (v := insQ N i (nb N (pk N i 3) (fsN N i))) ok 0 rfl (rN _ (by omega) (by omega)) dL_isTick_506 (by omega) (by decide) ?_
            refine z_iload ok dL_isTick_507 rfl ?_
            refine z_icmp_ge (tgt := 521) ok dL_isTick_509 (by decide) (by omega) (by omega) (fun c509 => ?_) (fun c => (by omega : False).elim)
            refine z_iload ok dL_isTick_521 rfl ?_
            refine z_if_ne (tgt := 541) ok dL_isTick_523 (by decide) (by decide) (fun c => absurd c (by decide)) (fun c523 => ?_)
            refine z_iload ok dL_isTick_526 rfl ?_
            refine z_if_ne (tgt := 541) ok dL_isTick_528 (by decide) (by decide) (fun c528 => ?_) (fun c => absurd c (by decide))
            refine z_iload ok dL_isTick_541 rfl ?_
            refine z_if_ne (tgt := 566) ok dL_isTick_543 (by decide) (by decide) (fun c => absurd c (by decide)) (fun c543 => ?_)
            refine z_aload_n ok dL_isTick_546 rfl ?_
            refine z_iload ok dL_isTick_547 rfl ?_
            refine z_iconst ok dL_isTick_549 ?_
            refine o_ofPacket (v := pk (pasN N) i 2) ok h108I hw2 (by omega) (by decide) (v_pk (hq2) (by decide)) qm_RL_14 dL_isTick_550 (by decide) ⟨by decide, by decide⟩ (Nat.le_of_ble_eq_true rfl) (fun h109 h109I => ?_)
            refine z_iload ok dL_isTick_553 rfl ?_
            refine z_if_eq (tgt := 562) ok dL_isTick_555 (by decide) (by decide) (fun c => absurd c (by decide)) (fun c555 => ?_)
            refine z_iconst ok dL_isTick_558 ?_
            refine z_goto (tgt := 563) ok dL_isTick_559 (by decide) ?_
            refine z_icmp_ne (tgt := 584) ok dL_isTick_563 (by decide) (by omega) (by decide) (fun c => (by omega : False).elim) (fun c563 => ?_)
            refine z_iload ok dL_isTick_566 rfl ?_
            refine z_if_eq (tgt := 586) ok dL_isTick_568 (by decide) (by decide) (fun c => absurd c (by decide)) (fun c568 => ?_)
            refine z_aload_n ok dL_isTick_571 rfl ?_
            refine z_iload ok dL_isTick_572 rfl ?_
            refine z_bipush ok dL_isTick_574 (by decide) ?_
            refine o_ofPacket (v := pk (pasN N) i 8) ok h109I hw2 (by omega) (by decide) (v_pk (hq2) (by decide)) qm_RL_14 dL_isTick_576 (by decide) ⟨by decide, by decide⟩ (Nat.le_of_ble_eq_true rfl) (fun h110 h110I => ?_)
            refine z_iload ok dL_isTick_579 rfl ?_
            refine z_icmp_eq (tgt := 586) ok dL_isTick_581 (by decide) (by omega) (by omega) (fun c581 => ?_) (fun c => (by omega : False).elim)
            refine z_aload ok dL_isTick_586 rfl ?_
            refine z_aload_n ok dL_isTick_588 rfl ?_
            refine z_iload ok dL_isTick_589 rfl ?_
            refine z_iale (f := fB) (v := pk N i 3) ok 5 rfl (rB _ (by omega) (by omega)) dL_isTick_591 (by omega) (by decide) ?_
            refine z_dup2 ok dL_isTick_592 rfl rfl ?_
            refine z_iale (f := fN) (v := insQ N i (pk N i 3)) ok 0 rfl (rN _ (by omega) (by omega)) dL_isTick_593 (by omega) (by decide) ?_
            refine z_iload ok dL_isTick_594 rfl ?_
            refine z_if_eq (tgt := 603) ok dL_isTick_596 (by decide) (by decide) (fun c596 => ?_) (fun c => absurd c (by decide))
            refine z_iconst ok dL_isTick_603 ?_
            refine z_isub ok dL_isTick_604 ?_
            refine z_iast (f := fN) (v := (insQ N i (pk N i 3)) - 1) (ws' := [aW Z qN 25 (zu fN (pk N i 3) ((insQ N i (pk N i 3)) - 1)), aW Z qF 40 fF, aW Z qM 40 fM, aW Z qW 40 fW, aW Z qS 40 fS, aW Z qB 40 fB] ++ (obW Z ad (pasN N) h110 ++ ([] : va_W))) ok 0 rfl dL_isTick_605 (by omega) (by decide) rfl ?_
            refine z_aload ok dL_isTick_606 rfl ?_
            refine z_iload ok dL_isTick_608 rfl ?_
            refine z_dup2 ok dL_isTick_610 rfl rfl ?_
            refine z_iale (f := zu fN (pk N i 3) ((insQ N i (pk N i 3)) - 1)) (v := (zu fN (pk N i 3) ((insQ N i (pk N i 3)) - 1)) (pk (pasN N) i 3)) ok 0 rfl (rfl) dL_isTick_611 (by omega) (by decide) ?_
            refine z_iload ok dL_isTick_612 rfl ?_
            refine z_if_ne (tgt := 622) ok dL_isTick_614 (by decide) (by decide) (fun c => absurd c (by decide)) (fun c614 => ?_)
            refine z_iload ok dL_isTick_617 rfl ?_
            refine z_if_eq (tgt := 626) ok dL_isTick_619 (by decide) (by decide) (fun c => absurd c (by decide)) (fun c619 => ?_)
            refine z_iconst ok dL_isTick_622 ?_
            refine z_goto (tgt := 627) ok dL_isTick_623 (by decide) ?_
            refine z_iadd ok dL_isTick_627 ?_
            refine z_iast (f := zu fN (pk N i 3) ((insQ N i (pk N i 3)) - 1)) (v := ((zu fN (pk N i 3) ((insQ N i (pk N i 3)) - 1)) (pk (pasN N) i 3)) + 0) (ws' := [aW Z qN 25 (zu (zu fN (pk N i 3) ((insQ N i (pk N i 3)) - 1)) (pk (pasN N) i 3) (((zu fN (pk N i 3) ((insQ N i (pk N i 3)) - 1)) (pk (pasN N) i 3)) + 0)), aW Z qF 40 fF, aW Z qM 40 fM, aW Z qW 40 fW, aW Z qS 40 fS, aW Z qB 40 fB] ++ (obW Z ad (pasN N) h110 ++ ([] : va_W))) ok 0 rfl dL_isTick_628 (by omega) (by decide) rfl ?_
            refine z_iinc (lv' := [(10, .int (iI (i + 1))), (15, .int (iI (nb N (pk N i 3) (fsN N i)))), (14, .int (iI 1)), (13, .int (iI 0)), (12, .int (iI (pk (pasN N) i 4))), (11, .int (iI (pk (pasN N) i 3))), (9, .int (iI (N 2))), (8, .int (iI (N 3))), (7, .ref qN), (6, .ref qF), (5, .ref qM), (4, .ref qW), (3, .ref qS), (2, .ref qB), (1, .int (iI (N 6))), (0, .ref (obX ad))]) ok dL_isTick_629 5 rfl (by decide) rfl ?_
            refine z_goto (tgt := 170) ok dL_isTick_632 (by decide) ?_
            have hfin : ∀ b : Int, 0 ≤ b → b < 25 → (zu (zu fN (pk N i 3) ((insQ N i (pk N i 3)) - 1)) (pk (pasN N) i 3) (((zu fN (pk N i 3) ((insQ N i (pk N i 3)) - 1)) (pk (pasN N) i 3)) + 0)) b = insQ N (i + 1) b := by
              intro b b0 b1
              by_cases e2 : b = pk (pasN N) i 3
              · have hyx : pk (pasN N) i 3 ≠ pk N i 3 := by omega
                have a2 := kI (pk (pasN N) i 3)
                rw [if_neg hyx, if_neg (fun z => z.2 c.2.2)] at a2
                rw [e2, zu_s, zu_n hyx, rN (pk (pasN N) i 3) (by omega) (by omega)]; omega
              · rw [zu_n e2]
                by_cases e1 : b = pk N i 3
                · have a2 := kI (pk N i 3)
                  rw [if_pos rfl, if_neg (fun z => hnn.1 z.1.symm)] at a2
                  rw [e1, zu_s]; omega
                · have a2 := kI b
                  rw [if_neg e1, if_neg (fun z => e2 (z.1.trans z3.symm))] at a2
                  rw [zu_n e1, rN b b0 b1]; omega
            refine z_lsub ok (lv' := [(10, .int (iI (i + 1))), (9, .int (iI (N 2))), (8, .int (iI (N 3))), (7, .ref qN), (6, .ref qF), (5, .ref qM), (4, .ref qW), (3, .ref qS), (2, .ref qB), (1, .int (iI (N 6))), (0, .ref (obX ad))]) [0, 6, 7, 8, 9, 10, 11, 12, 13, 14, 15] rfl ?_
            exact ih (i + 1) fB fS fW fM fF (zu (zu fN (pk N i 3) ((insQ N i (pk N i 3)) - 1)) (pk (pasN N) i 3) (((zu fN (pk N i 3) ((insQ N i (pk N i 3)) - 1)) (pk (pasN N) i 3)) + 0)) h110 (by omega) (by omega) rB rS rW rM rF (hfin) h110I (by omega)
          · -- y4
            rw [if_neg c.2.2] at z2 z8
            refine z_aload_n ok dL_isTick_176 rfl ?_
            refine z_iload ok dL_isTick_177 rfl ?_
            refine z_iconst ok dL_isTick_179 ?_
            refine o_ofPacket (v := pk (pasN N) i 3) ok gI hw2 (by omega) (by decide) (v_pk (hq2) (by decide)) qm_RL_14 dL_isTick_180 (by decide) ⟨by decide, by decide⟩ (Nat.le_of_ble_eq_true rfl) (fun h101 h101I => ?_)
            refine z_istore (lv' := [(11, .int (iI (pk (pasN N) i 3))), (10, .int (iI i)), (9, .int (iI (N 2))), (8, .int (iI (N 3))), (7, .ref qN), (6, .ref qF), (5, .ref qM), (4, .ref qW), (3, .ref qS), (2, .ref qB), (1, .int (iI (N 6))), (0, .ref (obX ad))]) ok dL_isTick_183 (by decide) rfl ?_
            refine z_aload_n ok dL_isTick_185 rfl ?_
            refine z_iload ok dL_isTick_186 rfl ?_
            refine z_iconst ok dL_isTick_188 ?_
            refine o_ofPacket (v := pk (pasN N) i 4) ok h101I hw2 (by omega) (by decide) (v_pk (hq2) (by decide)) qm_RL_14 dL_isTick_189 (by decide) ⟨by decide, by decide⟩ (Nat.le_of_ble_eq_true rfl) (fun h102 h102I => ?_)
            refine z_istore (lv' := [(12, .int (iI (pk (pasN N) i 4))), (11, .int (iI (pk (pasN N) i 3))), (10, .int (iI i)), (9, .int (iI (N 2))), (8, .int (iI (N 3))), (7, .ref qN), (6, .ref qF), (5, .ref qM), (4, .ref qW), (3, .ref qS), (2, .ref qB), (1, .int (iI (N 6))), (0, .ref (obX ad))]) ok dL_isTick_192 (by decide) rfl ?_
            refine z_aload_n ok dL_isTick_194 rfl ?_
            refine z_iload ok dL_isTick_195 rfl ?_
            refine z_bipush ok dL_isTick_197 (by decide) ?_
            refine o_ofPacket (v := pk (pasN N) i 6) ok h102I hw2 (by omega) (by decide) (v_pk (hq2) (by decide)) qm_RL_14 dL_isTick_199 (by decide) ⟨by decide, by decide⟩ (Nat.le_of_ble_eq_true rfl) (fun h103 h103I => ?_)
            refine z_aload ok dL_isTick_202 rfl ?_
            refine z_iload ok dL_isTick_204 rfl ?_
            refine z_iale (f := fW) (v := pk N i 6) ok 3 rfl (rW _ (by omega) (by omega)) dL_isTick_206 (by omega) (by decide) ?_
            refine z_iconst ok dL_isTick_207 ?_
            refine z_iadd ok dL_isTick_208 ?_
            refine z_icmp_ne (tgt := 216) ok dL_isTick_209 (by decide) (by omega) (by omega) (fun c209 => ?_) (fun c => (by omega : False).elim)
            refine z_iconst ok dL_isTick_216 ?_
            refine z_istore (lv' := [(13, .int (iI 0)), (12, .int (iI (pk (pasN N) i 4))), (11, .int (iI (pk (pasN N) i 3))), (10, .int (iI i)), (9, .int (iI (N 2))), (8, .int (iI (N 3))), (7, .ref qN), (6, .ref qF), (5, .ref qM), (4, .ref qW), (3, .ref qS), (2, .ref qB), (1, .int (iI (N 6))), (0, .ref (obX ad))]) ok dL_isTick_217 (by decide) rfl ?_
            refine z_aload_n ok dL_isTick_219 rfl ?_
            refine z_iload ok dL_isTick_220 rfl ?_
            refine z_bipush ok dL_isTick_222 (by decide) ?_
            refine o_ofPacket (v := pk (pasN N) i 6) ok h103I hw2 (by omega) (by decide) (v_pk (hq2) (by decide)) qm_RL_14 dL_isTick_224 (by decide) ⟨by decide, by decide⟩ (Nat.le_of_ble_eq_true rfl) (fun h104 h104I => ?_)
            refine z_aload ok dL_isTick_227 rfl ?_
            refine z_iload ok dL_isTick_229 rfl ?_
            refine z_iale (f := fW) (v := pk N i 6) ok 3 rfl (rW _ (by omega) (by omega)) dL_isTick_231 (by omega) (by decide) ?_
            refine z_iload ok dL_isTick_232 rfl ?_
            refine z_if_eq (tgt := 241) ok dL_isTick_234 (by decide) (by decide) (fun c234 => ?_) (fun c => absurd c (by decide))
            refine z_iconst ok dL_isTick_241 ?_
            refine z_iadd ok dL_isTick_242 ?_
            refine z_icmp_ne (tgt := 271) ok dL_isTick_243 (by decide) (by omega) (by omega) (fun c => (by omega : False).elim) (fun c243 => ?_)
            refine z_iload ok dL_isTick_246 rfl ?_
            refine z_aload ok dL_isTick_248 rfl ?_
            refine z_iload ok dL_isTick_250 rfl ?_
            refine z_iale (f := fM) (v := pk N i 4) ok 2 rfl (rM _ (by omega) (by omega)) dL_isTick_252 (by omega) (by decide) ?_
            refine z_iload ok dL_isTick_253 rfl ?_
            refine z_aload_n ok dL_isTick_255 rfl ?_
            refine z_iload ok dL_isTick_256 rfl ?_
            refine z_iale (f := fB) (v := pk N i 3) ok 5 rfl (rB _ (by omega) (by omega)) dL_isTick_258 (by omega) (by decide) ?_
            refine z_icmp_ne (tgt := 266) ok dL_isTick_259 (by decide) (by omega) (by omega) (fun c259 => ?_) (fun c => (by omega : False).elim)
            refine z_iconst ok dL_isTick_266 ?_
            refine z_iadd ok dL_isTick_267 ?_
            refine z_icmp_eq (tgt := 273) ok dL_isTick_268 (by decide) (by omega) (by omega) (fun c268 => ?_) (fun c => (by omega : False).elim)
            refine z_aload_n ok dL_isTick_273 rfl ?_
            refine z_iload ok dL_isTick_274 rfl ?_
            refine z_iale (f := fS) (v := pk N i 2) ok 4 rfl (rS _ (by omega) (by omega)) dL_isTick_276 (by omega) (by decide) ?_
            refine z_iconst ok dL_isTick_277 ?_
            refine z_icmp_ne (tgt := 297) ok dL_isTick_278 (by decide) (by omega) (by decide) (fun c278 => ?_) (fun c => (by omega : False).elim)
            refine z_aload_n ok dL_isTick_297 rfl ?_
            refine z_iload ok dL_isTick_298 rfl ?_
            refine z_iale (f := fS) (v := pk N i 2) ok 4 rfl (rS _ (by omega) (by omega)) dL_isTick_300 (by omega) (by decide) ?_
            refine z_if_ne (tgt := 381) ok dL_isTick_301 (by decide) (by omega) (fun c301 => ?_) (fun c => (by omega : False).elim)
            refine z_aload_n ok dL_isTick_381 rfl ?_
            refine z_iload ok dL_isTick_382 rfl ?_
            refine z_iale (f := fS) (v := pk N i 2) ok 4 rfl (rS _ (by omega) (by omega)) dL_isTick_384 (by omega) (by decide) ?_
            refine z_iconst ok dL_isTick_385 ?_
            refine z_icmp_ne (tgt := 629) ok dL_isTick_386 (by decide) (by omega) (by decide) (fun c => (by omega : False).elim) (fun c386 => ?_)
            refine z_iload ok dL_isTick_389 rfl ?_
            refine z_if_eq (tgt := 406) ok dL_isTick_391 (by decide) (by decide) (fun c391 => ?_) (fun c => absurd c (by decide))
            refine z_iload ok dL_isTick_406 rfl ?_
            refine z_aload_n ok dL_isTick_408 rfl ?_
            refine z_iload ok dL_isTick_409 rfl ?_
            refine z_iale (f := fB) (v := pk N i 3) ok 5 rfl (rB _ (by omega) (by omega)) dL_isTick_411 (by omega) (by decide) ?_
            refine z_icmp_eq (tgt := 429) ok dL_isTick_412 (by decide) (by omega) (by omega) (fun c => (by omega : False).elim) (fun c412 => ?_)
            refine z_aload_n ok dL_isTick_415 rfl ?_
            refine z_iload ok dL_isTick_416 rfl ?_
            refine z_aload_n ok dL_isTick_418 rfl ?_
            refine z_iload ok dL_isTick_419 rfl ?_
            refine z_iale (f := fB) (v := pk N i 3) ok 5 rfl (rB _ (by omega) (by omega)) dL_isTick_421 (by omega) (by decide) ?_
            refine l_apart (v := dist N (pk (pasN N) i 3) (pk N i 3)) ok h104I hw2 (by assumption) (by assumption) (dist_4 e4) qm_RL_18 dL_isTick_422 (by decide) ⟨by decide, by decide⟩ (Nat.le_of_ble_eq_true rfl) (fun h105 h105I => ?_)
            refine z_iconst ok dL_isTick_425 ?_
            refine z_icmp_eq (tgt := 431) ok dL_isTick_426 (by decide) (by omega) (by decide) (fun c426 => ?_) (fun c => (by omega : False).elim)
            refine z_iload ok dL_isTick_431 rfl ?_
            refine z_aload_n ok dL_isTick_433 rfl ?_
            refine z_iload ok dL_isTick_434 rfl ?_
            refine z_iconst ok dL_isTick_436 ?_
            refine o_ofPacket (v := pk (pasN N) i 1) ok h105I hw2 (by omega) (by decide) (v_pk (hq2) (by decide)) qm_RL_14 dL_isTick_437 (by decide) ⟨by decide, by decide⟩ (Nat.le_of_ble_eq_true rfl) (fun h106 h106I => ?_)
            refine z_icmp_ne (tgt := 447) ok dL_isTick_440 (by decide) (by omega) (by omega) (fun c440 => ?_) (fun c => (by omega : False).elim)
            refine z_iconst ok dL_isTick_447 ?_
            refine z_istore (lv' := [(14, .int (iI 0)), (13, .int (iI 0)), (12, .int (iI (pk (pasN N) i 4))), (11, .int (iI (pk (pasN N) i 3))), (10, .int (iI i)), (9, .int (iI (N 2))), (8, .int (iI (N 3))), (7, .ref qN), (6, .ref qF), (5, .ref qM), (4, .ref qW), (3, .ref qS), (2, .ref qB), (1, .int (iI (N 6))), (0, .ref (obX ad))]) ok dL_isTick_448 (by decide) rfl ?_
            refine z_aload ok dL_isTick_450 rfl ?_
            refine z_iload ok dL_isTick_452 rfl ?_
            refine z_iale (f := fF) (v := fsN N i) ok 1 rfl ((rF _ (by omega) (by omega)).trans hfv) dL_isTick_454 (by omega) (by decide) ?_
            refine z_if_ge (tgt := 462) ok dL_isTick_455 (by decide) (by omega) (fun c455 => ?_) (fun c => (by omega : False).elim)
            refine z_aload_n ok dL_isTick_462 rfl ?_
            refine z_aload_n ok dL_isTick_463 rfl ?_
            refine z_iload ok dL_isTick_464 rfl ?_
            refine z_iale (f := fB) (v := pk N i 3) ok 5 rfl (rB _ (by omega) (by omega)) dL_isTick_466 (by omega) (by decide) ?_
            refine z_aload ok dL_isTick_467 rfl ?_
            refine z_iload ok dL_isTick_469 rfl ?_
            refine z_iale (f := fF) (v := fsN N i) ok 1 rfl ((rF _ (by omega) (by omega)).trans hfv) dL_isTick_471 (by omega) (by decide) ?_
            refine l_beside (v := nb N (pk N i 3) (fsN N i)) ok h106I hw2 (by assumption) (by omega) (nb_45 e4 e5) qm_RL_27 dL_isTick_472 (by decide) ⟨by decide, by decide⟩ (Nat.le_of_ble_eq_true rfl) (fun h107 h107I => ?_)
            refine z_istore (lv' := [(15, .int (iI (nb N (pk N i 3) (fsN N i)))), (14, .int (iI 0)), (13, .int (iI 0)), (12, .int (iI (pk (pasN N) i 4))), (11, .int (iI (pk (pasN N) i 3))), (10, .int (iI i)), (9, .int (iI (N 2))), (8, .int (iI (N 3))), (7, .ref qN), (6, .ref qF), (5, .ref qM), (4, .ref qW), (3, .ref qS), (2, .ref qB), (1, .int (iI (N 6))), (0, .ref (obX ad))]) ok dL_isTick_475 (by decide) rfl ?_
            refine z_iload ok dL_isTick_477 rfl ?_
            refine z_if_ge (tgt := 490) ok dL_isTick_479 (by decide) (by omega) (fun c479 => ?_) (fun c => (by omega : False).elim)
            refine z_iload ok dL_isTick_490 rfl ?_
            refine z_aload_n ok dL_isTick_492 rfl ?_
            refine z_iload ok dL_isTick_493 rfl ?_
            refine z_iconst ok dL_isTick_495 ?_
            refine o_ofPacket (v := pk (pasN N) i 1) ok h107I hw2 (by omega) (by decide) (v_pk (hq2) (by decide)) qm_RL_14 dL_isTick_496 (by decide) ⟨by decide, by decide⟩ (Nat.le_of_ble_eq_true rfl) (fun h108 h108I => ?_)
            refine z_icmp_eq (tgt := 512) ok dL_isTick_499 (by decide) (by omega) (by omega) (fun c => (by omega : False).elim) (fun c499 => ?_)
            refine z_aload ok dL_isTick_502 rfl ?_
            refine z_iload ok dL_isTick_504 rfl ?_
            refine z_iale (f := fN) (v := insQ N i (nb N (pk N i 3) (fsN N i))) ok 0 rfl (rN _ (by omega) (by omega)) dL_isTick_506 (by omega) (by decide) ?_
            refine z_iload ok dL_isTick_507 rfl ?_
            refine z_icmp_ge (tgt := 521) ok dL_isTick_509 (by decide) (by omega) (by omega) (fun c509 => ?_) (fun c => (by omega : False).elim)
            refine z_iload ok dL_isTick_521 rfl ?_
            refine z_if_ne (tgt := 541) ok dL_isTick_523 (by decide) (by decide) (fun c => absurd c (by decide)) (fun c523 => ?_)
            refine z_iload ok dL_isTick_526 rfl ?_
            refine z_if_ne (tgt := 541) ok dL_isTick_528 (by decide) (by decide) (fun c => absurd c (by decide)) (fun c528 => ?_)
            refine z_aload ok dL_isTick_531 rfl ?_
            refine z_iload ok dL_isTick_533 rfl ?_
            refine z_iale (f := fN) (v := insQ N i (pk (pasN N) i 3)) ok 0 rfl (rN _ (by omega) (by omega)) dL_isTick_535 (by omega) (by decide) ?_
            refine z_iload ok dL_isTick_536 rfl ?_
            refine z_icmp_ge (tgt := 584) ok dL_isTick_538 (by decide) (by omega) (by omega) (fun c => (by omega : False).elim) (fun c538 => ?_)
            refine z_iload ok dL_isTick_541 rfl ?_
            refine z_if_ne (tgt := 566) ok dL_isTick_543 (by decide) (by decide) (fun c => absurd c (by decide)) (fun c543 => ?_)
            refine z_aload_n ok dL_isTick_546 rfl ?_
            refine z_iload ok dL_isTick_547 rfl ?_
            refine z_iconst ok dL_isTick_549 ?_
            refine o_ofPacket (v := pk (pasN N) i 2) ok h108I hw2 (by omega) (by decide) (v_pk (hq2) (by decide)) qm_RL_14 dL_isTick_550 (by decide) ⟨by decide, by decide⟩ (Nat.le_of_ble_eq_true rfl) (fun h109 h109I => ?_)
            refine z_iload ok dL_isTick_553 rfl ?_
            refine z_if_eq (tgt := 562) ok dL_isTick_555 (by decide) (by decide) (fun c555 => ?_) (fun c => absurd c (by decide))
            refine z_iconst ok dL_isTick_562 ?_
            refine z_icmp_ne (tgt := 584) ok dL_isTick_563 (by decide) (by omega) (by decide) (fun c => (by omega : False).elim) (fun c563 => ?_)
            refine z_iload ok dL_isTick_566 rfl ?_
            refine z_if_eq (tgt := 586) ok dL_isTick_568 (by decide) (by decide) (fun c568 => ?_) (fun c => absurd c (by decide))
            refine z_aload ok dL_isTick_586 rfl ?_
            refine z_aload_n ok dL_isTick_588 rfl ?_
            refine z_iload ok dL_isTick_589 rfl ?_
            refine z_iale (f := fB) (v := pk N i 3) ok 5 rfl (rB _ (by omega) (by omega)) dL_isTick_591 (by omega) (by decide) ?_
            refine z_dup2 ok dL_isTick_592 rfl rfl ?_
            refine z_iale (f := fN) (v := insQ N i (pk N i 3)) ok 0 rfl (rN _ (by omega) (by omega)) dL_isTick_593 (by omega) (by decide) ?_
            refine z_iload ok dL_isTick_594 rfl ?_
            refine z_if_eq (tgt := 603) ok dL_isTick_596 (by decide) (by decide) (fun c596 => ?_) (fun c => absurd c (by decide))
            refine z_iconst ok dL_isTick_603 ?_
            refine z_isub ok dL_isTick_604 ?_
            refine z_iast (f := fN) (v := (insQ N i (pk N i 3)) - 1) (ws' := [aW Z qN 25 (zu fN (pk N i 3) ((insQ N i (pk N i 3)) - 1)), aW Z qF 40 fF, aW Z qM 40 fM, aW Z qW 40 fW, aW Z qS 40 fS, aW Z qB 40 fB] ++ (obW Z ad (pasN N) h109 ++ ([] : va_W))) ok 0 rfl dL_isTick_605 (by omega) (by decide) rfl ?_
            refine z_aload ok dL_isTick_606 rfl ?_
            refine z_iload ok dL_isTick_608 rfl ?_
            refine z_dup2 ok dL_isTick_610 rfl rfl ?_
            refine z_iale (f := zu fN (pk N i 3) ((insQ N i (pk N i 3)) - 1)) (v := (zu fN (pk N i 3) ((insQ N i (pk N i 3)) - 1)) (pk (pasN N) i 3)) ok 0 rfl (rfl) dL_isTick_611 (by omega) (by decide) ?_
            refine z_iload ok dL_isTick_612 rfl ?_
            refine z_if_ne (tgt := 622) ok dL_isTick_614 (by decide) (by decide) (fun c => absurd c (by decide)) (fun c614 => ?_)
            refine z_iload ok dL_isTick_617 rfl ?_
            refine z_if_eq (tgt := 626) ok dL_isTick_619 (by decide) (by decide) (fun c619 => ?_) (fun c => absurd c (by decide))
            refine z_iconst ok dL_isTick_626 ?_
            refine z_iadd ok dL_isTick_627 ?_
            refine z_iast (f := zu fN (pk N i 3) ((insQ N i (pk N i 3)) - 1)) (v := ((zu fN (pk N i 3) ((insQ N i (pk N i 3)) - 1)) (pk (pasN N) i 3)) + 1) (ws' := [aW Z qN 25 (zu (zu fN (pk N i 3) ((insQ N i (pk N i 3)) - 1)) (pk (pasN N) i 3) (((zu fN (pk N i 3) ((insQ N i (pk N i 3)) - 1)) (pk (pasN N) i 3)) + 1)), aW Z qF 40 fF, aW Z qM 40 fM, aW Z qW 40 fW, aW Z qS 40 fS, aW Z qB 40 fB] ++ (obW Z ad (pasN N) h109 ++ ([] : va_W))) ok 0 rfl dL_isTick_628 (by omega) (by decide) rfl ?_
            refine z_iinc (lv' := [(10, .int (iI (i + 1))), (15, .int (iI (nb N (pk N i 3) (fsN N i)))), (14, .int (iI 0)), (13, .int (iI 0)), (12, .int (iI (pk (pasN N) i 4))), (11, .int (iI (pk (pasN N) i 3))), (9, .int (iI (N 2))), (8, .int (iI (N 3))), (7, .ref qN), (6, .ref qF), (5, .ref qM), (4, .ref qW), (3, .ref qS), (2, .ref qB), (1, .int (iI (N 6))), (0, .ref (obX ad))]) ok dL_isTick_629 5 rfl (by decide) rfl ?_
            refine z_goto (tgt := 170) ok dL_isTick_632 (by decide) ?_
            have hfin : ∀ b : Int, 0 ≤ b → b < 25 → (zu (zu fN (pk N i 3) ((insQ N i (pk N i 3)) - 1)) (pk (pasN N) i 3) (((zu fN (pk N i 3) ((insQ N i (pk N i 3)) - 1)) (pk (pasN N) i 3)) + 1)) b = insQ N (i + 1) b := by
              intro b b0 b1
              by_cases e2 : b = pk (pasN N) i 3
              · have hyx : pk (pasN N) i 3 ≠ pk N i 3 := by omega
                have a2 := kI (pk (pasN N) i 3)
                rw [if_neg hyx, if_pos ⟨z3, c.2.2⟩] at a2
                rw [e2, zu_s, zu_n hyx, rN (pk (pasN N) i 3) (by omega) (by omega)]; omega
              · rw [zu_n e2]
                by_cases e1 : b = pk N i 3
                · have a2 := kI (pk N i 3)
                  rw [if_pos rfl, if_neg (fun z => hnn.1 z.1.symm)] at a2
                  rw [e1, zu_s]; omega
                · have a2 := kI b
                  rw [if_neg e1, if_neg (fun z => e2 (z.1.trans z3.symm))] at a2
                  rw [zu_n e1, rN b b0 b1]; omega
            refine z_lsub ok (lv' := [(10, .int (iI (i + 1))), (9, .int (iI (N 2))), (8, .int (iI (N 3))), (7, .ref qN), (6, .ref qF), (5, .ref qM), (4, .ref qW), (3, .ref qS), (2, .ref qB), (1, .int (iI (N 6))), (0, .ref (obX ad))]) [0, 6, 7, 8, 9, 10, 11, 12, 13, 14, 15] rfl ?_
            exact ih (i + 1) fB fS fW fM fF (zu (zu fN (pk N i 3) ((insQ N i (pk N i 3)) - 1)) (pk (pasN N) i 3) (((zu fN (pk N i 3) ((insQ N i (pk N i 3)) - 1)) (pk (pasN N) i 3)) + 1)) h109 (by omega) (by omega) rB rS rW rM rF (hfin) h109I (by omega)
        · -- tk1n
          have z6 := k3
          have z1 := k4 1 (by decide) (by decide) (by decide)
          have z2 := k4 2 (by decide) (by decide) (by decide)
          have z3 := k4 3 (by decide) (by decide) (by decide)
          have z4 := k4 4 (by decide) (by decide) (by decide)
          have z8 := k4 8 (by decide) (by decide) (by decide)
          have hfv : fsV N i = fsN N i := if_neg (by omega)
          rcases k2 with c | ⟨f0, fnb, c⟩
          · -- n1
            refine z_aload_n ok dL_isTick_176 rfl ?_
            refine z_iload ok dL_isTick_177 rfl ?_
            refine z_iconst ok dL_isTick_179 ?_
            refine o_ofPacket (v := pk (pasN N) i 3) ok gI hw2 (by omega) (by decide) (v_pk (hq2) (by decide)) qm_RL_14 dL_isTick_180 (by decide) ⟨by decide, by decide⟩ (Nat.le_of_ble_eq_true rfl) (fun h101 h101I => ?_)
            refine z_istore (lv' := [(11, .int (iI (pk (pasN N) i 3))), (10, .int (iI i)), (9, .int (iI (N 2))), (8, .int (iI (N 3))), (7, .ref qN), (6, .ref qF), (5, .ref qM), (4, .ref qW), (3, .ref qS), (2, .ref qB), (1, .int (iI (N 6))), (0, .ref (obX ad))]) ok dL_isTick_183 (by decide) rfl ?_
            refine z_aload_n ok dL_isTick_185 rfl ?_
            refine z_iload ok dL_isTick_186 rfl ?_
            refine z_iconst ok dL_isTick_188 ?_
            refine o_ofPacket (v := pk (pasN N) i 4) ok h101I hw2 (by omega) (by decide) (v_pk (hq2) (by decide)) qm_RL_14 dL_isTick_189 (by decide) ⟨by decide, by decide⟩ (Nat.le_of_ble_eq_true rfl) (fun h102 h102I => ?_)
            refine z_istore (lv' := [(12, .int (iI (pk (pasN N) i 4))), (11, .int (iI (pk (pasN N) i 3))), (10, .int (iI i)), (9, .int (iI (N 2))), (8, .int (iI (N 3))), (7, .ref qN), (6, .ref qF), (5, .ref qM), (4, .ref qW), (3, .ref qS), (2, .ref qB), (1, .int (iI (N 6))), (0, .ref (obX ad))]) ok dL_isTick_192 (by decide) rfl ?_
            refine z_aload_n ok dL_isTick_194 rfl ?_
            refine z_iload ok dL_isTick_195 rfl ?_
            refine z_bipush ok dL_isTick_197 (by decide) ?_
            refine o_ofPacket (v := pk (pasN N) i 6) ok h102I hw2 (by omega) (by decide) (v_pk (hq2) (by decide)) qm_RL_14 dL_isTick_199 (by decide) ⟨by decide, by decide⟩ (Nat.le_of_ble_eq_true rfl) (fun h103 h103I => ?_)
            refine z_aload ok dL_isTick_202 rfl ?_
            refine z_iload ok dL_isTick_204 rfl ?_
            refine z_iale (f := fW) (v := pk N i 6) ok 3 rfl (rW _ (by omega) (by omega)) dL_isTick_206 (by omega) (by decide) ?_
            refine z_iconst ok dL_isTick_207 ?_
            refine z_iadd ok dL_isTick_208 ?_
            refine z_icmp_ne (tgt := 216) ok dL_isTick_209 (by decide) (by omega) (by omega) (fun c => (by omega : False).elim) (fun c209 => ?_)
            refine z_iconst ok dL_isTick_212 ?_
            refine z_goto (tgt := 217) ok dL_isTick_213 (by decide) ?_
            refine z_istore (lv' := [(13, .int (iI 1)), (12, .int (iI (pk (pasN N) i 4))), (11, .int (iI (pk (pasN N) i 3))), (10, .int (iI i)), (9, .int (iI (N 2))), (8, .int (iI (N 3))), (7, .ref qN), (6, .ref qF), (5, .ref qM), (4, .ref qW), (3, .ref qS), (2, .ref qB), (1, .int (iI (N 6))), (0, .ref (obX ad))]) ok dL_isTick_217 (by decide) rfl ?_
            refine z_aload_n ok dL_isTick_219 rfl ?_
            refine z_iload ok dL_isTick_220 rfl ?_
            refine z_bipush ok dL_isTick_222 (by decide) ?_
            refine o_ofPacket (v := pk (pasN N) i 6) ok h103I hw2 (by omega) (by decide) (v_pk (hq2) (by decide)) qm_RL_14 dL_isTick_224 (by decide) ⟨by decide, by decide⟩ (Nat.le_of_ble_eq_true rfl) (fun h104 h104I => ?_)
            refine z_aload ok dL_isTick_227 rfl ?_
            refine z_iload ok dL_isTick_229 rfl ?_
            refine z_iale (f := fW) (v := pk N i 6) ok 3 rfl (rW _ (by omega) (by omega)) dL_isTick_231 (by omega) (by decide) ?_
            refine z_iload ok dL_isTick_232 rfl ?_
            refine z_if_eq (tgt := 241) ok dL_isTick_234 (by decide) (by decide) (fun c => absurd c (by decide)) (fun c234 => ?_)
            refine z_iconst ok dL_isTick_237 ?_
            refine z_goto (tgt := 242) ok dL_isTick_238 (by decide) ?_
            refine z_iadd ok dL_isTick_242 ?_
            refine z_icmp_ne (tgt := 271) ok dL_isTick_243 (by decide) (by omega) (by omega) (fun c => (by omega : False).elim) (fun c243 => ?_)
            refine z_iload ok dL_isTick_246 rfl ?_
            refine z_aload ok dL_isTick_248 rfl ?_
            refine z_iload ok dL_isTick_250 rfl ?_
            refine z_iale (f := fM) (v := pk N i 4) ok 2 rfl (rM _ (by omega) (by omega)) dL_isTick_252 (by omega) (by decide) ?_
            refine z_iload ok dL_isTick_253 rfl ?_
            refine z_aload_n ok dL_isTick_255 rfl ?_
            refine z_iload ok dL_isTick_256 rfl ?_
            refine z_iale (f := fB) (v := pk N i 3) ok 5 rfl (rB _ (by omega) (by omega)) dL_isTick_258 (by omega) (by decide) ?_
            refine z_icmp_ne (tgt := 266) ok dL_isTick_259 (by decide) (by omega) (by omega) (fun c => (by omega : False).elim) (fun c259 => ?_)
            refine z_iconst ok dL_isTick_262 ?_
            refine z_goto (tgt := 267) ok dL_isTick_263 (by decide) ?_
            refine z_iadd ok dL_isTick_267 ?_
            refine z_icmp_eq (tgt := 273) ok dL_isTick_268 (by decide) (by omega) (by omega) (fun c268 => ?_) (fun c => (by omega : False).elim)
            refine z_aload_n ok dL_isTick_273 rfl ?_
            refine z_iload ok dL_isTick_274 rfl ?_
            refine z_iale (f := fS) (v := pk N i 2) ok 4 rfl (rS _ (by omega) (by omega)) dL_isTick_276 (by omega) (by decide) ?_
            refine z_iconst ok dL_isTick_277 ?_
            refine z_icmp_ne (tgt := 297) ok dL_isTick_278 (by decide) (by omega) (by decide) (fun c278 => ?_) (fun c => (by omega : False).elim)
            refine z_aload_n ok dL_isTick_297 rfl ?_
            refine z_iload ok dL_isTick_298 rfl ?_
            refine z_iale (f := fS) (v := pk N i 2) ok 4 rfl (rS _ (by omega) (by omega)) dL_isTick_300 (by omega) (by decide) ?_
            refine z_if_ne (tgt := 381) ok dL_isTick_301 (by decide) (by omega) (fun c301 => ?_) (fun c => (by omega : False).elim)
            refine z_aload_n ok dL_isTick_381 rfl ?_
            refine z_iload ok dL_isTick_382 rfl ?_
            refine z_iale (f := fS) (v := pk N i 2) ok 4 rfl (rS _ (by omega) (by omega)) dL_isTick_384 (by omega) (by decide) ?_
            refine z_iconst ok dL_isTick_385 ?_
            refine z_icmp_ne (tgt := 629) ok dL_isTick_386 (by decide) (by omega) (by decide) (fun c => (by omega : False).elim) (fun c386 => ?_)
            refine z_iload ok dL_isTick_389 rfl ?_
            refine z_if_eq (tgt := 406) ok dL_isTick_391 (by decide) (by decide) (fun c => absurd c (by decide)) (fun c391 => ?_)
            refine z_iload ok dL_isTick_394 rfl ?_
            refine z_aload_n ok dL_isTick_396 rfl ?_
            refine z_iload ok dL_isTick_397 rfl ?_
            refine z_iale (f := fB) (v := pk N i 3) ok 5 rfl (rB _ (by omega) (by omega)) dL_isTick_399 (by omega) (by decide) ?_
            refine z_icmp_eq (tgt := 431) ok dL_isTick_400 (by decide) (by omega) (by omega) (fun c400 => ?_) (fun c => (by omega : False).elim)
            refine z_iload ok dL_isTick_431 rfl ?_
            refine z_aload_n ok dL_isTick_433 rfl ?_
            refine z_iload ok dL_isTick_434 rfl ?_
            refine z_iconst ok dL_isTick_436 ?_
            refine o_ofPacket (v := pk (pasN N) i 1) ok h104I hw2 (by omega) (by decide) (v_pk (hq2) (by decide)) qm_RL_14 dL_isTick_437 (by decide) ⟨by decide, by decide⟩ (Nat.le_of_ble_eq_true rfl) (fun h105 h105I => ?_)
            refine z_icmp_ne (tgt := 447) ok dL_isTick_440 (by decide) (by omega) (by omega) (fun c440 => ?_) (fun c => (by omega : False).elim)
            refine z_iconst ok dL_isTick_447 ?_
            refine z_istore (lv' := [(14, .int (iI 0)), (13, .int (iI 1)), (12, .int (iI (pk (pasN N) i 4))), (11, .int (iI (pk (pasN N) i 3))), (10, .int (iI i)), (9, .int (iI (N 2))), (8, .int (iI (N 3))), (7, .ref qN), (6, .ref qF), (5, .ref qM), (4, .ref qW), (3, .ref qS), (2, .ref qB), (1, .int (iI (N 6))), (0, .ref (obX ad))]) ok dL_isTick_448 (by decide) rfl ?_
            refine z_aload ok dL_isTick_450 rfl ?_
            refine z_iload ok dL_isTick_452 rfl ?_
            refine z_iale (f := fF) (v := fsN N i) ok 1 rfl ((rF _ (by omega) (by omega)).trans hfv) dL_isTick_454 (by omega) (by decide) ?_
            refine z_if_ge (tgt := 462) ok dL_isTick_455 (by decide) (by omega) (fun c => (by omega : False).elim) (fun c455 => ?_)
            refine z_iconst ok dL_isTick_458 ?_
            refine z_goto (tgt := 475) ok dL_isTick_459 (by decide) ?_
            refine z_istore (lv' := [(15, .int (iI (-1))), (14, .int (iI 0)), (13, .int (iI 1)), (12, .int (iI (pk (pasN N) i 4))), (11, .int (iI (pk (pasN N) i 3))), (10, .int (iI i)), (9, .int (iI (N 2))), (8, .int (iI (N 3))), (7, .ref qN), (6, .ref qF), (5, .ref qM), (4, .ref qW), (3, .ref qS), (2, .ref qB), (1, .int (iI (N 6))), (0, .ref (obX ad))]) ok dL_isTick_475 (by decide) rfl ?_
            refine z_iload ok dL_isTick_477 rfl ?_
            refine z_if_ge (tgt := 490) ok dL_isTick_479 (by decide) (by decide) (fun c => absurd c (by decide)) (fun c479 => ?_)
            refine z_iload ok dL_isTick_482 rfl ?_
            refine z_if_ne (tgt := 521) ok dL_isTick_484 (by decide) (by decide) (fun c484 => ?_) (fun c => absurd c (by decide))
            refine z_iload ok dL_isTick_521 rfl ?_
            refine z_if_ne (tgt := 541) ok dL_isTick_523 (by decide) (by decide) (fun c523 => ?_) (fun c => absurd c (by decide))
            refine z_iload ok dL_isTick_541 rfl ?_
            refine z_if_ne (tgt := 566) ok dL_isTick_543 (by decide) (by decide) (fun c543 => ?_) (fun c => absurd c (by decide))
            refine z_iload ok dL_isTick_566 rfl ?_
            refine z_if_eq (tgt := 586) ok dL_isTick_568 (by decide) (by decide) (fun c568 => ?_) (fun c => absurd c (by decide))
            refine z_aload ok dL_isTick_586 rfl ?_
            refine z_aload_n ok dL_isTick_588 rfl ?_
            refine z_iload ok dL_isTick_589 rfl ?_
            refine z_iale (f := fB) (v := pk N i 3) ok 5 rfl (rB _ (by omega) (by omega)) dL_isTick_591 (by omega) (by decide) ?_
            refine z_dup2 ok dL_isTick_592 rfl rfl ?_
            refine z_iale (f := fN) (v := insQ N i (pk N i 3)) ok 0 rfl (rN _ (by omega) (by omega)) dL_isTick_593 (by omega) (by decide) ?_
            refine z_iload ok dL_isTick_594 rfl ?_
            refine z_if_eq (tgt := 603) ok dL_isTick_596 (by decide) (by decide) (fun c => absurd c (by decide)) (fun c596 => ?_)
            refine z_iconst ok dL_isTick_599 ?_
            refine z_goto (tgt := 604) ok dL_isTick_600 (by decide) ?_
            refine z_isub ok dL_isTick_604 ?_
            refine z_iast (f := fN) (v := (insQ N i (pk N i 3)) - 0) (ws' := [aW Z qN 25 (zu fN (pk N i 3) ((insQ N i (pk N i 3)) - 0)), aW Z qF 40 fF, aW Z qM 40 fM, aW Z qW 40 fW, aW Z qS 40 fS, aW Z qB 40 fB] ++ (obW Z ad (pasN N) h105 ++ ([] : va_W))) ok 0 rfl dL_isTick_605 (by omega) (by decide) rfl ?_
            refine z_aload ok dL_isTick_606 rfl ?_
            refine z_iload ok dL_isTick_608 rfl ?_
            refine z_dup2 ok dL_isTick_610 rfl rfl ?_
            refine z_iale (f := zu fN (pk N i 3) ((insQ N i (pk N i 3)) - 0)) (v := (zu fN (pk N i 3) ((insQ N i (pk N i 3)) - 0)) (pk (pasN N) i 3)) ok 0 rfl (rfl) dL_isTick_611 (by omega) (by decide) ?_
            refine z_iload ok dL_isTick_612 rfl ?_
            refine z_if_ne (tgt := 622) ok dL_isTick_614 (by decide) (by decide) (fun c614 => ?_) (fun c => absurd c (by decide))
            refine z_iconst ok dL_isTick_622 ?_
            refine z_goto (tgt := 627) ok dL_isTick_623 (by decide) ?_
            refine z_iadd ok dL_isTick_627 ?_
            refine z_iast (f := zu fN (pk N i 3) ((insQ N i (pk N i 3)) - 0)) (v := ((zu fN (pk N i 3) ((insQ N i (pk N i 3)) - 0)) (pk (pasN N) i 3)) + 0) (ws' := [aW Z qN 25 (zu (zu fN (pk N i 3) ((insQ N i (pk N i 3)) - 0)) (pk (pasN N) i 3) (((zu fN (pk N i 3) ((insQ N i (pk N i 3)) - 0)) (pk (pasN N) i 3)) + 0)), aW Z qF 40 fF, aW Z qM 40 fM, aW Z qW 40 fW, aW Z qS 40 fS, aW Z qB 40 fB] ++ (obW Z ad (pasN N) h105 ++ ([] : va_W))) ok 0 rfl dL_isTick_628 (by omega) (by decide) rfl ?_
            refine z_iinc (lv' := [(10, .int (iI (i + 1))), (15, .int (iI (-1))), (14, .int (iI 0)), (13, .int (iI 1)), (12, .int (iI (pk (pasN N) i 4))), (11, .int (iI (pk (pasN N) i 3))), (9, .int (iI (N 2))), (8, .int (iI (N 3))), (7, .ref qN), (6, .ref qF), (5, .ref qM), (4, .ref qW), (3, .ref qS), (2, .ref qB), (1, .int (iI (N 6))), (0, .ref (obX ad))]) ok dL_isTick_629 5 rfl (by decide) rfl ?_
            refine z_goto (tgt := 170) ok dL_isTick_632 (by decide) ?_
            have hfin : ∀ b : Int, 0 ≤ b → b < 25 → (zu (zu fN (pk N i 3) ((insQ N i (pk N i 3)) - 0)) (pk (pasN N) i 3) (((zu fN (pk N i 3) ((insQ N i (pk N i 3)) - 0)) (pk (pasN N) i 3)) + 0)) b = insQ N (i + 1) b := by
              intro b b0 b1
              by_cases e2 : b = pk (pasN N) i 3
              · rw [e2, zu_s, z3, zu_s, k5]; omega
              · rw [zu_n e2, zu_n (by omega), k5, rN b b0 b1]
            refine z_lsub ok (lv' := [(10, .int (iI (i + 1))), (9, .int (iI (N 2))), (8, .int (iI (N 3))), (7, .ref qN), (6, .ref qF), (5, .ref qM), (4, .ref qW), (3, .ref qS), (2, .ref qB), (1, .int (iI (N 6))), (0, .ref (obX ad))]) [0, 6, 7, 8, 9, 10, 11, 12, 13, 14, 15] rfl ?_
            exact ih (i + 1) fB fS fW fM fF (zu (zu fN (pk N i 3) ((insQ N i (pk N i 3)) - 0)) (pk (pasN N) i 3) (((zu fN (pk N i 3) ((insQ N i (pk N i 3)) - 0)) (pk (pasN N) i 3)) + 0)) h105 (by omega) (by omega) rB rS rW rM rF (hfin) h105I (by omega)
          · -- n2
            have ir5 := hir (nb N (pk N i 3) (fsN N i))
            refine z_aload_n ok dL_isTick_176 rfl ?_
            refine z_iload ok dL_isTick_177 rfl ?_
            refine z_iconst ok dL_isTick_179 ?_
            refine o_ofPacket (v := pk (pasN N) i 3) ok gI hw2 (by omega) (by decide) (v_pk (hq2) (by decide)) qm_RL_14 dL_isTick_180 (by decide) ⟨by decide, by decide⟩ (Nat.le_of_ble_eq_true rfl) (fun h101 h101I => ?_)
            refine z_istore (lv' := [(11, .int (iI (pk (pasN N) i 3))), (10, .int (iI i)), (9, .int (iI (N 2))), (8, .int (iI (N 3))), (7, .ref qN), (6, .ref qF), (5, .ref qM), (4, .ref qW), (3, .ref qS), (2, .ref qB), (1, .int (iI (N 6))), (0, .ref (obX ad))]) ok dL_isTick_183 (by decide) rfl ?_
            refine z_aload_n ok dL_isTick_185 rfl ?_
            refine z_iload ok dL_isTick_186 rfl ?_
            refine z_iconst ok dL_isTick_188 ?_
            refine o_ofPacket (v := pk (pasN N) i 4) ok h101I hw2 (by omega) (by decide) (v_pk (hq2) (by decide)) qm_RL_14 dL_isTick_189 (by decide) ⟨by decide, by decide⟩ (Nat.le_of_ble_eq_true rfl) (fun h102 h102I => ?_)
            refine z_istore (lv' := [(12, .int (iI (pk (pasN N) i 4))), (11, .int (iI (pk (pasN N) i 3))), (10, .int (iI i)), (9, .int (iI (N 2))), (8, .int (iI (N 3))), (7, .ref qN), (6, .ref qF), (5, .ref qM), (4, .ref qW), (3, .ref qS), (2, .ref qB), (1, .int (iI (N 6))), (0, .ref (obX ad))]) ok dL_isTick_192 (by decide) rfl ?_
            refine z_aload_n ok dL_isTick_194 rfl ?_
            refine z_iload ok dL_isTick_195 rfl ?_
            refine z_bipush ok dL_isTick_197 (by decide) ?_
            refine o_ofPacket (v := pk (pasN N) i 6) ok h102I hw2 (by omega) (by decide) (v_pk (hq2) (by decide)) qm_RL_14 dL_isTick_199 (by decide) ⟨by decide, by decide⟩ (Nat.le_of_ble_eq_true rfl) (fun h103 h103I => ?_)
            refine z_aload ok dL_isTick_202 rfl ?_
            refine z_iload ok dL_isTick_204 rfl ?_
            refine z_iale (f := fW) (v := pk N i 6) ok 3 rfl (rW _ (by omega) (by omega)) dL_isTick_206 (by omega) (by decide) ?_
            refine z_iconst ok dL_isTick_207 ?_
            refine z_iadd ok dL_isTick_208 ?_
            refine z_icmp_ne (tgt := 216) ok dL_isTick_209 (by decide) (by omega) (by omega) (fun c => (by omega : False).elim) (fun c209 => ?_)
            refine z_iconst ok dL_isTick_212 ?_
            refine z_goto (tgt := 217) ok dL_isTick_213 (by decide) ?_
            refine z_istore (lv' := [(13, .int (iI 1)), (12, .int (iI (pk (pasN N) i 4))), (11, .int (iI (pk (pasN N) i 3))), (10, .int (iI i)), (9, .int (iI (N 2))), (8, .int (iI (N 3))), (7, .ref qN), (6, .ref qF), (5, .ref qM), (4, .ref qW), (3, .ref qS), (2, .ref qB), (1, .int (iI (N 6))), (0, .ref (obX ad))]) ok dL_isTick_217 (by decide) rfl ?_
            refine z_aload_n ok dL_isTick_219 rfl ?_
            refine z_iload ok dL_isTick_220 rfl ?_
            refine z_bipush ok dL_isTick_222 (by decide) ?_
            refine o_ofPacket (v := pk (pasN N) i 6) ok h103I hw2 (by omega) (by decide) (v_pk (hq2) (by decide)) qm_RL_14 dL_isTick_224 (by decide) ⟨by decide, by decide⟩ (Nat.le_of_ble_eq_true rfl) (fun h104 h104I => ?_)
            refine z_aload ok dL_isTick_227 rfl ?_
            refine z_iload ok dL_isTick_229 rfl ?_
            refine z_iale (f := fW) (v := pk N i 6) ok 3 rfl (rW _ (by omega) (by omega)) dL_isTick_231 (by omega) (by decide) ?_
            refine z_iload ok dL_isTick_232 rfl ?_
            refine z_if_eq (tgt := 241) ok dL_isTick_234 (by decide) (by decide) (fun c => absurd c (by decide)) (fun c234 => ?_)
            refine z_iconst ok dL_isTick_237 ?_
            refine z_goto (tgt := 242) ok dL_isTick_238 (by decide) ?_
            refine z_iadd ok dL_isTick_242 ?_
            refine z_icmp_ne (tgt := 271) ok dL_isTick_243 (by decide) (by omega) (by omega) (fun c => (by omega : False).elim) (fun c243 => ?_)
            refine z_iload ok dL_isTick_246 rfl ?_
            refine z_aload ok dL_isTick_248 rfl ?_
            refine z_iload ok dL_isTick_250 rfl ?_
            refine z_iale (f := fM) (v := pk N i 4) ok 2 rfl (rM _ (by omega) (by omega)) dL_isTick_252 (by omega) (by decide) ?_
            refine z_iload ok dL_isTick_253 rfl ?_
            refine z_aload_n ok dL_isTick_255 rfl ?_
            refine z_iload ok dL_isTick_256 rfl ?_
            refine z_iale (f := fB) (v := pk N i 3) ok 5 rfl (rB _ (by omega) (by omega)) dL_isTick_258 (by omega) (by decide) ?_
            refine z_icmp_ne (tgt := 266) ok dL_isTick_259 (by decide) (by omega) (by omega) (fun c => (by omega : False).elim) (fun c259 => ?_)
            refine z_iconst ok dL_isTick_262 ?_
            refine z_goto (tgt := 267) ok dL_isTick_263 (by decide) ?_
            refine z_iadd ok dL_isTick_267 ?_
            refine z_icmp_eq (tgt := 273) ok dL_isTick_268 (by decide) (by omega) (by omega) (fun c268 => ?_) (fun c => (by omega : False).elim)
            refine z_aload_n ok dL_isTick_273 rfl ?_
            refine z_iload ok dL_isTick_274 rfl ?_
            refine z_iale (f := fS) (v := pk N i 2) ok 4 rfl (rS _ (by omega) (by omega)) dL_isTick_276 (by omega) (by decide) ?_
            refine z_iconst ok dL_isTick_277 ?_
            refine z_icmp_ne (tgt := 297) ok dL_isTick_278 (by decide) (by omega) (by decide) (fun c278 => ?_) (fun c => (by omega : False).elim)
            refine z_aload_n ok dL_isTick_297 rfl ?_
            refine z_iload ok dL_isTick_298 rfl ?_
            refine z_iale (f := fS) (v := pk N i 2) ok 4 rfl (rS _ (by omega) (by omega)) dL_isTick_300 (by omega) (by decide) ?_
            refine z_if_ne (tgt := 381) ok dL_isTick_301 (by decide) (by omega) (fun c301 => ?_) (fun c => (by omega : False).elim)
            refine z_aload_n ok dL_isTick_381 rfl ?_
            refine z_iload ok dL_isTick_382 rfl ?_
            refine z_iale (f := fS) (v := pk N i 2) ok 4 rfl (rS _ (by omega) (by omega)) dL_isTick_384 (by omega) (by decide) ?_
            refine z_iconst ok dL_isTick_385 ?_
            refine z_icmp_ne (tgt := 629) ok dL_isTick_386 (by decide) (by omega) (by decide) (fun c => (by omega : False).elim) (fun c386 => ?_)
            refine z_iload ok dL_isTick_389 rfl ?_
            refine z_if_eq (tgt := 406) ok dL_isTick_391 (by decide) (by decide) (fun c => absurd c (by decide)) (fun c391 => ?_)
            refine z_iload ok dL_isTick_394 rfl ?_
            refine z_aload_n ok dL_isTick_396 rfl ?_
            refine z_iload ok dL_isTick_397 rfl ?_
            refine z_iale (f := fB) (v := pk N i 3) ok 5 rfl (rB _ (by omega) (by omega)) dL_isTick_399 (by omega) (by decide) ?_
            refine z_icmp_eq (tgt := 431) ok dL_isTick_400 (by decide) (by omega) (by omega) (fun c400 => ?_) (fun c => (by omega : False).elim)
            refine z_iload ok dL_isTick_431 rfl ?_
            refine z_aload_n ok dL_isTick_433 rfl ?_
            refine z_iload ok dL_isTick_434 rfl ?_
            refine z_iconst ok dL_isTick_436 ?_
            refine o_ofPacket (v := pk (pasN N) i 1) ok h104I hw2 (by omega) (by decide) (v_pk (hq2) (by decide)) qm_RL_14 dL_isTick_437 (by decide) ⟨by decide, by decide⟩ (Nat.le_of_ble_eq_true rfl) (fun h105 h105I => ?_)
            refine z_icmp_ne (tgt := 447) ok dL_isTick_440 (by decide) (by omega) (by omega) (fun c440 => ?_) (fun c => (by omega : False).elim)
            refine z_iconst ok dL_isTick_447 ?_
            refine z_istore (lv' := [(14, .int (iI 0)), (13, .int (iI 1)), (12, .int (iI (pk (pasN N) i 4))), (11, .int (iI (pk (pasN N) i 3))), (10, .int (iI i)), (9, .int (iI (N 2))), (8, .int (iI (N 3))), (7, .ref qN), (6, .ref qF), (5, .ref qM), (4, .ref qW), (3, .ref qS), (2, .ref qB), (1, .int (iI (N 6))), (0, .ref (obX ad))]) ok dL_isTick_448 (by decide) rfl ?_
            refine z_aload ok dL_isTick_450 rfl ?_
            refine z_iload ok dL_isTick_452 rfl ?_
            refine z_iale (f := fF) (v := fsN N i) ok 1 rfl ((rF _ (by omega) (by omega)).trans hfv) dL_isTick_454 (by omega) (by decide) ?_
            refine z_if_ge (tgt := 462) ok dL_isTick_455 (by decide) (by omega) (fun c455 => ?_) (fun c => (by omega : False).elim)
            refine z_aload_n ok dL_isTick_462 rfl ?_
            refine z_aload_n ok dL_isTick_463 rfl ?_
            refine z_iload ok dL_isTick_464 rfl ?_
            refine z_iale (f := fB) (v := pk N i 3) ok 5 rfl (rB _ (by omega) (by omega)) dL_isTick_466 (by omega) (by decide) ?_
            refine z_aload ok dL_isTick_467 rfl ?_
            refine z_iload ok dL_isTick_469 rfl ?_
            refine z_iale (f := fF) (v := fsN N i) ok 1 rfl ((rF _ (by omega) (by omega)).trans hfv) dL_isTick_471 (by omega) (by decide) ?_
            refine l_beside (v := nb N (pk N i 3) (fsN N i)) ok h105I hw2 (by assumption) (by omega) (nb_45 e4 e5) qm_RL_27 dL_isTick_472 (by decide) ⟨by decide, by decide⟩ (Nat.le_of_ble_eq_true rfl) (fun h106 h106I => ?_)
            refine z_istore (lv' := [(15, .int (iI (nb N (pk N i 3) (fsN N i)))), (14, .int (iI 0)), (13, .int (iI 1)), (12, .int (iI (pk (pasN N) i 4))), (11, .int (iI (pk (pasN N) i 3))), (10, .int (iI i)), (9, .int (iI (N 2))), (8, .int (iI (N 3))), (7, .ref qN), (6, .ref qF), (5, .ref qM), (4, .ref qW), (3, .ref qS), (2, .ref qB), (1, .int (iI (N 6))), (0, .ref (obX ad))]) ok dL_isTick_475 (by decide) rfl ?_
            refine z_iload ok dL_isTick_477 rfl ?_
            refine z_if_ge (tgt := 490) ok dL_isTick_479 (by decide) (by omega) (fun c479 => ?_) (fun c => (by omega : False).elim)
            refine z_iload ok dL_isTick_490 rfl ?_
            refine z_aload_n ok dL_isTick_492 rfl ?_
            refine z_iload ok dL_isTick_493 rfl ?_
            refine z_iconst ok dL_isTick_495 ?_
            refine o_ofPacket (v := pk (pasN N) i 1) ok h106I hw2 (by omega) (by decide) (v_pk (hq2) (by decide)) qm_RL_14 dL_isTick_496 (by decide) ⟨by decide, by decide⟩ (Nat.le_of_ble_eq_true rfl) (fun h107 h107I => ?_)
            refine z_icmp_eq (tgt := 512) ok dL_isTick_499 (by decide) (by omega) (by omega) (fun c => (by omega : False).elim) (fun c499 => ?_)
            refine z_aload ok dL_isTick_502 rfl ?_
            refine z_iload ok dL_isTick_504 rfl ?_
            refine z_iale (f := fN) (v := insQ N i (nb N (pk N i 3) (fsN N i))) ok 0 rfl (rN _ (by omega) (by omega)) dL_isTick_506 (by omega) (by decide) ?_
            refine z_iload ok dL_isTick_507 rfl ?_
            refine z_icmp_ge (tgt := 521) ok dL_isTick_509 (by decide) (by omega) (by omega) (fun c509 => ?_) (fun c => (by omega : False).elim)
            refine z_iload ok dL_isTick_521 rfl ?_
            refine z_if_ne (tgt := 541) ok dL_isTick_523 (by decide) (by decide) (fun c523 => ?_) (fun c => absurd c (by decide))
            refine z_iload ok dL_isTick_541 rfl ?_
            refine z_if_ne (tgt := 566) ok dL_isTick_543 (by decide) (by decide) (fun c543 => ?_) (fun c => absurd c (by decide))
            refine z_iload ok dL_isTick_566 rfl ?_
            refine z_if_eq (tgt := 586) ok dL_isTick_568 (by decide) (by decide) (fun c568 => ?_) (fun c => absurd c (by decide))
            refine z_aload ok dL_isTick_586 rfl ?_
            refine z_aload_n ok dL_isTick_588 rfl ?_
            refine z_iload ok dL_isTick_589 rfl ?_
            refine z_iale (f := fB) (v := pk N i 3) ok 5 rfl (rB _ (by omega) (by omega)) dL_isTick_591 (by omega) (by decide) ?_
            refine z_dup2 ok dL_isTick_592 rfl rfl ?_
            refine z_iale (f := fN) (v := insQ N i (pk N i 3)) ok 0 rfl (rN _ (by omega) (by omega)) dL_isTick_593 (by omega) (by decide) ?_
            refine z_iload ok dL_isTick_594 rfl ?_
            refine z_if_eq (tgt := 603) ok dL_isTick_596 (by decide) (by decide) (fun c => absurd c (by decide)) (fun c596 => ?_)
            refine z_iconst ok dL_isTick_599 ?_
            refine z_goto (tgt := 604) ok dL_isTick_600 (by decide) ?_
            refine z_isub ok dL_isTick_604 ?_
            refine z_iast (f := fN) (v := (insQ N i (pk N i 3)) - 0) (ws' := [aW Z qN 25 (zu fN (pk N i 3) ((insQ N i (pk N i 3)) - 0)), aW Z qF 40 fF, aW Z qM 40 fM, aW Z qW 40 fW, aW Z qS 40 fS, aW Z qB 40 fB] ++ (obW Z ad (pasN N) h107 ++ ([] : va_W))) ok 0 rfl dL_isTick_605 (by omega) (by decide) rfl ?_
            refine z_aload ok dL_isTick_606 rfl ?_
            refine z_iload ok dL_isTick_608 rfl ?_
            refine z_dup2 ok dL_isTick_610 rfl rfl ?_
            refine z_iale (f := zu fN (pk N i 3) ((insQ N i (pk N i 3)) - 0)) (v := (zu fN (pk N i 3) ((insQ N i (pk N i 3)) - 0)) (pk (pasN N) i 3)) ok 0 rfl (rfl) dL_isTick_611 (by omega) (by decide) ?_
            refine z_iload ok dL_isTick_612 rfl ?_
            refine z_if_ne (tgt := 622) ok dL_isTick_614 (by decide) (by decide) (fun c614 => ?_) (fun c => absurd c (by decide))
            refine z_iconst ok dL_isTick_622 ?_
            refine z_goto (tgt := 627) ok dL_isTick_623 (by decide) ?_
            refine z_iadd ok dL_isTick_627 ?_
            refine z_iast (f := zu fN (pk N i 3) ((insQ N i (pk N i 3)) - 0)) (v := ((zu fN (pk N i 3) ((insQ N i (pk N i 3)) - 0)) (pk (pasN N) i 3)) + 0) (ws' := [aW Z qN 25 (zu (zu fN (pk N i 3) ((insQ N i (pk N i 3)) - 0)) (pk (pasN N) i 3) (((zu fN (pk N i 3) ((insQ N i (pk N i 3)) - 0)) (pk (pasN N) i 3)) + 0)), aW Z qF 40 fF, aW Z qM 40 fM, aW Z qW 40 fW, aW Z qS 40 fS, aW Z qB 40 fB] ++ (obW Z ad (pasN N) h107 ++ ([] : va_W))) ok 0 rfl dL_isTick_628 (by omega) (by decide) rfl ?_
            refine z_iinc (lv' := [(10, .int (iI (i + 1))), (15, .int (iI (nb N (pk N i 3) (fsN N i)))), (14, .int (iI 0)), (13, .int (iI 1)), (12, .int (iI (pk (pasN N) i 4))), (11, .int (iI (pk (pasN N) i 3))), (9, .int (iI (N 2))), (8, .int (iI (N 3))), (7, .ref qN), (6, .ref qF), (5, .ref qM), (4, .ref qW), (3, .ref qS), (2, .ref qB), (1, .int (iI (N 6))), (0, .ref (obX ad))]) ok dL_isTick_629 5 rfl (by decide) rfl ?_
            refine z_goto (tgt := 170) ok dL_isTick_632 (by decide) ?_
            have hfin : ∀ b : Int, 0 ≤ b → b < 25 → (zu (zu fN (pk N i 3) ((insQ N i (pk N i 3)) - 0)) (pk (pasN N) i 3) (((zu fN (pk N i 3) ((insQ N i (pk N i 3)) - 0)) (pk (pasN N) i 3)) + 0)) b = insQ N (i + 1) b := by
              intro b b0 b1
              by_cases e2 : b = pk (pasN N) i 3
              · rw [e2, zu_s, z3, zu_s, k5]; omega
              · rw [zu_n e2, zu_n (by omega), k5, rN b b0 b1]
            refine z_lsub ok (lv' := [(10, .int (iI (i + 1))), (9, .int (iI (N 2))), (8, .int (iI (N 3))), (7, .ref qN), (6, .ref qF), (5, .ref qM), (4, .ref qW), (3, .ref qS), (2, .ref qB), (1, .int (iI (N 6))), (0, .ref (obX ad))]) [0, 6, 7, 8, 9, 10, 11, 12, 13, 14, 15] rfl ?_
            exact ih (i + 1) fB fS fW fM fF (zu (zu fN (pk N i 3) ((insQ N i (pk N i 3)) - 0)) (pk (pasN N) i 3) (((zu fN (pk N i 3) ((insQ N i (pk N i 3)) - 0)) (pk (pasN N) i 3)) + 0)) h107 (by omega) (by omega) rB rS rW rM rF (hfin) h107I (by omega)
  have K138 : ∀ (qB qS qW qM qF qN : Nat) (j : Int) (fB fS fW fM fF fN : Int → Int) (g : zHd), (∀ p : Int, 0 ≤ p → p < N 6 → fB p = pk N p 3) → (∀ p : Int, 0 ≤ p → p < N 6 → fS p = pk N p 2) → (∀ p : Int, 0 ≤ p → p < N 6 → fW p = pk N p 6) → (∀ p : Int, 0 ≤ p → p < N 6 → fM p = pk N p 4) → (∀ p : Int, 0 ≤ p → p < N 6 → fF p = fsV N p) → (∀ b : Int, 0 ≤ b → b < 25 → fN b = ins N b) → (obI N g) → zV X 6 225 ([aW Z qN 25 fN, aW Z qF 40 fF, aW Z qM 40 fM, aW Z qW 40 fW, aW Z qS 40 fS, aW Z qB 40 fB] ++ (obW Z ad N g ++ ([] : va_W))) 138 [(8, .int (iI j)), (7, .ref qN), (6, .ref qF), (5, .ref qM), (4, .ref qW), (3, .ref qS), (2, .ref qB), (1, .int (iI (N 6))), (0, .ref (obX ad))] [] := by
    intro qB qS qW qM qF qN j fB fS fW fM fF fN g rB rS rW rM rF rN gI
    refine z_aload_n ok dL_isTick_138 rfl ?_
    refine z_iconst ok dL_isTick_139 ?_
    refine o_count (v := N 3) ok gI hw (by decide) (v_c0) qm_RL_8 dL_isTick_140 (by decide) ⟨by decide, by decide⟩ (Nat.le_of_ble_eq_true rfl) (fun h1 h1I => ?_)
    refine z_istore (lv' := [(8, .int (iI (N 3))), (7, .ref qN), (6, .ref qF), (5, .ref qM), (4, .ref qW), (3, .ref qS), (2, .ref qB), (1, .int (iI (N 6))), (0, .ref (obX ad))]) ok dL_isTick_143 (by decide) rfl ?_
    refine z_aload_n ok dL_isTick_145 rfl ?_
    refine z_bipush ok dL_isTick_146 (by decide) ?_
    refine o_count (v := N 2) ok h1I hw (by decide) (v_c16) qm_RL_8 dL_isTick_148 (by decide) ⟨by decide, by decide⟩ (Nat.le_of_ble_eq_true rfl) (fun h2 h2I => ?_)
    refine z_istore (lv' := [(9, .int (iI (N 2))), (8, .int (iI (N 3))), (7, .ref qN), (6, .ref qF), (5, .ref qM), (4, .ref qW), (3, .ref qS), (2, .ref qB), (1, .int (iI (N 6))), (0, .ref (obX ad))]) ok dL_isTick_151 (by decide) rfl ?_
    refine z_aload_n ok dL_isTick_153 rfl ?_
    refine z_iconst ok dL_isTick_154 ?_
    refine o_ticks ok h2I hw (by decide) qm_RL_30 dL_isTick_155 (by decide) ⟨by decide, by decide⟩ (Nat.le_of_ble_eq_true rfl) (fun r5 N4 h3 h3I h3c => ?_)
    obtain ⟨q2, q3⟩ : r5 = N 3 + 1 ∧ N4 = pasN N := by rcases h3c with ⟨a, _, _⟩ | ⟨_, a, b⟩; exact absurd ⟨by decide, by decide⟩ a; exact ⟨a, b⟩
    rw [q3] at h3I
    rw [q2, q3]
    refine z_iload ok dL_isTick_158 rfl ?_
    refine z_iconst ok dL_isTick_160 ?_
    refine z_iadd ok dL_isTick_161 ?_
    refine z_icmp_eq (tgt := 167) ok dL_isTick_162 (by decide) (by omega) (by omega) (fun c162 => ?_) (fun c => (by omega : False).elim)
    refine z_iconst ok dL_isTick_167 ?_
    refine z_istore (lv' := [(10, .int (iI 0)), (9, .int (iI (N 2))), (8, .int (iI (N 3))), (7, .ref qN), (6, .ref qF), (5, .ref qM), (4, .ref qW), (3, .ref qS), (2, .ref qB), (1, .int (iI (N 6))), (0, .ref (obX ad))]) ok dL_isTick_168 (by decide) rfl ?_
    refine z_lsub ok (lv' := [(10, .int (iI 0)), (9, .int (iI (N 2))), (8, .int (iI (N 3))), (7, .ref qN), (6, .ref qF), (5, .ref qM), (4, .ref qW), (3, .ref qS), (2, .ref qB), (1, .int (iI (N 6))), (0, .ref (obX ad))]) [0, 1, 2, 3, 4, 5, 6, 7, 8, 9, 10] rfl ?_
    exact L170 qB qS qW qM qF qN _ 0 fB fS fW fM fF fN h3 (by decide) (by omega) rB rS rW rM rF rN h3I (Nat.lt_succ_self _)
  have L43 : ∀ (qB qS qW qM qF qN : Nat) (fuel : Nat) (i : Int) (fB fS fW fM fF fN : Int → Int) (g : zHd), (0 ≤ i) → (i ≤ N 6) → (∀ p : Int, 0 ≤ p → p < i → fB p = pk N p 3) → (∀ p : Int, 0 ≤ p → p < i → fS p = pk N p 2) → (∀ p : Int, 0 ≤ p → p < i → fW p = pk N p 6) → (∀ p : Int, 0 ≤ p → p < i → fM p = pk N p 4) → (∀ p : Int, 0 ≤ p → p < i → fF p = fsV N p) → (∀ b : Int, 0 ≤ b → b < 25 → fN b = zS (insf N b) i.toNat) → (obI N g) → (N 6 - i).toNat < fuel → zV X 6 225 ([aW Z qN 25 fN, aW Z qF 40 fF, aW Z qM 40 fM, aW Z qW 40 fW, aW Z qS 40 fS, aW Z qB 40 fB] ++ (obW Z ad N g ++ ([] : va_W))) 43 [(8, .int (iI i)), (7, .ref qN), (6, .ref qF), (5, .ref qM), (4, .ref qW), (3, .ref qS), (2, .ref qB), (1, .int (iI (N 6))), (0, .ref (obX ad))] [] := by
    intro qB qS qW qM qF qN fuel
    induction fuel with
    | zero => intro i fB fS fW fM fF fN g i0 i1 rB rS rW rM rF rN gI hf; exact absurd hf (Nat.not_lt_zero _)
    | succ fuel ih =>
      intro i fB fS fW fM fF fN g i0 i1 rB rS rW rM rF rN gI hf
      refine z_iload ok dL_isTick_43 rfl ?_
      refine z_iload_n ok dL_isTick_45 rfl ?_
      refine z_icmp_ge (tgt := 138) ok dL_isTick_46 (by decide) (by omega) (by omega) (fun c46 => ?_) (fun c46 => ?_)
      · -- t
        have ei : i = N 6 := by omega
        subst ei
        exact K138 qB qS qW qM qF qN _ fB fS fW fM fF fN g rB rS rW rM rF rN gI
      · -- f
        have hq : 0 ≤ i ∧ i < N 6 := ⟨i0, by omega⟩
        have wpp := hw.2.2.2.2.2.2.2 i hq.1 hq.2
        rcases (show pk N i 2 = 1 ∨ pk N i 2 ≠ 1 by omega) with c | c
        · -- 0
          have hz : (1 : Int) = zb (pk N i 2 = 1) := (zb_t c).symm
          refine z_aload ok dL_isTick_49 rfl ?_
          refine z_iload ok dL_isTick_51 rfl ?_
          refine z_aload_n ok dL_isTick_53 rfl ?_
          refine z_iload ok dL_isTick_54 rfl ?_
          refine z_bipush ok dL_isTick_56 (by decide) ?_
          refine o_ofPacket (v := fsV N i) ok gI hw (by omega) (by decide) (v_fs (hq)) qm_RL_14 dL_isTick_58 (by decide) ⟨by decide, by decide⟩ (Nat.le_of_ble_eq_true rfl) (fun h1 h1I => ?_)
          refine z_iast (f := fF) (v := fsV N i) (ws' := [aW Z qN 25 fN, aW Z qF 40 (zu fF i (fsV N i)), aW Z qM 40 fM, aW Z qW 40 fW, aW Z qS 40 fS, aW Z qB 40 fB] ++ (obW Z ad N h1 ++ ([] : va_W))) ok 1 rfl dL_isTick_61 (by omega) (by decide) rfl ?_
          refine z_aload_n ok dL_isTick_62 rfl ?_
          refine z_iload ok dL_isTick_63 rfl ?_
          refine z_aload_n ok dL_isTick_65 rfl ?_
          refine z_iload ok dL_isTick_66 rfl ?_
          refine z_iconst ok dL_isTick_68 ?_
          refine o_ofPacket (v := pk N i 3) ok h1I hw (by omega) (by decide) (v_pk (hq) (by decide)) qm_RL_14 dL_isTick_69 (by decide) ⟨by decide, by decide⟩ (Nat.le_of_ble_eq_true rfl) (fun h2 h2I => ?_)
          refine z_iast (f := fB) (v := pk N i 3) (ws' := [aW Z qN 25 fN, aW Z qF 40 (zu fF i (fsV N i)), aW Z qM 40 fM, aW Z qW 40 fW, aW Z qS 40 fS, aW Z qB 40 (zu fB i (pk N i 3))] ++ (obW Z ad N h2 ++ ([] : va_W))) ok 5 rfl dL_isTick_72 (by omega) (by decide) rfl ?_
          refine z_aload_n ok dL_isTick_73 rfl ?_
          refine z_iload ok dL_isTick_74 rfl ?_
          refine z_aload_n ok dL_isTick_76 rfl ?_
          refine z_iload ok dL_isTick_77 rfl ?_
          refine z_iconst ok dL_isTick_79 ?_
          refine o_ofPacket (v := pk N i 2) ok h2I hw (by omega) (by decide) (v_pk (hq) (by decide)) qm_RL_14 dL_isTick_80 (by decide) ⟨by decide, by decide⟩ (Nat.le_of_ble_eq_true rfl) (fun h3 h3I => ?_)
          refine z_iast (f := fS) (v := pk N i 2) (ws' := [aW Z qN 25 fN, aW Z qF 40 (zu fF i (fsV N i)), aW Z qM 40 fM, aW Z qW 40 fW, aW Z qS 40 (zu fS i (pk N i 2)), aW Z qB 40 (zu fB i (pk N i 3))] ++ (obW Z ad N h3 ++ ([] : va_W))) ok 4 rfl dL_isTick_83 (by omega) (by decide) rfl ?_
          refine z_aload ok dL_isTick_84 rfl ?_
          refine z_iload ok dL_isTick_86 rfl ?_
          refine z_aload_n ok dL_isTick_88 rfl ?_
          refine z_iload ok dL_isTick_89 rfl ?_
          refine z_bipush ok dL_isTick_91 (by decide) ?_
          refine o_ofPacket (v := pk N i 6) ok h3I hw (by omega) (by decide) (v_pk (hq) (by decide)) qm_RL_14 dL_isTick_93 (by decide) ⟨by decide, by decide⟩ (Nat.le_of_ble_eq_true rfl) (fun h4 h4I => ?_)
          refine z_iast (f := fW) (v := pk N i 6) (ws' := [aW Z qN 25 fN, aW Z qF 40 (zu fF i (fsV N i)), aW Z qM 40 fM, aW Z qW 40 (zu fW i (pk N i 6)), aW Z qS 40 (zu fS i (pk N i 2)), aW Z qB 40 (zu fB i (pk N i 3))] ++ (obW Z ad N h4 ++ ([] : va_W))) ok 3 rfl dL_isTick_96 (by omega) (by decide) rfl ?_
          refine z_aload ok dL_isTick_97 rfl ?_
          refine z_iload ok dL_isTick_99 rfl ?_
          refine z_aload_n ok dL_isTick_101 rfl ?_
          refine z_iload ok dL_isTick_102 rfl ?_
          refine z_iconst ok dL_isTick_104 ?_
          refine o_ofPacket (v := pk N i 4) ok h4I hw (by omega) (by decide) (v_pk (hq) (by decide)) qm_RL_14 dL_isTick_105 (by decide) ⟨by decide, by decide⟩ (Nat.le_of_ble_eq_true rfl) (fun h5 h5I => ?_)
          refine z_iast (f := fM) (v := pk N i 4) (ws' := [aW Z qN 25 fN, aW Z qF 40 (zu fF i (fsV N i)), aW Z qM 40 (zu fM i (pk N i 4)), aW Z qW 40 (zu fW i (pk N i 6)), aW Z qS 40 (zu fS i (pk N i 2)), aW Z qB 40 (zu fB i (pk N i 3))] ++ (obW Z ad N h5 ++ ([] : va_W))) ok 2 rfl dL_isTick_108 (by omega) (by decide) rfl ?_
          refine z_aload ok dL_isTick_109 rfl ?_
          refine z_aload_n ok dL_isTick_111 rfl ?_
          refine z_iload ok dL_isTick_112 rfl ?_
          refine z_iale (f := zu fB i (pk N i 3)) (v := pk N i 3) ok 5 rfl (zu_s) dL_isTick_114 (by omega) (by decide) ?_
          refine z_dup2 ok dL_isTick_115 rfl rfl ?_
          refine z_iale (f := fN) (v := fN (pk N i 3)) ok 0 rfl (rfl) dL_isTick_116 (by omega) (by decide) ?_
          refine z_aload_n ok dL_isTick_117 rfl ?_
          refine z_iload ok dL_isTick_118 rfl ?_
          refine z_iale (f := zu fS i (pk N i 2)) (v := pk N i 2) ok 4 rfl (zu_s) dL_isTick_120 (by omega) (by decide) ?_
          refine z_iconst ok dL_isTick_121 ?_
          refine z_icmp_ne (tgt := 129) ok dL_isTick_122 (by decide) (by omega) (by decide) (fun c => (by omega : False).elim) (fun c122 => ?_)
          refine z_iconst ok dL_isTick_125 ?_
          refine z_goto (tgt := 130) ok dL_isTick_126 (by decide) ?_
          refine z_iadd ok dL_isTick_130 ?_
          refine z_iast (f := fN) (v := (fN (pk N i 3)) + 1) (ws' := [aW Z qN 25 (zu fN (pk N i 3) ((fN (pk N i 3)) + 1)), aW Z qF 40 (zu fF i (fsV N i)), aW Z qM 40 (zu fM i (pk N i 4)), aW Z qW 40 (zu fW i (pk N i 6)), aW Z qS 40 (zu fS i (pk N i 2)), aW Z qB 40 (zu fB i (pk N i 3))] ++ (obW Z ad N h5 ++ ([] : va_W))) ok 0 rfl dL_isTick_131 (by omega) (by decide) rfl ?_
          refine z_iinc (lv' := [(8, .int (iI (i + 1))), (7, .ref qN), (6, .ref qF), (5, .ref qM), (4, .ref qW), (3, .ref qS), (2, .ref qB), (1, .int (iI (N 6))), (0, .ref (obX ad))]) ok dL_isTick_132 0 rfl (by decide) rfl ?_
          refine z_goto (tgt := 43) ok dL_isTick_135 (by decide) ?_
          refine z_lsub ok (lv' := [(8, .int (iI (i + 1))), (7, .ref qN), (6, .ref qF), (5, .ref qM), (4, .ref qW), (3, .ref qS), (2, .ref qB), (1, .int (iI (N 6))), (0, .ref (obX ad))]) [0, 1, 2, 3, 4, 5, 6, 7, 8] rfl ?_
          exact ih (i + 1) (zu fB i (pk N i 3)) (zu fS i (pk N i 2)) (zu fW i (pk N i 6)) (zu fM i (pk N i 4)) (zu fF i (fsV N i)) (zu fN (pk N i 3) ((fN (pk N i 3)) + 1)) h5 (by omega) (by omega) (zall_u rB rfl) (zall_u rS rfl) (zall_u rW rfl) (zall_u rM rfl) (zall_u rF rfl) (ins_inc i0 rN hz) h5I (by omega)
        · -- 1
          have hz : (0 : Int) = zb (pk N i 2 = 1) := (zb_f c).symm
          refine z_aload ok dL_isTick_49 rfl ?_
          refine z_iload ok dL_isTick_51 rfl ?_
          refine z_aload_n ok dL_isTick_53 rfl ?_
          refine z_iload ok dL_isTick_54 rfl ?_
          refine z_bipush ok dL_isTick_56 (by decide) ?_
          refine o_ofPacket (v := fsV N i) ok gI hw (by omega) (by decide) (v_fs (hq)) qm_RL_14 dL_isTick_58 (by decide) ⟨by decide, by decide⟩ (Nat.le_of_ble_eq_true rfl) (fun h6 h6I => ?_)
          refine z_iast (f := fF) (v := fsV N i) (ws' := [aW Z qN 25 fN, aW Z qF 40 (zu fF i (fsV N i)), aW Z qM 40 fM, aW Z qW 40 fW, aW Z qS 40 fS, aW Z qB 40 fB] ++ (obW Z ad N h6 ++ ([] : va_W))) ok 1 rfl dL_isTick_61 (by omega) (by decide) rfl ?_
          refine z_aload_n ok dL_isTick_62 rfl ?_
          refine z_iload ok dL_isTick_63 rfl ?_
          refine z_aload_n ok dL_isTick_65 rfl ?_
          refine z_iload ok dL_isTick_66 rfl ?_
          refine z_iconst ok dL_isTick_68 ?_
          refine o_ofPacket (v := pk N i 3) ok h6I hw (by omega) (by decide) (v_pk (hq) (by decide)) qm_RL_14 dL_isTick_69 (by decide) ⟨by decide, by decide⟩ (Nat.le_of_ble_eq_true rfl) (fun h7 h7I => ?_)
          refine z_iast (f := fB) (v := pk N i 3) (ws' := [aW Z qN 25 fN, aW Z qF 40 (zu fF i (fsV N i)), aW Z qM 40 fM, aW Z qW 40 fW, aW Z qS 40 fS, aW Z qB 40 (zu fB i (pk N i 3))] ++ (obW Z ad N h7 ++ ([] : va_W))) ok 5 rfl dL_isTick_72 (by omega) (by decide) rfl ?_
          refine z_aload_n ok dL_isTick_73 rfl ?_
          refine z_iload ok dL_isTick_74 rfl ?_
          refine z_aload_n ok dL_isTick_76 rfl ?_
          refine z_iload ok dL_isTick_77 rfl ?_
          refine z_iconst ok dL_isTick_79 ?_
          refine o_ofPacket (v := pk N i 2) ok h7I hw (by omega) (by decide) (v_pk (hq) (by decide)) qm_RL_14 dL_isTick_80 (by decide) ⟨by decide, by decide⟩ (Nat.le_of_ble_eq_true rfl) (fun h8 h8I => ?_)
          refine z_iast (f := fS) (v := pk N i 2) (ws' := [aW Z qN 25 fN, aW Z qF 40 (zu fF i (fsV N i)), aW Z qM 40 fM, aW Z qW 40 fW, aW Z qS 40 (zu fS i (pk N i 2)), aW Z qB 40 (zu fB i (pk N i 3))] ++ (obW Z ad N h8 ++ ([] : va_W))) ok 4 rfl dL_isTick_83 (by omega) (by decide) rfl ?_
          refine z_aload ok dL_isTick_84 rfl ?_
          refine z_iload ok dL_isTick_86 rfl ?_
          refine z_aload_n ok dL_isTick_88 rfl ?_
          refine z_iload ok dL_isTick_89 rfl ?_
          refine z_bipush ok dL_isTick_91 (by decide) ?_
          refine o_ofPacket (v := pk N i 6) ok h8I hw (by omega) (by decide) (v_pk (hq) (by decide)) qm_RL_14 dL_isTick_93 (by decide) ⟨by decide, by decide⟩ (Nat.le_of_ble_eq_true rfl) (fun h9 h9I => ?_)
          refine z_iast (f := fW) (v := pk N i 6) (ws' := [aW Z qN 25 fN, aW Z qF 40 (zu fF i (fsV N i)), aW Z qM 40 fM, aW Z qW 40 (zu fW i (pk N i 6)), aW Z qS 40 (zu fS i (pk N i 2)), aW Z qB 40 (zu fB i (pk N i 3))] ++ (obW Z ad N h9 ++ ([] : va_W))) ok 3 rfl dL_isTick_96 (by omega) (by decide) rfl ?_
          refine z_aload ok dL_isTick_97 rfl ?_
          refine z_iload ok dL_isTick_99 rfl ?_
          refine z_aload_n ok dL_isTick_101 rfl ?_
          refine z_iload ok dL_isTick_102 rfl ?_
          refine z_iconst ok dL_isTick_104 ?_
          refine o_ofPacket (v := pk N i 4) ok h9I hw (by omega) (by decide) (v_pk (hq) (by decide)) qm_RL_14 dL_isTick_105 (by decide) ⟨by decide, by decide⟩ (Nat.le_of_ble_eq_true rfl) (fun h10 h10I => ?_)
          refine z_iast (f := fM) (v := pk N i 4) (ws' := [aW Z qN 25 fN, aW Z qF 40 (zu fF i (fsV N i)), aW Z qM 40 (zu fM i (pk N i 4)), aW Z qW 40 (zu fW i (pk N i 6)), aW Z qS 40 (zu fS i (pk N i 2)), aW Z qB 40 (zu fB i (pk N i 3))] ++ (obW Z ad N h10 ++ ([] : va_W))) ok 2 rfl dL_isTick_108 (by omega) (by decide) rfl ?_
          refine z_aload ok dL_isTick_109 rfl ?_
          refine z_aload_n ok dL_isTick_111 rfl ?_
          refine z_iload ok dL_isTick_112 rfl ?_
          refine z_iale (f := zu fB i (pk N i 3)) (v := pk N i 3) ok 5 rfl (zu_s) dL_isTick_114 (by omega) (by decide) ?_
          refine z_dup2 ok dL_isTick_115 rfl rfl ?_
          refine z_iale (f := fN) (v := fN (pk N i 3)) ok 0 rfl (rfl) dL_isTick_116 (by omega) (by decide) ?_
          refine z_aload_n ok dL_isTick_117 rfl ?_
          refine z_iload ok dL_isTick_118 rfl ?_
          refine z_iale (f := zu fS i (pk N i 2)) (v := pk N i 2) ok 4 rfl (zu_s) dL_isTick_120 (by omega) (by decide) ?_
          refine z_iconst ok dL_isTick_121 ?_
          refine z_icmp_ne (tgt := 129) ok dL_isTick_122 (by decide) (by omega) (by decide) (fun c122 => ?_) (fun c => (by omega : False).elim)
          refine z_iconst ok dL_isTick_129 ?_
          refine z_iadd ok dL_isTick_130 ?_
          refine z_iast (f := fN) (v := (fN (pk N i 3)) + 0) (ws' := [aW Z qN 25 (zu fN (pk N i 3) ((fN (pk N i 3)) + 0)), aW Z qF 40 (zu fF i (fsV N i)), aW Z qM 40 (zu fM i (pk N i 4)), aW Z qW 40 (zu fW i (pk N i 6)), aW Z qS 40 (zu fS i (pk N i 2)), aW Z qB 40 (zu fB i (pk N i 3))] ++ (obW Z ad N h10 ++ ([] : va_W))) ok 0 rfl dL_isTick_131 (by omega) (by decide) rfl ?_
          refine z_iinc (lv' := [(8, .int (iI (i + 1))), (7, .ref qN), (6, .ref qF), (5, .ref qM), (4, .ref qW), (3, .ref qS), (2, .ref qB), (1, .int (iI (N 6))), (0, .ref (obX ad))]) ok dL_isTick_132 0 rfl (by decide) rfl ?_
          refine z_goto (tgt := 43) ok dL_isTick_135 (by decide) ?_
          refine z_lsub ok (lv' := [(8, .int (iI (i + 1))), (7, .ref qN), (6, .ref qF), (5, .ref qM), (4, .ref qW), (3, .ref qS), (2, .ref qB), (1, .int (iI (N 6))), (0, .ref (obX ad))]) [0, 1, 2, 3, 4, 5, 6, 7, 8] rfl ?_
          exact ih (i + 1) (zu fB i (pk N i 3)) (zu fS i (pk N i 2)) (zu fW i (pk N i 6)) (zu fM i (pk N i 4)) (zu fF i (fsV N i)) (zu fN (pk N i 3) ((fN (pk N i 3)) + 0)) h10 (by omega) (by omega) (zall_u rB rfl) (zall_u rS rfl) (zall_u rW rfl) (zall_u rM rfl) (zall_u rF rfl) (ins_inc i0 rN hz) h10I (by omega)
  refine z_lsub ok (lv' := [(0, .ref (obX ad))]) [0] rfl ?_
  refine z_eq (ws' := ([] : va_W) ++ (obW Z ad N h ++ ([] : va_W))) o_in ?_
  refine z_aload_n ok dL_isTick_0 rfl ?_
  refine z_iconst ok dL_isTick_1 ?_
  refine o_count (v := N 6) ok hI hw (by decide) (v_c3) qm_RL_8 dL_isTick_2 (by decide) ⟨by decide, by decide⟩ (Nat.le_of_ble_eq_true rfl) (fun h1 h1I => ?_)
  refine z_istore_n (lv' := [(1, .int (iI (N 6))), (0, .ref (obX ad))]) ok dL_isTick_5 (by decide) rfl ?_
  refine z_bipush ok dL_isTick_6 (by decide) ?_
  refine z_newai ok 40 qa__int dL_isTick_8 rfl (by decide) (by decide) (by decide) (fun _ => rfl) (fun q2 => ?_)
  refine z_perm (ws' := [aW Z q2 40 (fun _ => 0)] ++ (obW Z ad N h1 ++ ([] : va_W))) List.perm_append_comm ?_
  refine z_astore_n (lv' := [(2, .ref q2), (1, .int (iI (N 6))), (0, .ref (obX ad))]) ok dL_isTick_10 (by decide) rfl ?_
  refine z_bipush ok dL_isTick_11 (by decide) ?_
  refine z_newai ok 40 qa__int dL_isTick_13 rfl (by decide) (by decide) (by decide) (fun _ => rfl) (fun q3 => ?_)
  refine z_perm (ws' := [aW Z q3 40 (fun _ => 0), aW Z q2 40 (fun _ => 0)] ++ (obW Z ad N h1 ++ ([] : va_W))) List.perm_append_comm ?_
  refine z_astore_n (lv' := [(3, .ref q3), (2, .ref q2), (1, .int (iI (N 6))), (0, .ref (obX ad))]) ok dL_isTick_15 (by decide) rfl ?_
  refine z_bipush ok dL_isTick_16 (by decide) ?_
  refine z_newai ok 40 qa__int dL_isTick_18 rfl (by decide) (by decide) (by decide) (fun _ => rfl) (fun q4 => ?_)
  refine z_perm (ws' := [aW Z q4 40 (fun _ => 0), aW Z q3 40 (fun _ => 0), aW Z q2 40 (fun _ => 0)] ++ (obW Z ad N h1 ++ ([] : va_W))) List.perm_append_comm ?_
  refine z_astore (lv' := [(4, .ref q4), (3, .ref q3), (2, .ref q2), (1, .int (iI (N 6))), (0, .ref (obX ad))]) ok dL_isTick_20 (by decide) rfl ?_
  refine z_bipush ok dL_isTick_22 (by decide) ?_
  refine z_newai ok 40 qa__int dL_isTick_24 rfl (by decide) (by decide) (by decide) (fun _ => rfl) (fun q5 => ?_)
  refine z_perm (ws' := [aW Z q5 40 (fun _ => 0), aW Z q4 40 (fun _ => 0), aW Z q3 40 (fun _ => 0), aW Z q2 40 (fun _ => 0)] ++ (obW Z ad N h1 ++ ([] : va_W))) List.perm_append_comm ?_
  refine z_astore (lv' := [(5, .ref q5), (4, .ref q4), (3, .ref q3), (2, .ref q2), (1, .int (iI (N 6))), (0, .ref (obX ad))]) ok dL_isTick_26 (by decide) rfl ?_
  refine z_bipush ok dL_isTick_28 (by decide) ?_
  refine z_newai ok 40 qa__int dL_isTick_30 rfl (by decide) (by decide) (by decide) (fun _ => rfl) (fun q6 => ?_)
  refine z_perm (ws' := [aW Z q6 40 (fun _ => 0), aW Z q5 40 (fun _ => 0), aW Z q4 40 (fun _ => 0), aW Z q3 40 (fun _ => 0), aW Z q2 40 (fun _ => 0)] ++ (obW Z ad N h1 ++ ([] : va_W))) List.perm_append_comm ?_
  refine z_astore (lv' := [(6, .ref q6), (5, .ref q5), (4, .ref q4), (3, .ref q3), (2, .ref q2), (1, .int (iI (N 6))), (0, .ref (obX ad))]) ok dL_isTick_32 (by decide) rfl ?_
  refine z_bipush ok dL_isTick_34 (by decide) ?_
  refine z_newai ok 25 qa__int dL_isTick_36 rfl (by decide) (by decide) (by decide) (fun _ => rfl) (fun q7 => ?_)
  refine z_perm (ws' := [aW Z q7 25 (fun _ => 0), aW Z q6 40 (fun _ => 0), aW Z q5 40 (fun _ => 0), aW Z q4 40 (fun _ => 0), aW Z q3 40 (fun _ => 0), aW Z q2 40 (fun _ => 0)] ++ (obW Z ad N h1 ++ ([] : va_W))) List.perm_append_comm ?_
  refine z_astore (lv' := [(7, .ref q7), (6, .ref q6), (5, .ref q5), (4, .ref q4), (3, .ref q3), (2, .ref q2), (1, .int (iI (N 6))), (0, .ref (obX ad))]) ok dL_isTick_38 (by decide) rfl ?_
  refine z_iconst ok dL_isTick_40 ?_
  refine z_istore (lv' := [(8, .int (iI 0)), (7, .ref q7), (6, .ref q6), (5, .ref q5), (4, .ref q4), (3, .ref q3), (2, .ref q2), (1, .int (iI (N 6))), (0, .ref (obX ad))]) ok dL_isTick_41 (by decide) rfl ?_
  refine z_lsub ok (lv' := [(8, .int (iI 0)), (7, .ref q7), (6, .ref q6), (5, .ref q5), (4, .ref q4), (3, .ref q3), (2, .ref q2), (1, .int (iI (N 6))), (0, .ref (obX ad))]) [0, 1, 2, 3, 4, 5, 6, 7, 8] rfl ?_
  exact L43 q2 q3 q4 q5 q6 q7 _ 0 (fun _ => 0) (fun _ => 0) (fun _ => 0) (fun _ => 0) (fun _ => 0) (fun _ => 0) h1 (by decide) (by omega) (fun p p0 p1 => absurd p1 (by omega)) (fun p p0 p1 => absurd p1 (by omega)) (fun p p0 p1 => absurd p1 (by omega)) (fun p p0 p1 => absurd p1 (by omega)) (fun p p0 p1 => absurd p1 (by omega)) (fun b b0 b1 => rfl) h1I (Nat.lt_succ_self _)
