/-! what each told number is -/
theorem v_pk {N : Int → Int} {p w : Int} (hp : 0 ≤ p ∧ p < N 6) (hw : 0 ≤ w ∧ w ≤ 9) : opR N p w = pk N p w := by
  unfold opR
  rw [zif_t hp, if_neg (by omega), if_neg (by omega), if_neg (by omega), if_pos hw]
noncomputable def frP (N : Int → Int) (p : Int) : Int := fr N (pk N p 1) (stg N p)
noncomputable def fsV (N : Int → Int) (p : Int) : Int := if pk N p 2 = 2 then -6 else fsN N p
theorem v_fr {N : Int → Int} {p : Int} (hp : 0 ≤ p ∧ p < N 6) : opR N p 10 = frP N p := by
  unfold opR
  rw [zif_t hp, if_pos rfl]; rfl
theorem v_fs {N : Int → Int} {p : Int} (hp : 0 ≤ p ∧ p < N 6) : opR N p 11 = fsV N p := by
  unfold opR
  rw [zif_t hp, if_neg (by decide), if_pos rfl]; rfl
theorem v_sk {N : Int → Int} {p : Int} (hp : 0 ≤ p ∧ p < N 6) : opR N p 12 = zb (stk N p) := by
  unfold opR
  rw [zif_t hp, if_neg (by decide), if_neg (by decide), if_pos rfl]
noncomputable def lkV (N : Int → Int) (b d : Int) : Int := if nb N b d < 0 then -6 else zb (opn N b d)
theorem v_b0 {N : Int → Int} {b : Int} (hb : isB N b) : obR N b 0 = cnt N b 1 := by
  unfold obR
  rw [zif_t hb, if_neg (by decide), if_neg (by decide), if_pos rfl]
theorem v_b1 {N : Int → Int} {b : Int} (hb : isB N b) : obR N b 1 = cnt N b 0 := by
  unfold obR
  rw [zif_t hb, if_neg (by decide), if_neg (by decide), if_neg (by decide), if_pos rfl]
theorem v_b2 {N : Int → Int} {b : Int} (hb : isB N b) : obR N b 2 = cnt N b 2 := by
  unfold obR
  rw [zif_t hb, if_neg (by decide), if_neg (by decide), if_neg (by decide), if_neg (by decide), if_pos rfl]
theorem v_bl {N : Int → Int} {b d w : Int} (hb : isB N b) (hd : 0 ≤ d ∧ d ≤ 3) (hw : w = 3 + d) : obR N b w = lkV N b d := by
  unfold obR lkV
  rw [zif_t hb, if_pos (by omega), show w - 3 = d by omega]
theorem v_bm {N : Int → Int} {b d w : Int} (hb : isB N b) (hd : 0 ≤ d ∧ d ≤ 3) (hw : w = 7 + d) : obR N b w = N (60 + 4 * b + d) := by
  unfold obR
  rw [zif_t hb, if_neg (by omega), if_pos (by omega), show 60 + 4 * b + w - 7 = 60 + 4 * b + d by omega]
theorem v_c0 {N : Int → Int} : ∀ u sg : Int, coR N u sg 0 = N 3 := fun u sg => by unfold coR; simp
theorem v_c1 {N : Int → Int} : ∀ u sg : Int, coR N u sg 1 = N 4 * N 5 := fun u sg => by unfold coR; simp
theorem v_c2 {N : Int → Int} : ∀ u sg : Int, coR N u sg 2 = N 4 := fun u sg => by unfold coR; simp
theorem v_c3 {N : Int → Int} : ∀ u sg : Int, coR N u sg 3 = N 6 := fun u sg => by unfold coR; simp
theorem v_c4 {N : Int → Int} : ∀ u sg : Int, coR N u sg 4 = cnt N (-6) 0 := fun u sg => by unfold coR; simp
theorem v_c5 {N : Int → Int} : ∀ u sg : Int, coR N u sg 5 = cnt N (-6) 1 := fun u sg => by unfold coR; simp
theorem v_c6 {N : Int → Int} : ∀ u sg : Int, coR N u sg 6 = cnt N (-6) 2 := fun u sg => by unfold coR; simp
theorem v_c7 {N : Int → Int} : ∀ u sg : Int, coR N u sg 7 = sumOf N 4 := fun u sg => by unfold coR; simp
theorem v_c8 {N : Int → Int} : ∀ u sg : Int, coR N u sg 8 = sumOf N 5 := fun u sg => by unfold coR; simp
theorem v_c9 {N : Int → Int} : ∀ u sg : Int, coR N u sg 9 = sumOf N 6 := fun u sg => by unfold coR; simp
theorem v_c10 {N : Int → Int} : ∀ u sg : Int, coR N u sg 10 = stkC N := fun u sg => by unfold coR; simp
theorem v_c11 {N : Int → Int} : ∀ u sg : Int, coR N u sg 11 = brokenOf N := fun u sg => by unfold coR; simp
theorem v_c14 {N : Int → Int} : ∀ u sg : Int, coR N u sg 14 = N 0 := fun u sg => by unfold coR; simp
theorem v_c15 {N : Int → Int} : ∀ u sg : Int, coR N u sg 15 = N 1 := fun u sg => by unfold coR; simp
theorem v_c16 {N : Int → Int} : ∀ u sg : Int, coR N u sg 16 = N 2 := fun u sg => by unfold coR; simp
theorem v_cs {N : Int → Int} {i w : Int} (hi : 0 ≤ i ∧ i ≤ 2) (hw : w = 14 + i) : ∀ u sg : Int, coR N u sg w = N i := fun u sg => by
  unfold coR
  rw [if_neg (by omega), if_neg (by omega), if_pos (by omega), show w - 14 = i by omega]
theorem v_lw {N : Int → Int} {a b : Int} (ha : isB N a) (hb : isB N b) : lwR N a b = fr N b (10 * a) := by unfold lwR; exact zif_t ⟨ha, hb⟩
theorem v_wy {N : Int → Int} {a b : Int} (ha : isB N a) (hb : isB N b) : wyR N a b = mn N b (10 * a) := by unfold wyR; exact zif_t ⟨ha, hb⟩
/-- cells that are forgotten -/
theorem z_drop {X : zX} {k n : Nat} {wa wr : va_W} {pc : Nat} {lv : List (Nat × Value)} {st : List Value} (h : zV X k n wr pc lv st) : zV X k n (wa ++ wr) pc lv st := by
  obtain ⟨p, l, e', R, s, m, args, below, meth, c, Q, Z, A, H0⟩ := X
  intro H locs ls hP hD hS hlv
  refine h H locs ls (fun i q hq => hP (wa.length + i) q (by rw [List.getElem?_append_right (by omega)]; rw [Nat.add_sub_cancel_left]; exact hq)) ?_ hS hlv
  rw [zD_nodup] at hD ⊢
  have h1 := hD.1
  rw [List.map_append, List.nodup_append] at h1
  exact ⟨h1.2.1, fun q hq => hD.2 q (List.mem_append_right _ hq)⟩
abbrev aW (Z : zZ) (a n : Nat) (f : Int → Int) : Nat × va_E := (a, .inl (Z.2.1, n, .inl (fun j : Nat => iI (f j))))
