/-! what the calls change, over one row -/
def okS (a b : Int) : Prop := (a = 0 ∧ 0 ≤ b ∧ b ≤ 1) ∨ (a = 1 ∧ 0 ≤ b ∧ b ≤ 4) ∨ (a = 2 ∧ 1 ≤ b ∧ b ≤ 4)
def okL (a b : Int) : Prop := (2 ≤ a ∧ a ≤ 5) ∧ (2 ≤ b ∧ b ≤ 5)
def mshN (N : Int → Int) (c r : Int) : Int → Int := zcp (zu (zu N 4 c) 5 r) (fun _ => 0) 10 50
def clrN (N : Int → Int) (p : Int) : Int → Int := zcp N (fun _ => 0) (160 + 10 * p) 10
def sndN (N : Int → Int) (a b : Int) : Int → Int := bk (bk (bk (bk (bk (clrN (zu N 6 (N 6 + 1)) (N 6)) (N 6) 0 a) (N 6) 1 b) (N 6) 3 a) (N 6) 7 (N 3)) (N 6) 8 (-6)
def badK (N : Int → Int) (b d : Int) : Prop := ¬ isB N b ∨ (0 ≤ d ∧ d ≤ 3 ∧ nb N b d < 0)
theorem wf_lk {N : Int → Int} {i v : Int} (hw : wf N) (hi : 10 ≤ i ∧ i < 60) (hv : 0 ≤ v ∧ v ≤ 1) : wf (zu N i v) := by
  obtain ⟨w0, w1, w2, hc, hr, w6, wl, wp⟩ := hw
  have lo : ∀ k : Int, k ≠ i → zu N i v k = N k := fun k hk => zu_n hk
  have pkx : ∀ x j : Int, 0 ≤ x → 0 ≤ j → pk (zu N i v) x j = pk N x j := fun x j hx hj => zu_n (by omega)
  unfold wf
  rw [lo 0 (by omega), lo 1 (by omega), lo 2 (by omega), lo 4 (by omega), lo 5 (by omega), lo 6 (by omega)]
  refine ⟨w0, w1, w2, hc, hr, w6, fun k h1 h2 => ?_, fun x h1 h2 => ?_⟩
  · by_cases e : k = i
    · subst e; rw [zu_s]; exact hv
    · rw [zu_n e]; exact wl k h1 h2
  · have hx := wp x h1 h2
    rw [pkx x 0 h1 (by omega), pkx x 1 h1 (by omega), pkx x 2 h1 (by omega), pkx x 3 h1 (by omega), pkx x 5 h1 (by omega), pkx x 9 h1 (by omega)]
    exact hx
theorem zu_id {f : Int → Int} {i v : Int} (h : f i = v) : zu f i v = f := by
  funext j
  unfold zu
  split
  · rename_i e; rw [e, h]
  · rfl
/-- the first k up to n for which Q holds; -6: none -/
noncomputable def fsk (Q : Int → Prop) (n : Int) : Int := @dite Int (∃ k, 0 ≤ k ∧ k ≤ n ∧ Q k ∧ ∀ j, 0 ≤ j → j < k → ¬ Q j) (Classical.propDecidable _) (fun h => Classical.choose h) (fun _ => -6)
theorem fsk_yes {Q : Int → Prop} {n k : Int} (h0 : 0 ≤ k) (h1 : k ≤ n) (h2 : Q k) (h3 : ∀ j, 0 ≤ j → j < k → ¬ Q j) : fsk Q n = k := by
  have hx : ∃ k, 0 ≤ k ∧ k ≤ n ∧ Q k ∧ ∀ j, 0 ≤ j → j < k → ¬ Q j := ⟨k, h0, h1, h2, h3⟩
  have e : fsk Q n = Classical.choose hx := dif_pos hx
  have s := Classical.choose_spec hx
  rw [e]
  rcases Int.lt_trichotomy (Classical.choose hx) k with q | q | q
  · exact absurd s.2.2.1 (h3 _ s.1 q)
  · exact q
  · exact absurd h2 (s.2.2.2 k h0 q)
theorem fsk_no {Q : Int → Prop} {n : Int} (h : ∀ j, 0 ≤ j → j ≤ n → ¬ Q j) : fsk Q n = -6 := dif_neg (fun ⟨k, h0, h1, h2, _⟩ => h k h0 h1 h2)
def arQ (N : Int → Int) (p : Int) : Int → Prop := fun k => pk (tkN N k.toNat) p 2 = 2
noncomputable def arR (N : Int → Int) (p : Int) : Int := zif (0 ≤ p ∧ p < N 6) (fsk (arQ N p) 300) (-1)
/-- the same cells, where two rows agree within a length -/
theorem zP_ext {Z : va_G} {ws : va_W} {H : Heap} {q0 b n : Nat} {cA : ClassId} {f g : Nat → Int32} (he : ws[q0]? = some (b, .inl (cA, n, .inl f))) (hfg : ∀ j, j < n → f j = g j) (h : va_P Z vwCl ws H) : va_P Z vwCl (ws.set q0 (b, .inl (cA, n, .inl g))) H := by
  intro i x hx
  rw [List.getElem?_set] at hx
  split at hx
  · rename_i e
    subst e
    split at hx
    · cases hx
      have h1 := h q0 _ he
      have e2 : vp_cell cA (n, .inl g) = vp_cell cA (n, .inl f) := by
        rw [vp_cell_i, vp_cell_i]
        unfold arrV
        congr 1
        apply Array.ext
        · simp
        · intro i h1 h2
          simp only [Array.getElem_ofFn]
          rw [hfg i (by simpa using h1)]
      show H[b]? = some (vp_cell cA (n, .inl g))
      rw [e2]
      exact h1
    · cases hx
  · exact h i x hx
theorem z_ext {X : zX} {Z : zZ} {R : Room} {cc : ByteArray} {own : String} {nL k n : Nat} {ws ws' : va_W} {pc : Nat} {lv : List (Nat × Value)} {st : List Value} (ok : zOK X Z R cc own nL) (q0 : Nat) {b len : Nat} {cA : ClassId} {f g : Int → Int} (he : ws[q0]? = some (b, .inl (cA, len, .inl (fun j : Nat => iI (f j))))) (hfg : ∀ j : Int, 0 ≤ j → j < (len : Int) → f j = g j) (hw : ws.set q0 (b, .inl (cA, len, .inl (fun j : Nat => iI (g j)))) = ws') (h : zV X k n ws' pc lv st) : zV X k n ws pc lv st := by
  obtain ⟨p, l, e', R, s, m, args, below, meth, c, Q, Z, A, H0⟩ := X
  intro H locs ls hP hD hS hl
  subst hw
  exact h H locs ls (zP_ext he (fun j hj => by rw [hfg j (by omega) (by omega)]) hP) (va_D.set hD he) hS hl
noncomputable def sndE (N : Int → Int) (a b : Int) : Int := zif (isB N a ∧ isB N b ∧ a ≠ b) (zif (N 6 = 40) (-4) (zif (fr N b (10 * a) < 0) (-5) 0)) (-1)
theorem snd_lo {N : Int → Int} {a b k : Int} (h6 : 0 ≤ N 6) (hk : k < 160) (hk6 : k ≠ 6) : sndN N a b k = N k := by
  unfold sndN clrN
  rw [bk_lo h6 (by omega) hk, bk_lo h6 (by omega) hk, bk_lo h6 (by omega) hk, bk_lo h6 (by omega) hk, bk_lo h6 (by omega) hk, zcp_out (by omega), zu_n hk6]
theorem snd_same {N : Int → Int} {a b : Int} (h6 : 0 ≤ N 6) : same N (sndN N a b) := fun k _ h1 _ _ h6' => snd_lo h6 (by omega) h6'
