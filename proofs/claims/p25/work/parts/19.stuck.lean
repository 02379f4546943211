/-! stuck packets: the greatest set of packets that wait for each other -/
def frq (N : Int → Int) (S : Int → Prop) (p d : Int) : Prop := rmP N p d ∨ ∃ x : Int, 0 ≤ x ∧ x < N 6 ∧ pk N x 2 = 1 ∧ pk N x 3 = nb N (pk N p 3) d ∧ ¬ S x
def free (N : Int → Int) (S : Int → Prop) (p : Int) : Prop := ∃ d : Int, 0 ≤ d ∧ d < 4 ∧ pss N (pk N p 1) (stg N p) d ∧ frq N S p d
def closed (N : Int → Int) (S : Int → Prop) : Prop := ∀ p : Int, S p → 0 ≤ p ∧ p < N 6 ∧ pk N p 2 = 1 ∧ ¬ free N S p
def stk (N : Int → Int) (p : Int) : Prop := ∃ S : Int → Prop, closed N S ∧ S p
def stS (N sk : Int → Int) : Int → Prop := fun p => 0 ≤ p ∧ p < N 6 ∧ sk p = 1
noncomputable def stkC (N : Int → Int) : Int := zS (fun p => zb (stk N p)) (N 6).toNat
theorem free_mono {N : Int → Int} {S T : Int → Prop} {p : Int} (h : ∀ x, T x → S x) (hf : free N S p) : free N T p := by
  obtain ⟨d, h0, h1, h2, h3⟩ := hf
  refine ⟨d, h0, h1, h2, ?_⟩
  rcases h3 with h3 | ⟨x, a, b, c, e, g⟩
  · exact Or.inl h3
  · exact Or.inr ⟨x, a, b, c, e, fun z => g (h x z)⟩
theorem stk_rng {N : Int → Int} {p : Int} (h : stk N p) : 0 ≤ p ∧ p < N 6 ∧ pk N p 2 = 1 := by
  obtain ⟨S, h1, h2⟩ := h
  have := h1 p h2
  exact ⟨this.1, this.2.1, this.2.2.1⟩
/-- a free one is in no such set -/
theorem stk_free {N sk : Int → Int} {p : Int} (hB : ∀ x : Int, stk N x → sk x = 1) (hf : free N (stS N sk) p) : ¬ stk N p := by
  intro ⟨S, h1, h2⟩
  have h3 : ∀ x, S x → stS N sk x := fun x hx => ⟨(h1 x hx).1, (h1 x hx).2.1, hB x ⟨S, h1, hx⟩⟩
  exact (h1 p h2).2.2.2 (free_mono h3 hf)
theorem zS_zu {f : Int → Int} {i v : Int} : ∀ {n : Nat}, 0 ≤ i → i < (n : Int) → zS (zu f i v) n = zS f n - f i + v
  | 0, h0, h1 => absurd h1 (by omega)
  | n + 1, h0, h1 => by
    show zS (zu f i v) n + zu f i v n = zS f n + f n - f i + v
    by_cases e : i = (n : Int)
    · subst e
      rw [zu_s]
      have : zS (zu f (n : Int) v) n = zS f n := zS_cong (fun k _ hk => zu_n (by omega))
      omega
    · rw [zS_zu (n := n) h0 (by omega), zu_n (by omega)]
      omega
theorem zall_zu {g sk : Int → Int} {i v : Int} (h : ∀ j : Int, 0 ≤ j → j < i → sk j = g j) (hv : v = g i) : ∀ j : Int, 0 ≤ j → j < i + 1 → zu sk i v j = g j := by
  intro j h0 h1
  by_cases e : j = i
  · subst e; rw [zu_s]; exact hv
  · rw [zu_n e]; exact h j h0 (by omega)
theorem zu01 {sk : Int → Int} {i : Int} (h : ∀ x : Int, 0 ≤ x → x < 40 → sk x = 0 ∨ sk x = 1) : ∀ x : Int, 0 ≤ x → x < 40 → zu sk i 0 x = 0 ∨ zu sk i 0 x = 1 := by
  intro x h0 h1
  by_cases e : x = i
  · subst e; rw [zu_s]; exact Or.inl rfl
  · rw [zu_n e]; exact h x h0 h1
theorem zu0_1 {sk : Int → Int} {i x : Int} (h : zu sk i 0 x = 1) : sk x = 1 := by
  by_cases e : x = i
  · subst e; rw [zu_s] at h; omega
  · rw [zu_n e] at h; exact h
