/-! what routes hold once they are learned -/
def opF (N : Int → Int) (bx sd : Int) (o : Int → Int) : Prop := ∀ b d : Int, 0 ≤ b → 0 ≤ d → d ≤ 3 → (b < bx ∨ (b = bx ∧ d < sd)) → o (b * 4 + d) = oq N b d
theorem opF_0 {N o : Int → Int} : opF N 0 0 o := fun b d h0 h1 _ h => absurd h (by omega)
theorem opF_up {N o : Int → Int} {bx sd : Int} (hs : 4 ≤ sd) (h : opF N bx sd o) : opF N (bx + 1) 0 o := fun b d h0 h1 h2 h3 => h b d h0 h1 h2 (by omega)
theorem opF_st {N o : Int → Int} {bx sd v : Int} (h : opF N bx sd o) (hv : v = oq N bx sd) (hb : 0 ≤ bx) (hs : 0 ≤ sd ∧ sd ≤ 3) : opF N bx (sd + 1) (zu o (bx * 4 + sd) v) := by
  intro b d h0 h1 h2 h3
  by_cases e : b = bx ∧ d = sd
  · obtain ⟨rfl, rfl⟩ := e
    rw [zu_s]; exact hv
  · rw [zu_n (by omega)]
    exact h b d h0 h1 h2 (by omega)
theorem opF_all {N o : Int → Int} (h : opF N (N 4 * N 5) 0 o) : ∀ b d : Int, 0 ≤ b → b < N 4 * N 5 → 0 ≤ d → d ≤ 3 → o (b * 4 + d) = oq N b d := fun b d h0 h1 h2 h3 => h b d h0 h2 h3 (Or.inl h1)
theorem oq_f {N : Int → Int} {b d : Int} (h : ¬ opn N b d) : -1 = oq N b d := (zif_f h).symm
theorem oq_t {N : Int → Int} {b d : Int} (h : opn N b d) : nb N b d = oq N b d := (zif_t h).symm
def rOK (N : Int → Int) (ef : Int) (op ln : Int → Int) : Prop := opK N ef op ∧ ∀ t x : Int, 0 ≤ t → t < N 4 * N 5 → vsp N x → lqo N t x (ln (t * 50 + x))
theorem lqo_u {N : Int → Int} {to x v v' : Int} (h : lqo N to x v) (h' : lqo N to x v') : v = v' := by
  rcases h with ⟨a1, a2⟩ | ⟨m, a1, a2, a3, a4⟩ <;> rcases h' with ⟨b1, b2⟩ | ⟨k, b1, b2, b3, b4⟩
  · omega
  · have := a2 k; omega
  · have := b2 m; omega
  · rcases Nat.lt_trichotomy m k with h | h | h
    · have := b4 m h; omega
    · omega
    · have := a4 k h; omega
