/-! the reference's tables, level by level -/
def cacheOK (N laid far many : Int → Int) : Prop := ∀ t : Int, 0 ≤ t → t < 25 → (laid t = 0 ∨ laid t = 1) ∧ (laid t = 1 → ∀ s : Int, 0 ≤ s ∧ s < 10 * (N 4 * N 5) → ldn N t s (far (250 * t + s)) (many (250 * t + s)))
theorem lst1_t {N : Int → Int} {to s : Int} (h : s / 10 = to) : lst N to 1 s 0 1 := by
  have e : wk N to 0 s = 1 := by rw [wk, if_pos h]
  exact Or.inl ⟨0, by omega, ⟨by rw [e]; decide, fun j hj => absurd hj (Nat.not_lt_zero j)⟩, rfl, e.symm⟩
theorem lst1_f {N : Int → Int} {to s : Int} (h : ¬ s / 10 = to) : lst N to 1 s (-6) 0 := by
  refine Or.inr ⟨fun k hk => ?_, rfl, rfl⟩
  have : k = 0 := by omega
  subst this
  rw [wk, if_neg h]
theorem lst_rng {N : Int → Int} {to s v w : Int} {L : Nat} (hw : wf N) (ht : 0 ≤ to ∧ to < N 4 * N 5) (hs : 0 ≤ s ∧ s < 10 * (N 4 * N 5)) (h : lst N to L s v w) : (v = -6 ∨ 0 ≤ v) ∧ v < L + 1 ∧ 0 ≤ w ∧ w ≤ 1073741824 := by
  rcases h with ⟨k, h1, h2, h3, h4⟩ | ⟨h1, h2, h3⟩
  · have := wk_rng hw ht k hs
    omega
  · omega
theorem lst_up {N : Int → Int} {to s v w : Int} {L : Nat} (h : lst N to (L + 1) s v w) (hv : ¬ v = -6) : lst N to (L + 2) s v w ∧ ¬ frst N to s (L + 1) := by
  rcases h with ⟨k, h1, h2, h3, h4⟩ | ⟨h1, h2, h3⟩
  · exact ⟨Or.inl ⟨k, by omega, h2, h3, h4⟩, fun z => by have := frst_u h2 z; omega⟩
  · exact absurd h2 hv
theorem lst_m6 {N : Int → Int} {to s v w : Int} {L : Nat} (h : lst N to L s v w) (hv : v = -6) : (∀ k : Nat, k < L → wk N to k s = 0) ∧ w = 0 := by
  rcases h with ⟨k, h1, h2, h3, h4⟩ | ⟨h1, h2, h3⟩
  · omega
  · exact ⟨h1, h3⟩
theorem lst_no {N : Int → Int} {to s v w x : Int} {L : Nat} (h : lst N to (L + 1) s v w) (hv : v = -6) (hx : x = wk N to (L + 1) s) (h0 : x ≤ 0) : lst N to (L + 2) s v w ∧ ¬ frst N to s (L + 1) := by
  obtain ⟨h1, h2⟩ := lst_m6 h hv
  have h3 := wk_nn N to (L + 1) s
  refine ⟨Or.inr ⟨fun k hk => ?_, hv, h2⟩, fun z => by have := z.1; omega⟩
  by_cases e : k = L + 1
  · subst e; omega
  · exact h1 k (by omega)
theorem lst_yes {N : Int → Int} {to s v w x : Int} {L : Nat} (hw : wf N) (ht : 0 ≤ to ∧ to < N 4 * N 5) (hs : 0 ≤ s ∧ s < 10 * (N 4 * N 5)) (h : lst N to (L + 1) s v w) (hv : v = -6) (hx : x = wk N to (L + 1) s) (h0 : 0 < x) : lst N to (L + 2) s ((L : Int) + 1) x ∧ L + 1 ≤ 16 := by
  obtain ⟨h1, h2⟩ := lst_m6 h hv
  refine ⟨Or.inl ⟨L + 1, by omega, ⟨by omega, fun j hj => h1 j hj⟩, by omega, hx⟩, ?_⟩
  rcases Nat.lt_or_ge 16 (L + 1) with q | q
  · rw [wk_16 hw ht hs q] at hx; omega
  · exact q
theorem mvd_rng {N : Int → Int} {s d to : Int} (hw : wf N) (hs : 0 ≤ s ∧ s < 10 * (N 4 * N 5)) (hd : 0 ≤ d ∧ d ≤ 3) : mvd N s d to = -6 ∨ (0 ≤ mvd N s d to ∧ mvd N s d to < 10 * (N 4 * N 5)) := by
  by_cases hk : okm N s d to
  · have hnb := hk.1.1
    have h : 0 ≤ mvd N s d to := by
      unfold mvd
      rw [zif_t hk]
      unfold nxt
      have hz := zb_rng (dtr N (s / 10) (nb N (s / 10) d) to)
      split <;> omega
    exact Or.inr (mvd_spec hw hs hd h).2.2.2.2.2
  · unfold mvd
    exact Or.inl (zif_f hk)
theorem lay_A {P : Int → Int → Int → Prop} {f m : Int → Int} {F i : Int} (h : ∀ s : Int, 0 ≤ s → s < i → P s (f (F + s)) (m (F + s))) (hn : P i (f (F + i)) (m (F + i))) : ∀ s : Int, 0 ≤ s → s < i + 1 → P s (f (F + s)) (m (F + s)) := by
  intro s h0 h1
  by_cases e : s = i
  · subst e; exact hn
  · exact h s h0 (by omega)
theorem lay_C {P : Int → Int → Int → Prop} {f m : Int → Int} {F i v w : Int} (h : ∀ s : Int, 0 ≤ s → s < i → P s (f (F + s)) (m (F + s))) (hn : P i v w) : ∀ s : Int, 0 ≤ s → s < i + 1 → P s (zu f (F + i) v (F + s)) (zu m (F + i) w (F + s)) := by
  intro s h0 h1
  by_cases e : s = i
  · subst e; rw [zu_s, zu_s]; exact hn
  · rw [zu_n (by omega), zu_n (by omega)]; exact h s h0 (by omega)
theorem lay_R {P : Int → Int → Int → Prop} {f m : Int → Int} {F i v w S : Int} (h : ∀ s : Int, i ≤ s → s < S → P s (f (F + s)) (m (F + s))) : ∀ s : Int, i + 1 ≤ s → s < S → P s (zu f (F + i) v (F + s)) (zu m (F + i) w (F + s)) := by
  intro s h0 h1
  rw [zu_n (by omega), zu_n (by omega)]
  exact h s (by omega) h1
theorem lay_F {f m far many : Int → Int} {F i v w : Int} (hi : 0 ≤ i ∧ i < 250) (h : ∀ x : Int, (x < F ∨ F + 250 ≤ x) → f x = far x ∧ m x = many x) : ∀ x : Int, (x < F ∨ F + 250 ≤ x) → zu f (F + i) v x = far x ∧ zu m (F + i) w x = many x := by
  intro x hx
  rw [zu_n (by omega), zu_n (by omega)]
  exact h x hx
theorem lay_cache {N laid far many f m : Int → Int} {to : Int} {L : Nat} (hw : wf N) (ht : 0 ≤ to ∧ to < N 4 * N 5) (hca : cacheOK N laid far many)
    (hl : ∀ s : Int, 0 ≤ s ∧ s < 10 * (N 4 * N 5) → lst N to (L + 1) s (f (250 * to + s)) (m (250 * to + s)))
    (hno : ∀ s : Int, 0 ≤ s ∧ s < 10 * (N 4 * N 5) → ¬ frst N to s L)
    (hf : ∀ x : Int, (x < 250 * to ∨ 250 * to + 250 ≤ x) → f x = far x ∧ m x = many x) : cacheOK N (zu laid to 1) f m ∧ zu laid to 1 to = 1 := by
  have hcr := wf_cr hw
  refine ⟨fun t h0 h1 => ?_, zu_s⟩
  by_cases e : t = to
  · subst e
    rw [zu_s]
    refine ⟨Or.inr rfl, fun _ s hs => ?_⟩
    rcases hl s hs with ⟨k, h1, h2, h3, h4⟩ | ⟨h1, h2, h3⟩
    · exact Or.inl ⟨k, h2, h3, h4⟩
    · refine Or.inr ⟨wk_0of (fun ⟨k, hk⟩ => ?_), h2, h3⟩
      rcases Nat.lt_or_ge k L with q | q
      · have := h1 k (by omega); have := hk.1; omega
      · exact wk_stop hw hno k s q hs hk
  · rw [zu_n e]
    refine ⟨(hca t h0 h1).1, fun hl1 s hs => ?_⟩
    have hx : 250 * t + s < 250 * to ∨ 250 * to + 250 ≤ 250 * t + s := by omega
    rw [(hf _ hx).1, (hf _ hx).2]
    exact (hca t h0 h1).2 hl1 s hs
theorem lst_rng2 {N f m : Int → Int} {to i x F : Int} {L : Nat} (hw : wf N) (ht : 0 ≤ to ∧ to < N 4 * N 5) (hx : 0 ≤ x ∧ x < 10 * (N 4 * N 5)) (h1 : ∀ s : Int, 0 ≤ s → s < i → lst N to (L + 2) s (f (F + s)) (m (F + s))) (h2 : ∀ s : Int, i ≤ s → s < 10 * (N 4 * N 5) → lst N to (L + 1) s (f (F + s)) (m (F + s))) : (f (F + x) = -6 ∨ 0 ≤ f (F + x)) ∧ f (F + x) < L + 3 := by
  rcases Int.lt_or_le x i with z | z
  · have := lst_rng hw ht hx (h1 _ hx.1 z); omega
  · have := lst_rng hw ht hx (h2 _ z hx.2); omega
