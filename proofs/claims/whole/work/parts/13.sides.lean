/-! the possible directions of a standing, in their order -/
def pss (N : Int → Int) (to s d : Int) : Prop := 0 ≤ mvd N s d to ∧ 0 ≤ fr N to (mvd N s d to)
noncomputable def kln (N : Int → Int) (to s d : Int) : Int := fr N to (mvd N s d to)
def slt (N : Int → Int) (to s a b : Int) : Prop := kln N to s a < kln N to s b ∨ (kln N to s a = kln N to s b ∧ a < b)
/-- what lies in the row of sides when those below e are laid -/
def lsd (N : Int → Int) (to s e n : Int) (sd : Int → Int) : Prop :=
  0 ≤ n ∧ n ≤ e ∧ (∀ k : Int, 0 ≤ k → k < n → 0 ≤ sd k ∧ sd k < e ∧ pss N to s (sd k)) ∧ (∀ j k : Int, 0 ≤ j → j < k → k < n → slt N to s (sd j) (sd k)) ∧ (∀ d : Int, 0 ≤ d → d < e → pss N to s d → ∃ k : Int, 0 ≤ k ∧ k < n ∧ sd k = d)
/-- while a side is put into its place: k is free, what stands above came from one lower -/
def lsh (N : Int → Int) (to s e n k : Int) (sd sd' : Int → Int) : Prop :=
  0 ≤ k ∧ k ≤ n ∧ (∀ j : Int, 0 ≤ j → j < k → sd' j = sd j) ∧ (∀ j : Int, k < j → j ≤ n → sd' j = sd (j - 1) ∧ kln N to s e < kln N to s (sd (j - 1)))
theorem lsd_0 {N : Int → Int} {to s : Int} {sd : Int → Int} : lsd N to s 0 0 sd := ⟨by omega, by omega, fun k h0 h1 => absurd h1 (by omega), fun j k h0 h1 h2 => absurd h2 (by omega), fun d h0 h1 _ => absurd h1 (by omega)⟩
theorem lsd_skip {N : Int → Int} {to s e n : Int} {sd : Int → Int} (h : lsd N to s e n sd) (hp : ¬ pss N to s e) : lsd N to s (e + 1) n sd := by
  obtain ⟨h1, h2, h3, h4, h5⟩ := h
  refine ⟨h1, by omega, fun k h0 hk => ?_, h4, fun d h0 hd hps => ?_⟩
  · have := h3 k h0 hk
    exact ⟨this.1, by omega, this.2.2⟩
  · by_cases e1 : d = e
    · subst e1; exact absurd hps hp
    · exact h5 d h0 (by omega) hps
theorem lsh_0 {N : Int → Int} {to s e n : Int} {sd : Int → Int} (hn : 0 ≤ n) : lsh N to s e n n sd sd := ⟨hn, by omega, fun _ _ _ => rfl, fun j h1 h2 => absurd h2 (by omega)⟩
theorem lsh_s {N : Int → Int} {to s e n k : Int} {sd sd' : Int → Int} (h : lsh N to s e n k sd sd') (hk : 0 < k) (hg : kln N to s e < kln N to s (sd' (k - 1))) : lsh N to s e n (k - 1) sd (zu sd' k (sd' (k - 1))) := by
  obtain ⟨h1, h2, h3, h4⟩ := h
  have e1 := h3 (k - 1) (by omega) (by omega)
  refine ⟨by omega, by omega, fun j h0 hj => ?_, fun j hj1 hj2 => ?_⟩
  · rw [zu_n (by omega)]; exact h3 j h0 (by omega)
  · by_cases e2 : j = k
    · subst e2; rw [zu_s, e1]; rw [e1] at hg; exact ⟨rfl, hg⟩
    · rw [zu_n e2]; exact h4 j (by omega) hj2
theorem lsh_end {N : Int → Int} {to s e n k : Int} {sd sd' : Int → Int} (hl : lsd N to s e n sd) (h : lsh N to s e n k sd sd') (hp : pss N to s e) (he : 0 ≤ e) (hg : k = 0 ∨ kln N to s (sd' (k - 1)) ≤ kln N to s e) : lsd N to s (e + 1) (n + 1) (zu sd' k e) := by
  obtain ⟨l1, l2, l3, l4, l5⟩ := hl
  obtain ⟨h1, h2, h3, h4⟩ := h
  -- what is where
  have lo : ∀ j : Int, 0 ≤ j → j < k → zu sd' k e j = sd j := fun j h0 hj => by rw [zu_n (by omega)]; exact h3 j h0 hj
  have hi : ∀ j : Int, k < j → j ≤ n → zu sd' k e j = sd (j - 1) := fun j h0 hj => by rw [zu_n (by omega)]; exact (h4 j h0 hj).1
  have mono : ∀ i j : Int, 0 ≤ i → i ≤ j → j < n → kln N to s (sd i) ≤ kln N to s (sd j) := by
    intro i j h0 hij hj
    by_cases e1 : i = j
    · subst e1; exact Int.le_refl _
    · rcases l4 i j h0 (by omega) hj with q | q <;> omega
  refine ⟨by omega, by omega, fun j h0 hj => ?_, fun i j h0 hij hj => ?_, fun d h0 hd hps => ?_⟩
  · by_cases e1 : j = k
    · subst e1; rw [zu_s]; exact ⟨he, by omega, hp⟩
    · rcases Int.lt_or_le j k with q | q
      · rw [lo j h0 q]; have := l3 j h0 (by omega); exact ⟨this.1, by omega, this.2.2⟩
      · rw [hi j (by omega) (by omega)]; have := l3 (j - 1) (by omega) (by omega); exact ⟨this.1, by omega, this.2.2⟩
  · by_cases e1 : i = k
    · subst e1
      rw [zu_s, hi j (by omega) (by omega)]
      exact Or.inl (h4 j (by omega) (by omega)).2
    · by_cases e2 : j = k
      · subst e2
        rw [zu_s, lo i h0 (by omega)]
        rcases hg with q | q
        · omega
        · rw [h3 (j - 1) (by omega) (by omega)] at q
          have m := mono i (j - 1) h0 (by omega) (by omega)
          have u := l3 i h0 (by omega)
          rcases Int.lt_or_le (kln N to s (sd i)) (kln N to s e) with z | z
          · exact Or.inl z
          · exact Or.inr ⟨by omega, u.2.1⟩
      · rcases Int.lt_or_le i k with q | q
        · rw [lo i h0 q]
          rcases Int.lt_or_le j k with r | r
          · rw [lo j (by omega) r]; exact l4 i j h0 hij (by omega)
          · rw [hi j (by omega) (by omega)]; exact l4 i (j - 1) h0 (by omega) (by omega)
        · rw [hi i (by omega) (by omega), hi j (by omega) (by omega)]
          exact l4 (i - 1) (j - 1) (by omega) (by omega) (by omega)
  · by_cases e1 : d = e
    · subst e1
      exact ⟨k, h1, by omega, zu_s⟩
    · obtain ⟨j, j0, j1, j2⟩ := l5 d h0 (by omega) hps
      rcases Int.lt_or_le j k with q | q
      · exact ⟨j, j0, by omega, by rw [lo j j0 q]; exact j2⟩
      · exact ⟨j + 1, by omega, by omega, by rw [hi (j + 1) (by omega) (by omega), show j + 1 - 1 = j by omega]; exact j2⟩
/-- the first possible direction for which P holds; -6: none -/
def isF (N : Int → Int) (to s : Int) (P : Int → Prop) (r : Int) : Prop :=
  (r = -6 ∧ ∀ d : Int, 0 ≤ d → d < 4 → pss N to s d → ¬ P d) ∨ (0 ≤ r ∧ r < 4 ∧ pss N to s r ∧ P r ∧ ∀ d : Int, 0 ≤ d → d < 4 → pss N to s d → P d → ¬ slt N to s d r)
theorem isF_u {N : Int → Int} {to s r r' : Int} {P : Int → Prop} (h : isF N to s P r) (h' : isF N to s P r') : r = r' := by
  rcases h with ⟨a1, a2⟩ | ⟨a0, a1, a2, a3, a4⟩ <;> rcases h' with ⟨b1, b2⟩ | ⟨b0, b1, b2, b3, b4⟩
  · omega
  · exact absurd b3 (a2 r' b0 b1 b2)
  · exact absurd a3 (b2 r a0 a1 a2)
  · have q1 := a4 r' b0 b1 b2 b3
    have q2 := b4 r a0 a1 a2 a3
    unfold slt at q1 q2
    omega
noncomputable def gos (N : Int → Int) (to s : Int) (P : Int → Prop) : Int := @dite Int (∃ r, isF N to s P r) (Classical.propDecidable _) (fun h => Classical.choose h) (fun _ => -6)
theorem isF_gos {N : Int → Int} {to s r : Int} {P : Int → Prop} (h : isF N to s P r) : r = gos N to s P := by
  have hx : ∃ r, isF N to s P r := ⟨r, h⟩
  have e : gos N to s P = Classical.choose hx := dif_pos hx
  rw [e]
  exact isF_u h (Classical.choose_spec hx)
theorem isF_none {N : Int → Int} {to s n : Int} {P : Int → Prop} {sd : Int → Int} (hl : lsd N to s 4 n sd) (h : ∀ k : Int, 0 ≤ k → k < n → ¬ P (sd k)) : isF N to s P (-6) := by
  refine Or.inl ⟨rfl, fun d h0 h1 hps hP => ?_⟩
  obtain ⟨k, k0, k1, k2⟩ := hl.2.2.2.2 d h0 h1 hps
  exact h k k0 k1 (k2 ▸ hP)
theorem isF_at {N : Int → Int} {to s n k : Int} {P : Int → Prop} {sd : Int → Int} (hl : lsd N to s 4 n sd) (hk : 0 ≤ k ∧ k < n) (hP : P (sd k)) (h : ∀ j : Int, 0 ≤ j → j < k → ¬ P (sd j)) : isF N to s P (sd k) := by
  obtain ⟨l1, l2, l3, l4, l5⟩ := hl
  have u := l3 k hk.1 hk.2
  refine Or.inr ⟨u.1, u.2.1, u.2.2, hP, fun d h0 h1 hps hPd hlt => ?_⟩
  obtain ⟨j, j0, j1, j2⟩ := l5 d h0 h1 hps
  rcases Int.lt_trichotomy j k with q | q | q
  · exact h j j0 q (j2 ▸ hPd)
  · subst q; rw [j2] at hlt; unfold slt at hlt; omega
  · have := l4 k j hk.1 q j1
    rw [j2] at this
    unfold slt at this hlt
    omega
/-- a direction whose box is where the packet goes, or has room -/
def rmP (N : Int → Int) (p d : Int) : Prop := nb N (pk N p 3) d = pk N p 1 ∨ ins N (nb N (pk N p 3) d) < N 2
noncomputable def goN (N : Int → Int) (p : Int) : Int := gos N (pk N p 1) (stg N p) (rmP N p)
noncomputable def fsN (N : Int → Int) (p : Int) : Int := gos N (pk N p 1) (stg N p) (fun _ => True)
theorem stg_rng {N : Int → Int} {p : Int} (hw : wf N) (hp : 0 ≤ p ∧ p < N 6) : 0 ≤ stg N p ∧ stg N p < 10 * (N 4 * N 5) ∧ stg N p / 10 = pk N p 3 ∧ stg N p / 5 % 2 = pk N p 9 ∧ stg N p % 5 = pk N p 5 := by
  have h := hw.2.2.2.2.2.2.2 p hp.1 hp.2
  unfold stg
  omega
theorem pss_nb {N : Int → Int} {p d : Int} (hw : wf N) (hp : 0 ≤ p ∧ p < N 6) (hd : 0 ≤ d ∧ d ≤ 3) (h : pss N (pk N p 1) (stg N p) d) : 0 ≤ nb N (pk N p 3) d ∧ nb N (pk N p 3) d < N 4 * N 5 := by
  have hs := stg_rng hw hp
  have h1 := mvd_spec hw ⟨hs.1, hs.2.1⟩ hd h.1
  have h2 := h1.1.1.1
  have hb := hw.2.2.2.2.2.2.2 p hp.1 hp.2
  rw [hs.2.2.1] at h2
  exact ⟨h2, (nb_rng hw (by omega) hd).2⟩
