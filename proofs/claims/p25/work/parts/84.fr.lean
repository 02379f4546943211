/-! way lengths and first directions, over one row of numbers -/
theorem wk_S {N : Int → Int} {to s : Int} {m : Nat} (hs : ¬ s / 10 = to) : wk N to (m + 1) s = zS (wg N to s (wk N to m)) 4 := by
  rw [wk]; exact if_neg hs
theorem wk_here {N : Int → Int} {to s : Int} (m : Nat) (hs : s / 10 = to) : wk N to (m + 1) s = 0 := by
  rw [wk]; exact if_pos hs
theorem wk_Z {N : Int → Int} {to s : Int} : wk N to 0 s = if s / 10 = to then 1 else 0 := by rw [wk]
theorem wk_ex {N : Int → Int} {to s : Int} {m : Nat} (h : 0 < wk N to (m + 1) s) : ¬ s / 10 = to ∧ ∃ d : Int, 0 ≤ d ∧ d ≤ 3 ∧ 0 ≤ mvd N s d to ∧ 0 < wk N to m (mvd N s d to) := by
  have hs : ¬ s / 10 = to := fun e => by rw [wk_here m e] at h; omega
  refine ⟨hs, ?_⟩
  rw [wk_S hs, zS4] at h
  have key : ∀ d : Int, 0 < wg N to s (wk N to m) d → 0 ≤ mvd N s d to ∧ 0 < wk N to m (mvd N s d to) := by
    intro d hd
    unfold wg at hd
    split at hd
    · rename_i g; exact ⟨g, hd⟩
    · omega
  by_cases h0 : 0 < wg N to s (wk N to m) 0
  · exact ⟨0, by omega, by omega, key 0 h0⟩
  by_cases h1 : 0 < wg N to s (wk N to m) 1
  · exact ⟨1, by omega, by omega, key 1 h1⟩
  by_cases h2 : 0 < wg N to s (wk N to m) 2
  · exact ⟨2, by omega, by omega, key 2 h2⟩
  by_cases h3 : 0 < wg N to s (wk N to m) 3
  · exact ⟨3, by omega, by omega, key 3 h3⟩
  omega
/-- a way is no shorter than the distance, and longer by an even number -/
theorem wk_lo {N : Int → Int} {to : Int} (hw : wf N) (ht : 0 ≤ to ∧ to < N 4 * N 5) : ∀ (m : Nat) (s : Int), 0 ≤ s ∧ s < 10 * (N 4 * N 5) → 0 < wk N to m s → dist N (s / 10) to ≤ m ∧ ((m : Int) - dist N (s / 10) to) % 2 = 0
  | 0, s, hs, h => by
    rw [wk_Z] at h
    split at h
    · rename_i e
      rw [e, dist_0]; exact ⟨by omega, by omega⟩
    · omega
  | m + 1, s, hs, h => by
    obtain ⟨h1, d, d0, d1, d2, d3⟩ := wk_ex h
    have hsp := mvd_spec hw hs ⟨d0, d1⟩ d2
    obtain ⟨e1, e2, e3, -, -, e4⟩ := hsp
    have ih := wk_lo hw ht m _ e4 d3
    rw [e3] at ih
    have hnb := dist_nb (to := to) hw.2.2.2.1 (by omega : 0 ≤ s / 10) e1.1.1
    omega
theorem fr_cs (N : Int → Int) (to s : Int) : (fr N to s = -6 ∧ (∀ k : Nat, wk N to k s = 0) ∧ mn N to s = 0) ∨ ∃ k : Nat, fr N to s = (k : Int) ∧ frst N to s k ∧ mn N to s = wk N to k s := by
  rcases ldn_fr N to s with ⟨k, h1, h2, h3⟩ | ⟨h1, h2, h3⟩
  · exact Or.inr ⟨k, h2, h1, h3⟩
  · exact Or.inl ⟨h2, h1, h3⟩
theorem fr_here {N : Int → Int} {to s : Int} (h : s / 10 = to) : fr N to s = 0 ∧ mn N to s = 1 := by
  have e : wk N to 0 s = 1 := by rw [wk_Z, if_pos h]
  have := ldn_eq (N := N) (to := to) (s := s) (v := 0) (w := 1) (Or.inl ⟨0, ⟨by rw [e]; decide, fun j hj => absurd hj (Nat.not_lt_zero j)⟩, rfl, e.symm⟩)
  exact ⟨this.1.symm, this.2.symm⟩
theorem fr_away {N : Int → Int} {to s : Int} (h : ¬ s / 10 = to) : fr N to s = -6 ∨ 1 ≤ fr N to s := by
  rcases fr_cs N to s with ⟨h1, -, -⟩ | ⟨k, h1, h2, -⟩
  · exact Or.inl h1
  · refine Or.inr ?_
    have : k ≠ 0 := fun e => by
      subst e
      have := h2.1
      rw [wk_Z, if_neg h] at this
      omega
    omega
/-- what a way length is bound by -/
theorem fr_bd {N : Int → Int} {to s : Int} (hw : wf N) (ht : 0 ≤ to ∧ to < N 4 * N 5) (hs : 0 ≤ s ∧ s < 10 * (N 4 * N 5)) : (fr N to s = -6 ∧ mn N to s = 0) ∨ (0 ≤ fr N to s ∧ fr N to s ≤ 16 ∧ dist N (s / 10) to ≤ fr N to s ∧ (fr N to s - dist N (s / 10) to) % 2 = 0 ∧ fr N to s ≤ dist N (s / 10) to + 2 * max 0 (N 1 - s % 5) ∧ 1 ≤ mn N to s) := by
  have h16 := fr_rng hw ht hs
  rcases fr_cs N to s with ⟨h1, -, h3⟩ | ⟨k, h1, h2, h3⟩
  · exact Or.inl ⟨h1, h3⟩
  · refine Or.inr ?_
    have a := wk_lo hw ht k s hs h2.1
    have b := wk_up hw ht k s hs h2.1
    have c := h2.1
    rw [h1, h3]
    exact ⟨by omega, by omega, a.1, a.2, b, by omega⟩
theorem kln_d {N : Int → Int} {to s : Int} (hw : wf N) (hs : 0 ≤ s ∧ s < 10 * (N 4 * N 5)) (hne : ¬ s / 10 = to) {d : Int} (hd : 0 ≤ d ∧ d < 4) (hp : pss N to s d) : 1 ≤ fr N to s ∧ fr N to s ≤ kln N to s d + 1 := by
  obtain ⟨p1, p2⟩ := hp
  rcases fr_cs N to (mvd N s d to) with ⟨h1, -, -⟩ | ⟨j, h1, h2, -⟩
  · omega
  · have a := wk_next (m := j) hne (by omega) p1
    have b := h2.1
    rcases fr_cs N to s with ⟨g1, g2, -⟩ | ⟨k, g1, g2, -⟩
    · have := g2 (j + 1); omega
    · have hk : k ≤ j + 1 := by
        rcases Nat.lt_or_ge (j + 1) k with q | q
        · have := g2.2 (j + 1) q; omega
        · exact q
      have e : kln N to s d = (j : Int) := h1
      have := fr_away (N := N) hne
      omega
theorem fr_pred {N : Int → Int} {to s : Int} (hne : ¬ s / 10 = to) (h : fr N to s ≠ -6) : ∃ d : Int, 0 ≤ d ∧ d < 4 ∧ pss N to s d ∧ kln N to s d + 1 ≤ fr N to s := by
  rcases fr_cs N to s with ⟨h1, -, -⟩ | ⟨k, h1, h2, -⟩
  · exact absurd h1 h
  · match k, h2 with
    | 0, h2 =>
      have := h2.1
      rw [wk_Z, if_neg hne] at this
      omega
    | m + 1, h2 =>
      obtain ⟨-, d, d0, d1, d2, d3⟩ := wk_ex h2.1
      rcases fr_cs N to (mvd N s d to) with ⟨g1, g2, -⟩ | ⟨j, g1, g2, -⟩
      · have := g2 m; omega
      · have hj : j ≤ m := by
          rcases Nat.lt_or_ge m j with q | q
          · have := g2.2 m q; omega
          · exact q
        have e : kln N to s d = (j : Int) := g1
        exact ⟨d, d0, by omega, ⟨d2, by omega⟩, by omega⟩
theorem isF_ex (N : Int → Int) (to s : Int) (P : Int → Prop) : ∃ r, isF N to s P r := by
  have key : ∀ (m : Nat) (d : Int), 0 ≤ d → d < 4 → pss N to s d → P d → (4 * kln N to s d + d).toNat < m → ∃ r, isF N to s P r := by
    intro m
    induction m with
    | zero => intro d _ _ _ _ h; exact absurd h (Nat.not_lt_zero _)
    | succ m ih =>
      intro d d0 d1 hp hP h
      by_cases hx : ∃ d' : Int, 0 ≤ d' ∧ d' < 4 ∧ pss N to s d' ∧ P d' ∧ slt N to s d' d
      · obtain ⟨d', a, b, c, e, f⟩ := hx
        refine ih d' a b c e ?_
        have k1 : 0 ≤ kln N to s d' := c.2
        unfold slt at f
        omega
      · exact ⟨d, Or.inr ⟨d0, d1, hp, hP, fun d' a b c e f => hx ⟨d', a, b, c, e, f⟩⟩⟩
  by_cases hx : ∃ d : Int, 0 ≤ d ∧ d < 4 ∧ pss N to s d ∧ P d
  · obtain ⟨d, a, b, c, e⟩ := hx
    exact key _ d a b c e (Nat.lt_succ_self _)
  · exact ⟨-6, Or.inl ⟨rfl, fun d a b c e => hx ⟨d, a, b, c, e⟩⟩⟩
theorem isF_g (N : Int → Int) (to s : Int) (P : Int → Prop) : isF N to s P (gos N to s P) := by
  obtain ⟨r, h⟩ := isF_ex N to s P
  rw [← isF_gos h]
  exact h
/-- the first possible direction -/
theorem fs_sp {N : Int → Int} {to s : Int} (hw : wf N) (hs : 0 ≤ s ∧ s < 10 * (N 4 * N 5)) (hne : ¬ s / 10 = to) : (fr N to s = -6 ∧ gos N to s (fun _ => True) = -6) ∨ (1 ≤ fr N to s ∧ 0 ≤ gos N to s (fun _ => True) ∧ gos N to s (fun _ => True) < 4 ∧ pss N to s (gos N to s (fun _ => True)) ∧ fr N to (mvd N s (gos N to s (fun _ => True)) to) = fr N to s - 1) := by
  rcases isF_g N to s (fun _ => True) with ⟨h1, h2⟩ | ⟨a1, a2, a3, -, a5⟩
  · refine Or.inl ⟨?_, h1⟩
    by_cases e : fr N to s = -6
    · exact e
    · obtain ⟨d, b1, b2, b3, -⟩ := fr_pred hne e
      exact absurd trivial (h2 d b1 b2 b3)
  · have hk := kln_d hw hs hne ⟨a1, a2⟩ a3
    refine Or.inr ⟨hk.1, a1, a2, a3, ?_⟩
    have hn6 : fr N to s ≠ -6 := by have := hk.1; omega
    obtain ⟨d, b1, b2, b3, b4⟩ := fr_pred hne hn6
    have := a5 d b1 b2 b3 trivial
    unfold slt at this
    have e : kln N to s (gos N to s fun _ => True) = fr N to (mvd N s (gos N to s fun _ => True) to) := rfl
    omega
/-- where the first possible direction has room, it is the one that is gone -/
theorem go_fs {N : Int → Int} {p : Int} (h0 : 0 ≤ fsN N p) (hr : rmP N p (fsN N p)) : goN N p = fsN N p := by
  have h := isF_g N (pk N p 1) (stg N p) (fun _ => True)
  have hg := isF_g N (pk N p 1) (stg N p) (rmP N p)
  refine isF_u hg ?_
  rcases h with ⟨h1, h2⟩ | ⟨a1, a2, a3, -, a5⟩
  · have e : fsN N p = gos N (pk N p 1) (stg N p) fun _ => True := rfl
    omega
  · exact Or.inr ⟨a1, a2, a3, hr, fun d b1 b2 b3 _ => a5 d b1 b2 b3 trivial⟩
theorem go_no {N : Int → Int} {p : Int} (h : fsN N p < 0) : goN N p = -6 := by
  rcases isF_g N (pk N p 1) (stg N p) (rmP N p) with ⟨h1, -⟩ | ⟨a1, a2, a3, -, -⟩
  · exact h1
  · rcases isF_g N (pk N p 1) (stg N p) (fun _ => True) with ⟨g1, g2⟩ | ⟨b1, -, -, -, -⟩
    · exact absurd trivial (g2 _ a1 a2 a3)
    · have e : fsN N p = gos N (pk N p 1) (stg N p) fun _ => True := rfl
      omega
theorem fsN_c (N : Int → Int) (p : Int) : fsN N p = -6 ∨ (0 ≤ fsN N p ∧ fsN N p < 4) := by
  have e : fsN N p = gos N (pk N p 1) (stg N p) fun _ => True := rfl
  rw [e]
  rcases isF_g N (pk N p 1) (stg N p) (fun _ => True) with ⟨g1, g2⟩ | ⟨b1, b2, -, -, -⟩
  · exact Or.inl g1
  · exact Or.inr ⟨b1, b2⟩
/-- what a packet that has not come to its box is told -/
theorem pk_sp {N : Int → Int} {p : Int} (hw : wf N) (hp : 0 ≤ p ∧ p < N 6) (hne : ¬ pk N p 3 = pk N p 1) : (fr N (pk N p 1) (stg N p) = -6 ∧ fsN N p = -6) ∨ (1 ≤ fr N (pk N p 1) (stg N p) ∧ fr N (pk N p 1) (stg N p) ≤ 16 ∧ dist N (pk N p 3) (pk N p 1) ≤ fr N (pk N p 1) (stg N p) ∧ 0 ≤ fsN N p ∧ fsN N p < 4 ∧ pss N (pk N p 1) (stg N p) (fsN N p) ∧ fr N (pk N p 1) (mvd N (stg N p) (fsN N p) (pk N p 1)) = fr N (pk N p 1) (stg N p) - 1) := by
  have hst := stg_rng hw hp
  have wpp := hw.2.2.2.2.2.2.2 p hp.1 hp.2
  have hn : ¬ stg N p / 10 = pk N p 1 := by rw [hst.2.2.1]; exact hne
  rcases fs_sp hw ⟨hst.1, hst.2.1⟩ hn with ⟨h1, h2⟩ | ⟨h1, h2, h3, h4, h5⟩
  · exact Or.inl ⟨h1, h2⟩
  · have hb := fr_bd hw wpp.2.1 ⟨hst.1, hst.2.1⟩
    rw [hst.2.2.1] at hb
    exact Or.inr ⟨h1, by omega, by omega, h2, h3, h4, h5⟩
theorem pk_at {N : Int → Int} {p : Int} (hw : wf N) (hp : 0 ≤ p ∧ p < N 6) (he : pk N p 3 = pk N p 1) : fr N (pk N p 1) (stg N p) = 0 := by
  have hst := stg_rng hw hp
  exact (fr_here (by rw [hst.2.2.1]; exact he)).1
theorem nb_ne {N : Int → Int} {b d : Int} (hc : 2 ≤ N 4 ∧ N 4 ≤ 5) (hb : 0 ≤ b) (h : 0 ≤ nb N b d) : nb N b d ≠ b ∧ dist N (nb N b d) b = 1 := by
  have h1 := dist_nb (to := b) hc hb h
  rw [dist_0] at h1
  have h2 : 0 ≤ dist N (nb N b d) b := by unfold dist zabs; omega
  refine ⟨fun e => ?_, by omega⟩
  rw [e, dist_0] at h1
  omega
