/-! further facts over one row of numbers -/
/-- no more ways than this -/
theorem wk_4 {N : Int → Int} {to : Int} (hw : wf N) (ht : 0 ≤ to ∧ to < N 4 * N 5) : ∀ (m : Nat) (s : Int), 0 ≤ s ∧ s < 10 * (N 4 * N 5) → wk N to (m + 1) s ≤ 4 ^ m
  | 0, s, hs => by
    rw [wk]
    split
    · decide
    · rename_i hne
      -- at most one side is where it goes
      have one : ∀ d e : Int, 0 ≤ d ∧ d ≤ 3 → 0 ≤ e ∧ e ≤ 3 → 0 < wg N to s (wk N to 0) d → 0 < wg N to s (wk N to 0) e → d = e := by
        intro d e hd he h1 h2
        have side : ∀ x : Int, 0 ≤ x ∧ x ≤ 3 → 0 < wg N to s (wk N to 0) x → 0 ≤ nb N (s / 10) x ∧ nb N (s / 10) x = to := by
          intro x hx h
          unfold wg at h
          split at h
          · rename_i hm
            obtain ⟨hok, -, h1, -⟩ := mvd_spec hw hs hx hm
            rw [wk, h1] at h
            split at h
            · rename_i q; exact ⟨hok.1.1, q⟩
            · omega
          · omega
        obtain ⟨a1, a2⟩ := side d hd h1
        obtain ⟨b1, b2⟩ := side e he h2
        have c1 := nb_cr hw.2.2.2.1 (by omega : 0 ≤ s / 10) a1
        have c2 := nb_cr hw.2.2.2.1 (by omega : 0 ≤ s / 10) b1
        rw [a2] at c1
        rw [b2] at c2
        omega
      have le1 : ∀ d : Int, wg N to s (wk N to 0) d ≤ 1 := by
        intro d
        unfold wg
        split
        · rw [wk]; split <;> omega
        · omega
      rw [zS4]
      have a01 := one 0 1 (by omega) (by omega)
      have a02 := one 0 2 (by omega) (by omega)
      have a03 := one 0 3 (by omega) (by omega)
      have a12 := one 1 2 (by omega) (by omega)
      have a13 := one 1 3 (by omega) (by omega)
      have a23 := one 2 3 (by omega) (by omega)
      have l0 := le1 0
      have l1 := le1 1
      have l2 := le1 2
      have l3 := le1 3
      have g0 := wg_nn (N := N) (to := to) (s := s) (d := 0) (m := 0)
      have g1 := wg_nn (N := N) (to := to) (s := s) (d := 1) (m := 0)
      have g2 := wg_nn (N := N) (to := to) (s := s) (d := 2) (m := 0)
      have g3 := wg_nn (N := N) (to := to) (s := s) (d := 3) (m := 0)
      show _ ≤ (1 : Int)
      omega
  | m + 1, s, hs => by
    rw [wk]
    have e : (4 : Int) ^ (m + 1) = 4 ^ m * 4 := Int.pow_succ 4 m
    have hp : (0 : Int) < 4 ^ m := Int.pow_pos (by decide)
    rw [e]
    split
    · omega
    · have le : ∀ d : Int, 0 ≤ d ∧ d ≤ 3 → wg N to s (wk N to (m + 1)) d ≤ 4 ^ m := by
        intro d hd
        unfold wg
        split
        · rename_i hm
          obtain ⟨-, -, -, -, -, h4⟩ := mvd_spec hw hs hd hm
          exact wk_4 hw ht m _ h4
        · omega
      rw [zS4]
      have l0 := le 0 (by omega)
      have l1 := le 1 (by omega)
      have l2 := le 2 (by omega)
      have l3 := le 3 (by omega)
      omega
theorem wk_rng {N : Int → Int} {to s : Int} (hw : wf N) (ht : 0 ≤ to ∧ to < N 4 * N 5) (m : Nat) (hs : 0 ≤ s ∧ s < 10 * (N 4 * N 5)) : 0 ≤ wk N to m s ∧ wk N to m s ≤ 1073741824 := by
  refine ⟨wk_nn N to m s, ?_⟩
  by_cases h : 16 < m
  · rw [wk_16 hw ht hs h]; decide
  · cases m with
    | zero => rw [wk]; split <;> omega
    | succ m =>
      have h1 := wk_4 hw ht m s hs
      have h2 : (4 : Int) ^ m ≤ 4 ^ 15 := by
        have : m = 0 ∨ m = 1 ∨ m = 2 ∨ m = 3 ∨ m = 4 ∨ m = 5 ∨ m = 6 ∨ m = 7 ∨ m = 8 ∨ m = 9 ∨ m = 10 ∨ m = 11 ∨ m = 12 ∨ m = 13 ∨ m = 14 ∨ m = 15 := by omega
        rcases this with rfl | rfl | rfl | rfl | rfl | rfl | rfl | rfl | rfl | rfl | rfl | rfl | rfl | rfl | rfl | rfl <;> decide
      have h3 : (4 : Int) ^ 15 = 1073741824 := by decide
      omega
