theorem sndE_cases (N : Int → Int) (a b : Int) : sndE N a b = 0 ∨ sndE N a b = -1 ∨ sndE N a b = -4 ∨ sndE N a b = -5 := by
  unfold sndE
  by_cases h1 : isB N a ∧ isB N b ∧ a ≠ b
  · rw [zif_t h1]
    by_cases h2 : N 6 = 40
    · rw [zif_t h2]; omega
    · rw [zif_f h2]
      by_cases h3 : fr N b (10 * a) < 0
      · rw [zif_t h3]; omega
      · rw [zif_f h3]; omega
  · rw [zif_f h1]; omega
theorem sndE_ok {N : Int → Int} {a b : Int} (h : sndE N a b = 0) : isB N a ∧ isB N b ∧ a ≠ b ∧ N 6 ≠ 40 ∧ 0 ≤ fr N b (10 * a) := by
  unfold sndE at h
  by_cases h1 : isB N a ∧ isB N b ∧ a ≠ b
  · rw [zif_t h1] at h
    by_cases h2 : N 6 = 40
    · rw [zif_t h2] at h; omega
    · rw [zif_f h2] at h
      by_cases h3 : fr N b (10 * a) < 0
      · rw [zif_t h3] at h; omega
      · exact ⟨h1.1, h1.2.1, h1.2.2, h2, by omega⟩
  · rw [zif_f h1] at h; omega
