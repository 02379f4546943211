theorem stN_s {N M : Int → Int} {i : Int} (hi : 0 ≤ i) (h : M = stN N i.toNat) : stN N (i + 1).toNat = stpN M i := by
  have e : (i + 1).toNat = i.toNat + 1 := by omega
  rw [e, h]
  show stpN (stN N i.toNat) ((i.toNat : Nat) : Int) = _
  rw [Int.toNat_of_nonneg hi]
theorem tkN_s {N M : Int → Int} {i : Int} (hi : 0 ≤ i) (h : M = tkN N i.toNat) : tkN N (i + 1).toNat = pasN M := by
  have e : (i + 1).toNat = i.toNat + 1 := by omega
  rw [e, h]
  rfl
theorem goN_rng (N : Int → Int) (p : Int) : -6 ≤ goN N p ∧ goN N p < 4 := by
  by_cases h : 0 ≤ goN N p
  · have := goN_spec h; omega
  · unfold goN gos at h ⊢
    by_cases hx : ∃ r, isF N (pk N p 1) (stg N p) (rmP N p) r
    · rw [dif_pos hx] at h ⊢
      rcases Classical.choose_spec hx with ⟨a1, a2⟩ | ⟨a1, a2, a3, a4, a5⟩ <;> omega
    · rw [dif_neg hx]
      omega
theorem tks_same {N : Int → Int} (hw : wf N) (i : Nat) : same N (tkN N i) := fun k _ h1 _ h3 _ => (wf_tks hw i).2.1 k h1 h3
