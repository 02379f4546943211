/-! the possible directions of a standing, in their order -/
def pss (N : Int → Int) (to s d : Int) : Prop := 0 ≤ mvd N s d to ∧ 0 ≤ fr N to (mvd N s d to)
noncomputable def kln (N : Int → Int) (to s d : Int) : Int := fr N to (mvd N s d to)
def slt (N : Int → Int) (to s a b : Int) : Prop := kln N to s a < kln N to s b ∨ (kln N to s a = kln N to s b ∧ a < b)
/-- the first possible direction for which P holds; -6: none -/
def isF (N : Int → Int) (to s : Int) (P : Int → Prop) (r : Int) : Prop :=
  (r = -6 ∧ ∀ d : Int, 0 ≤ d → d < 4 → pss N to s d → ¬ P d) ∨ (0 ≤ r ∧ r < 4 ∧ pss N to s r ∧ P r ∧ ∀ d : Int, 0 ≤ d → d < 4 → pss N to s d → P d → ¬ slt N to s d r)
theorem isF_u {N : Int → Int} {to s r r' : Int} {P : Int → Prop} (h : isF N to s P r) (h' : isF N to s P r') : r = r' := by
  rcases h with ⟨a1, a2⟩ | ⟨a0, a1, a2, a3, a4⟩ <;> rcases h' with ⟨b1, b2⟩ | ⟨b0, b1, b2, b3, b4⟩
  · omega
  · exact absurd b3 (a2 r' b0 b1 b2)
  · exact absurd a3 (b2 r a0 a1 a2)
  · have q1 := a4 r' b0 b1 b2 b3
    have q2 := b4 r a0 a1 a2 a3
    unfold slt at q1 q2
    omega
noncomputable def gos (N : Int → Int) (to s : Int) (P : Int → Prop) : Int := @dite Int (∃ r, isF N to s P r) (Classical.propDecidable _) (fun h => Classical.choose h) (fun _ => -6)
theorem isF_gos {N : Int → Int} {to s r : Int} {P : Int → Prop} (h : isF N to s P r) : r = gos N to s P := by
  have hx : ∃ r, isF N to s P r := ⟨r, h⟩
  have e : gos N to s P = Classical.choose hx := dif_pos hx
  rw [e]
  exact isF_u h (Classical.choose_spec hx)
/-- a direction whose box is where the packet goes, or has room -/
def rmP (N : Int → Int) (p d : Int) : Prop := nb N (pk N p 3) d = pk N p 1 ∨ ins N (nb N (pk N p 3) d) < N 2
noncomputable def goN (N : Int → Int) (p : Int) : Int := gos N (pk N p 1) (stg N p) (rmP N p)
noncomputable def fsN (N : Int → Int) (p : Int) : Int := gos N (pk N p 1) (stg N p) (fun _ => True)
theorem stg_rng {N : Int → Int} {p : Int} (hw : wf N) (hp : 0 ≤ p ∧ p < N 6) : 0 ≤ stg N p ∧ stg N p < 10 * (N 4 * N 5) ∧ stg N p / 10 = pk N p 3 ∧ stg N p / 5 % 2 = pk N p 9 ∧ stg N p % 5 = pk N p 5 := by
  have h := hw.2.2.2.2.2.2.2 p hp.1 hp.2
  unfold stg
  omega
theorem pss_nb {N : Int → Int} {p d : Int} (hw : wf N) (hp : 0 ≤ p ∧ p < N 6) (hd : 0 ≤ d ∧ d ≤ 3) (h : pss N (pk N p 1) (stg N p) d) : 0 ≤ nb N (pk N p 3) d ∧ nb N (pk N p 3) d < N 4 * N 5 := by
  have hs := stg_rng hw hp
  have h1 := mvd_spec hw ⟨hs.1, hs.2.1⟩ hd h.1
  have h2 := h1.1.1.1
  have hb := hw.2.2.2.2.2.2.2 p hp.1 hp.2
  rw [hs.2.2.1] at h2
  exact ⟨h2, (nb_rng hw (by omega) hd).2⟩
