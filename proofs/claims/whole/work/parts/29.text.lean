/-! texts: over the pad's characters P, of which the first ln count -/
def sgn (P : Int → Int) (ln i : Int) : Int := if i < ln then P i else 0
def numV (P : Int → Int) (ln i : Int) : Int :=
  if 48 ≤ sgn P ln i ∧ sgn P ln i ≤ 57 then (if sgn P ln i ≠ 48 ∧ 48 ≤ sgn P ln (i + 1) ∧ sgn P ln (i + 1) ≤ 57 then 10 * (sgn P ln i - 48) + (sgn P ln (i + 1) - 48) else sgn P ln i - 48) else -1
def numP (P : Int → Int) (ln i : Int) : Int :=
  if 48 ≤ sgn P ln i ∧ sgn P ln i ≤ 57 then (if sgn P ln i ≠ 48 ∧ 48 ≤ sgn P ln (i + 1) ∧ sgn P ln (i + 1) ≤ 57 then i + 2 else i + 1) else i
def sdV (P : Int → Int) (ln i : Int) : Int := if sgn P ln i = 101 then 0 else if sgn P ln i = 119 then 1 else if sgn P ln i = 110 then 2 else if sgn P ln i = 115 then 3 else -1
def knd (P : Int → Int) (ln i : Int) : Prop := sgn P ln i = 115 ∨ sgn P ln i = 98 ∨ sgn P ln i = 109 ∨ sgn P ln i = 116
def ordOK (P : Int → Int) (ln i : Int) : Prop :=
  knd P ln i ∧ 0 ≤ numV P ln (i + 1) ∧ (sgn P ln i = 115 → sgn P ln (numP P ln (i + 1)) = 62 ∧ 0 ≤ numV P ln (numP P ln (i + 1) + 1)) ∧ ((sgn P ln i = 98 ∨ sgn P ln i = 109) → 0 ≤ sdV P ln (numP P ln (i + 1)))
noncomputable def ordE (P : Int → Int) (ln i : Int) : Int :=
  zif (knd P ln i) (if numV P ln (i + 1) < 0 then i + 1 else if sgn P ln i = 116 then numP P ln (i + 1)
    else if sgn P ln i = 115 then (if sgn P ln (numP P ln (i + 1)) = 62 then numP P ln (numP P ln (i + 1) + 1) else numP P ln (i + 1))
    else (if sdV P ln (numP P ln (i + 1)) < 0 then numP P ln (i + 1) else numP P ln (i + 1) + 1)) i
def ordS (P : Int → Int) (ln i : Int) : Int := if sgn P ln i = 115 then numV P ln (numP P ln (i + 1) + 1) else sdV P ln (numP P ln (i + 1))
noncomputable def flC (P : Int → Int) (ln : Int) (f : Int → Int → Int × Int) (e n : Int) : Int × Int := if ln ≤ e then (-6, n) else if sgn P ln e = 59 then f (e + 1) n else (e, n)
/-- from a place on, with n orders read: the fault (-6: none), the orders in all -/
noncomputable def flt (P : Int → Int) (ln : Int) : Nat → Int → Int → Int × Int
  | 0, i, n => (i, n)
  | k + 1, i, n => @ite _ (ordOK P ln i) (Classical.propDecidable _) (flC P ln (flt P ln k) (ordE P ln i) (n + 1)) (ordE P ln i, n)
/-- where the orders begin -/
noncomputable def ost (P : Int → Int) (ln : Int) : Nat → Int
  | 0 => 0
  | k + 1 => ordE P ln (ost P ln k) + 1
def padOK (P : Int → Int) (ln : Int) : Prop := (0 ≤ ln ∧ ln ≤ 80) ∧ ∀ j : Int, 0 ≤ j → j < ln → 33 ≤ P j ∧ P j ≤ 126
theorem sgn_rng {P : Int → Int} {ln i : Int} (h : padOK P ln) (hi : 0 ≤ i) : (sgn P ln i = 0 ∧ ln ≤ i) ∨ (33 ≤ sgn P ln i ∧ sgn P ln i ≤ 126 ∧ i < ln) := by
  unfold sgn
  split
  · have := h.2 i hi (by omega); omega
  · omega
theorem num_rng {P : Int → Int} {ln i : Int} (h : padOK P ln) (hi : 0 ≤ i) : -1 ≤ numV P ln i ∧ numV P ln i ≤ 99 ∧ i ≤ numP P ln i ∧ numP P ln i ≤ i + 2 ∧ (0 ≤ numV P ln i → i + 1 ≤ numP P ln i ∧ numP P ln i ≤ ln) ∧ (numV P ln i < 0 → numP P ln i = i ∧ numV P ln i = -1) := by
  have h1 := sgn_rng h hi
  have h2 := sgn_rng h (by omega : 0 ≤ i + 1)
  unfold numV numP
  split
  · split <;> omega
  · omega
theorem sd_rng (P : Int → Int) (ln i : Int) : -1 ≤ sdV P ln i ∧ sdV P ln i ≤ 3 := by
  unfold sdV
  (repeat' split) <;> omega
theorem sd_lt {P : Int → Int} {ln i : Int} (h : padOK P ln) (hi : 0 ≤ i) (hs : 0 ≤ sdV P ln i) : i < ln := by
  have h1 := sgn_rng h hi
  unfold sdV at hs
  (repeat' split at hs) <;> omega
theorem ord_rng {P : Int → Int} {ln i : Int} (h : padOK P ln) (hi : 0 ≤ i ∧ i ≤ 100) : i ≤ ordE P ln i ∧ ordE P ln i ≤ i + 6 ∧ (ordOK P ln i → i + 2 ≤ ordE P ln i ∧ ordE P ln i ≤ ln) := by
  have h0 := sgn_rng h hi.1
  have h1 := num_rng h (by omega : 0 ≤ i + 1)
  have h2 := num_rng h (by omega : 0 ≤ numP P ln (i + 1) + 1)
  have h3 := sd_rng P ln (numP P ln (i + 1))
  have h4 := sgn_rng h (by omega : 0 ≤ numP P ln (i + 1))
  unfold ordE
  by_cases hk : knd P ln i
  · rw [zif_t hk]
    refine ⟨?_, ?_, ?_⟩
    · (repeat' split) <;> omega
    · (repeat' split) <;> omega
    · intro ho
      obtain ⟨o1, o2, o3, o4⟩ := ho
      unfold knd at hk
      by_cases e1 : sgn P ln i = 116
      · rw [if_neg (by omega), if_pos e1]; omega
      · by_cases e2 : sgn P ln i = 115
        · have := o3 e2
          rw [if_neg (by omega), if_neg e1, if_pos e2, if_pos this.1]; omega
        · have := o4 (by omega)
          have := sd_lt h (by omega) this
          rw [if_neg (by omega), if_neg e1, if_neg e2, if_neg (by omega)]; omega
  · rw [zif_f hk]
    exact ⟨by omega, by omega, fun ho => absurd ho.1 hk⟩
theorem flt_s {P : Int → Int} {ln i n : Int} {k : Nat} (h : ordOK P ln i) : flt P ln (k + 1) i n = flC P ln (flt P ln k) (ordE P ln i) (n + 1) := if_pos h
theorem flt_e {P : Int → Int} {ln i n : Int} {k : Nat} (h : ¬ ordOK P ln i) : flt P ln (k + 1) i n = (ordE P ln i, n) := if_neg h
/-- the orders that have been read stand as they were read -/
def ordsOK (P : Int → Int) (ln : Int) (n : Int) (k3 f3 s3 : Int → Int) : Prop := ∀ j : Int, 0 ≤ j → j < n → k3 j = sgn P ln (ost P ln j.toNat) ∧ f3 j = numV P ln (ost P ln j.toNat + 1) ∧ (k3 j ≠ 116 → s3 j = ordS P ln (ost P ln j.toNat)) ∧ ordOK P ln (ost P ln j.toNat)
