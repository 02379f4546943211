/-! the orders one after the other -/
def ord0 (od : Int → Int) : Int → Int := fun j => od (3 * j)
def ord1 (od : Int → Int) : Int → Int := fun j => od (3 * j + 1)
def ord2 (od : Int → Int) : Int → Int := fun j => od (3 * j + 2)
def flA (P : Int → Int) (ln : Int) (k : Nat) (p r : Int) (od : Int → Int) : Prop :=
  r = (k : Int) + 1 ∧ ordsOK P ln ((k : Int) + 1) (ord0 od) (ord1 od) (ord2 od) ∧ flt P ln 100 0 0 = flC P ln (flt P ln (99 - k)) p ((k : Int) + 1) ∧ 3 * (k : Int) + 2 ≤ p ∧ p ≤ ln ∧ ost P ln (k + 1) = p + 1
theorem fl_in {P od od2 : Int → Int} {ln p w r : Int} {k : Nat} (h : padOK P ln) (hk : 3 * (k : Int) ≤ ost P ln k ∧ ost P ln k ≤ 81) (hf : flt P ln 100 0 0 = flt P ln (100 - k) (ost P ln k) (k : Int))
    (hod : ordsOK P ln (k : Int) (ord0 od) (ord1 od) (ord2 od)) (e1 : p = ordE P ln (ost P ln k)) (e2 : w = zb (¬ ordOK P ln (ost P ln k)))
    (e3 : ordOK P ln (ost P ln k) → r = (k : Int) + 1 ∧ od2 (3 * (k : Int)) = sgn P ln (ost P ln k) ∧ od2 (3 * (k : Int) + 1) = numV P ln (ost P ln k + 1) ∧ (sgn P ln (ost P ln k) ≠ 116 → od2 (3 * (k : Int) + 2) = ordS P ln (ost P ln k)))
    (e4 : ∀ x : Int, x < 3 * (k : Int) → od2 x = od x) : (w = 0 ∧ flA P ln k p r od2) ∨ (w = 1 ∧ (flt P ln 100 0 0).1 = p) := by
  have hr := ord_rng h (i := ost P ln k) ⟨by omega, by omega⟩
  by_cases ho : ordOK P ln (ost P ln k)
  · obtain ⟨r1, r2, r3, r4⟩ := e3 ho
    have hr3 := hr.2.2 ho
    refine Or.inl ⟨by rw [e2, zb_f (fun z => z ho)], r1, ?_, ?_, by omega, by omega, by show ordE P ln (ost P ln k) + 1 = p + 1; rw [e1]⟩
    · intro j j0 j1
      by_cases e : j = (k : Int)
      · subst e
        have et : ((k : Int)).toNat = k := by omega
        rw [et]
        exact ⟨r2, r3, fun hne => r4 (by rw [← r2]; exact hne), ho⟩
      · have hj := hod j j0 (by omega)
        obtain ⟨h1, h2, h3, h4⟩ := hj
        have x0 : ord0 od2 j = ord0 od j := e4 _ (by omega)
        have x1 : ord1 od2 j = ord1 od j := e4 _ (by omega)
        have x2 : ord2 od2 j = ord2 od j := e4 _ (by omega)
        rw [x0, x1, x2]
        exact ⟨h1, h2, h3, h4⟩
    · rw [hf, show 100 - k = (99 - k) + 1 by omega, flt_s ho, ← e1]
  · refine Or.inr ⟨by rw [e2, zb_t ho], ?_⟩
    rw [hf, show 100 - k = (99 - k) + 1 by omega, flt_e ho, e1]
theorem fl_next {P od : Int → Int} {ln p r : Int} {k : Nat} (h : flA P ln k p r od) (hp : p < ln) (hln : ln ≤ 80) (hs : sgn P ln p = 59) : (3 * ((k + 1 : Nat) : Int) ≤ ost P ln (k + 1) ∧ ost P ln (k + 1) ≤ 81) ∧ flt P ln 100 0 0 = flt P ln (100 - (k + 1)) (ost P ln (k + 1)) ((k + 1 : Nat) : Int) := by
  obtain ⟨a1, a2, a3, a4, a5, a6⟩ := h
  refine ⟨by omega, ?_⟩
  rw [a3, a6]
  unfold flC
  rw [if_neg (by omega), if_pos hs, show 100 - (k + 1) = 99 - k by omega]
  rfl
theorem fl_bad {P od : Int → Int} {ln p r : Int} {k : Nat} (h : flA P ln k p r od) (hp : p < ln) (hs : ¬ sgn P ln p = 59) : (flt P ln 100 0 0).1 = p := by
  obtain ⟨a1, a2, a3, a4, a5, a6⟩ := h
  rw [a3]
  unfold flC
  rw [if_neg (by omega), if_neg hs]
theorem fl_end {P od : Int → Int} {ln p r : Int} {k : Nat} (h : flA P ln k p r od) (hp : ln ≤ p) : flt P ln 100 0 0 = (-6, r) ∧ ordsOK P ln r (ord0 od) (ord1 od) (ord2 od) := by
  obtain ⟨a1, a2, a3, a4, a5, a6⟩ := h
  rw [a3, a1]
  unfold flC
  rw [if_pos hp]
  exact ⟨rfl, a2⟩
noncomputable def zff (P : Prop) (f g : Int → Int) : Int → Int := @ite _ P (Classical.propDecidable P) f g
theorem zff_t {P : Prop} {f g : Int → Int} (h : P) : zff P f g = f := if_pos h
theorem zff_f {P : Prop} {f g : Int → Int} (h : ¬ P) : zff P f g = g := if_neg h
noncomputable def sndR (N : Int → Int) (a b : Int) : Int := zif (sndE N a b = 0) (N 6) (sndE N a b)
noncomputable def sndM (N : Int → Int) (a b : Int) : Int → Int := zff (sndE N a b = 0) (sndN N a b) N
def lnkQ (N : Int → Int) (b d w : Int) : Prop := ¬ badK N b d ∧ ((0 ≤ d ∧ d ≤ 3) ∧ 0 ≤ w ∧ w ≤ 1)
noncomputable def lnkR (N : Int → Int) (b d w : Int) : Int := zif (lnkQ N b d w) (1 - N (lkm N b d)) (zif (badK N b d) (-1) (-2))
noncomputable def lnkM (N : Int → Int) (b d w : Int) : Int → Int := zff (lnkQ N b d w) (zu N (lkm N b d) (1 - w)) N
noncomputable def tckR (N : Int → Int) (n : Int) : Int := zif (1 ≤ n ∧ n ≤ 300) (N 3 + n) (-2)
noncomputable def tckM (N : Int → Int) (n : Int) : Int → Int := zff (1 ≤ n ∧ n ≤ 300) (tkN N n.toNat) N
noncomputable def ordR (N : Int → Int) (k a b : Int) : Int := if k = 115 then sndR N a b else if k = 98 then lnkR N a b 0 else if k = 109 then lnkR N a b 1 else tckR N a
noncomputable def ordM (N : Int → Int) (k a b : Int) : Int → Int := if k = 115 then sndM N a b else if k = 98 then lnkM N a b 0 else if k = 109 then lnkM N a b 1 else tckM N a
noncomputable def cro (N k a b : Int → Int) : Nat → (Int → Int)
  | 0 => N
  | j + 1 => ordM (cro N k a b j) (k j) (a j) (b j)
theorem cro_s {N M k a b : Int → Int} {j : Int} (hj : 0 ≤ j) (h : M = cro N k a b j.toNat) : cro N k a b (j + 1).toNat = ordM M (k j) (a j) (b j) := by
  have e : (j + 1).toNat = j.toNat + 1 := by omega
  rw [e, h]
  show ordM (cro N k a b j.toNat) (k ((j.toNat : Nat) : Int)) (a ((j.toNat : Nat) : Int)) (b ((j.toNat : Nat) : Int)) = _
  rw [Int.toNat_of_nonneg hj]
theorem zlk_no {ps : List (Int × Int)} {d a : Int} (h : ∀ q ∈ ps, q.1 ≠ a) : Op.lookupswitch.offset ps d a = d := by
  induction ps with
  | nil => rfl
  | cons q t ih =>
    obtain ⟨k, o⟩ := q
    unfold Op.lookupswitch.offset
    have h1 : ¬ k = a := h (k, o) List.mem_cons_self
    have h2 := ih (fun q hq => h q (List.mem_cons_of_mem _ hq))
    first | (rw [if_neg h1]; exact h2) | (split <;> first | exact h2 | (exfalso; simp_all))
