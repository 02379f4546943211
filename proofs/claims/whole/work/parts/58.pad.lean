/-! the pad of the class: one order read -/
def sdC (c : Int) : Int := if c = 101 then 0 else if c = 119 then 1 else if c = 110 then 2 else if c = 115 then 3 else -1
def rdY (P : Int → Int) (ln pl od : Int) (k1 f1 s1 : Int → Int) (r pl' od' : Int) (k2 f2 s2 : Int → Int) : Prop := ordOK P ln pl ∧ r = 1 ∧ pl' = ordE P ln pl ∧ od' = od + 1 ∧ k2 = zu k1 od (sgn P ln pl) ∧ f2 = zu f1 od (numV P ln (pl + 1)) ∧ ∃ x : Int, s2 = zu s1 od x ∧ (sgn P ln pl ≠ 116 → x = ordS P ln pl)
def rdN (P : Int → Int) (ln pl od : Int) (k1 f1 s1 : Int → Int) (r pl' od' : Int) (k2 f2 s2 : Int → Int) : Prop := ¬ ordOK P ln pl ∧ r = 0 ∧ pl' = ordE P ln pl ∧ od' = od ∧ k2 = k1 ∧ f2 = f1 ∧ s2 = s1
def rdO (P : Int → Int) (ln pl od : Int) (k1 f1 s1 : Int → Int) (r pl' od' : Int) (k2 f2 s2 : Int → Int) : Prop := rdY P ln pl od k1 f1 s1 r pl' od' k2 f2 s2 ∨ rdN P ln pl od k1 f1 s1 r pl' od' k2 f2 s2
section RD
variable {P : Int → Int} {ln pl od : Int} {k1 f1 s1 : Int → Int}
theorem rdO_n0 (h : ¬ sgn P ln pl = 115 ∧ ¬ sgn P ln pl = 98 ∧ ¬ sgn P ln pl = 109 ∧ ¬ sgn P ln pl = 116) : rdN P ln pl od k1 f1 s1 0 pl od k1 f1 s1 := by
  have hk : ¬ knd P ln pl := by unfold knd; omega
  refine ⟨fun z => hk z.1, rfl, ?_, rfl, rfl, rfl, rfl⟩
  unfold ordE
  exact (zif_f hk).symm
theorem rdO_n1 {p' : Int} (hk : knd P ln pl) (hn : numV P ln (pl + 1) < 0) (hp : p' = numP P ln (pl + 1)) : rdN P ln pl od k1 f1 s1 0 p' od k1 f1 s1 := by
  refine ⟨fun z => by have := z.2.1; omega, rfl, ?_, rfl, rfl, rfl, rfl⟩
  unfold ordE
  rw [zif_t hk, if_pos hn, hp]
  unfold numV at hn
  unfold numP
  split
  · rename_i h
    rw [if_pos h] at hn
    split at hn <;> omega
  · rfl
theorem rdO_ns {p' : Int} (hk : sgn P ln pl = 115) (hn : 0 ≤ numV P ln (pl + 1)) (hg : sgn P ln (numP P ln (pl + 1)) = 62) (h2 : numV P ln (numP P ln (pl + 1) + 1) < 0) (hp : p' = numP P ln (numP P ln (pl + 1) + 1)) : rdN P ln pl od k1 f1 s1 0 p' od k1 f1 s1 := by
  refine ⟨fun z => by have := (z.2.2.1 hk).2; omega, rfl, ?_, rfl, rfl, rfl, rfl⟩
  unfold ordE
  rw [zif_t (show knd P ln pl from Or.inl hk), if_neg (by omega), if_neg (by omega), if_pos hk, if_pos hg, hp]
theorem rdO_ng {p' : Int} (hk : sgn P ln pl = 115) (hn : 0 ≤ numV P ln (pl + 1)) (hg : ¬ sgn P ln (numP P ln (pl + 1)) = 62) (hp : p' = numP P ln (pl + 1)) : rdN P ln pl od k1 f1 s1 0 p' od k1 f1 s1 := by
  refine ⟨fun z => hg (z.2.2.1 hk).1, rfl, ?_, rfl, rfl, rfl, rfl⟩
  unfold ordE
  rw [zif_t (show knd P ln pl from Or.inl hk), if_neg (by omega), if_neg (by omega), if_pos hk, if_neg hg, hp]
theorem rdO_nd {p' : Int} (hk : knd P ln pl) (h5 : ¬ sgn P ln pl = 115) (h6 : ¬ sgn P ln pl = 116) (hn : 0 ≤ numV P ln (pl + 1)) (hs : sdV P ln (numP P ln (pl + 1)) < 0) (hp : p' = (if sdV P ln (numP P ln (pl + 1)) < 0 then numP P ln (pl + 1) else numP P ln (pl + 1) + 1)) : rdN P ln pl od k1 f1 s1 0 p' od k1 f1 s1 := by
  refine ⟨fun z => by have := z.2.2.2 (by unfold knd at hk; omega); omega, rfl, ?_, rfl, rfl, rfl, rfl⟩
  rw [if_pos hs] at hp
  unfold ordE
  rw [zif_t hk, if_neg (by omega), if_neg h6, if_neg h5, if_pos hs, hp]
theorem rdO_yt {v p' x : Int} (hk : sgn P ln pl = 116) (hv : v = numV P ln (pl + 1)) (hn : 0 ≤ numV P ln (pl + 1)) (hp : p' = numP P ln (pl + 1)) : rdY P ln pl od k1 f1 s1 1 p' (od + 1) (zu k1 od (sgn P ln pl)) (zu f1 od v) (zu s1 od x) := by
  subst hv
  refine ⟨⟨Or.inr (Or.inr (Or.inr hk)), hn, fun z => by omega, fun z => by omega⟩, rfl, ?_, rfl, rfl, rfl, x, rfl, fun z => absurd hk z⟩
  unfold ordE
  rw [zif_t (show knd P ln pl from Or.inr (Or.inr (Or.inr hk))), if_neg (by omega), if_pos hk, hp]
theorem rdO_ys {v p' x : Int} (hk : sgn P ln pl = 115) (hv : v = numV P ln (pl + 1)) (hn : 0 ≤ numV P ln (pl + 1)) (hg : sgn P ln (numP P ln (pl + 1)) = 62) (hx : x = numV P ln (numP P ln (pl + 1) + 1)) (h2 : 0 ≤ numV P ln (numP P ln (pl + 1) + 1)) (hp : p' = numP P ln (numP P ln (pl + 1) + 1)) : rdY P ln pl od k1 f1 s1 1 p' (od + 1) (zu k1 od (sgn P ln pl)) (zu f1 od v) (zu s1 od x) := by
  subst hv
  refine ⟨⟨Or.inl hk, hn, fun _ => ⟨hg, h2⟩, fun z => by omega⟩, rfl, ?_, rfl, rfl, rfl, x, rfl, fun _ => by unfold ordS; rw [if_pos hk]; exact hx⟩
  unfold ordE
  rw [zif_t (show knd P ln pl from Or.inl hk), if_neg (by omega), if_neg (by omega), if_pos hk, if_pos hg, hp]
theorem rdO_yd {v p' x : Int} (hk : knd P ln pl) (h5 : ¬ sgn P ln pl = 115) (h6 : ¬ sgn P ln pl = 116) (hv : v = numV P ln (pl + 1)) (hn : 0 ≤ numV P ln (pl + 1)) (hx : x = sdV P ln (numP P ln (pl + 1))) (hs : 0 ≤ sdV P ln (numP P ln (pl + 1))) (hp : p' = (if sdV P ln (numP P ln (pl + 1)) < 0 then numP P ln (pl + 1) else numP P ln (pl + 1) + 1)) : rdY P ln pl od k1 f1 s1 1 p' (od + 1) (zu k1 od (sgn P ln pl)) (zu f1 od v) (zu s1 od x) := by
  subst hv
  rw [if_neg (by omega)] at hp
  refine ⟨⟨hk, hn, fun z => absurd z h5, fun _ => hs⟩, rfl, ?_, rfl, rfl, rfl, x, rfl, fun _ => by unfold ordS; rw [if_neg h5]; exact hx⟩
  unfold ordE
  rw [zif_t hk, if_neg (by omega), if_neg h6, if_neg h5, if_neg (by omega), hp]
end RD
