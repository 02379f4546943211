theorem fr_ne {N : Int → Int} {to s : Int} (hw : wf N) (ht : 0 ≤ to ∧ to < N 4 * N 5) (hs : 0 ≤ s ∧ s < 10 * (N 4 * N 5)) : fr N to s = -6 ∨ 0 ≤ fr N to s := (fr_rng hw ht hs).1
theorem sndE_cases (N : Int → Int) (a b : Int) : sndE N a b = 0 ∨ sndE N a b = -1 ∨ sndE N a b = -4 ∨ sndE N a b = -5 := by
  unfold sndE
  by_cases h1 : isB N a ∧ isB N b ∧ a ≠ b
  · rw [zif_t h1]
    by_cases h2 : N 6 = 40
    · rw [zif_t h2]; omega
    · rw [zif_f h2]
      by_cases h3 : fr N b (10 * a) < 0
      · rw [zif_t h3]; omega
      · rw [zif_f h3]; omega
  · rw [zif_f h1]; omega
theorem sndE_ok {N : Int → Int} {a b : Int} (h : sndE N a b = 0) : isB N a ∧ isB N b ∧ a ≠ b ∧ N 6 ≠ 40 ∧ 0 ≤ fr N b (10 * a) := by
  unfold sndE at h
  by_cases h1 : isB N a ∧ isB N b ∧ a ≠ b
  · rw [zif_t h1] at h
    by_cases h2 : N 6 = 40
    · rw [zif_t h2] at h; omega
    · rw [zif_f h2] at h
      by_cases h3 : fr N b (10 * a) < 0
      · rw [zif_t h3] at h; omega
      · exact ⟨h1.1, h1.2.1, h1.2.2, h2, by omega⟩
  · rw [zif_f h1] at h; omega
theorem pk_clr {N : Int → Int} {p p' j : Int} (hj : 0 ≤ j ∧ j ≤ 9) : pk (clrN N p) p' j = if p' = p then 0 else pk N p' j := by
  unfold pk clrN zcp
  by_cases e : p' = p
  · rw [if_pos e, if_pos (by omega)]
  · rw [if_neg e, if_neg (by omega)]
theorem snd_pk {N : Int → Int} {a b p j : Int} (h6 : 0 ≤ N 6) (hp : 0 ≤ p) (hj : 0 ≤ j ∧ j ≤ 9) : pk (sndN N a b) p j = if p = N 6 then (if j = 0 ∨ j = 3 then a else if j = 1 then b else if j = 7 then N 3 else if j = 8 then -6 else 0) else pk N p j := by
  unfold sndN
  rw [pk_bk (by omega) hj, pk_bk (by omega) hj, pk_bk (by omega) hj, pk_bk (by omega) hj, pk_bk (by omega) hj, pk_clr hj]
  have e6 : pk (zu N 6 (N 6 + 1)) p j = pk N p j := zu_n (by omega)
  rw [e6]
  by_cases e : p = N 6
  · rw [if_pos e, if_pos e]
    (repeat' split) <;> omega
  · rw [if_neg e, if_neg e]
    (repeat' split) <;> omega
theorem wf_snd {N : Int → Int} {a b : Int} (hw : wf N) (h : sndE N a b = 0) : wf (sndN N a b) ∧ sndN N a b 6 = N 6 + 1 ∧ sndN N a b 3 = N 3 := by
  obtain ⟨w0, w1, w2, hc, hr, w6, wl, wp⟩ := id hw
  obtain ⟨h1, h2, h3, h4, h5⟩ := sndE_ok h
  have lo : ∀ k : Int, k < 160 → k ≠ 6 → sndN N a b k = N k := fun k hk h6 => snd_lo w6.1 hk h6
  have e6 : sndN N a b 6 = N 6 + 1 := by
    unfold sndN clrN
    rw [bk_lo w6.1 (by omega) (by omega), bk_lo w6.1 (by omega) (by omega), bk_lo w6.1 (by omega) (by omega), bk_lo w6.1 (by omega) (by omega), bk_lo w6.1 (by omega) (by omega), zcp_out (by omega), zu_s]
  refine ⟨?_, e6, lo 3 (by omega) (by omega)⟩
  unfold wf
  rw [lo 0 (by omega) (by omega), lo 1 (by omega) (by omega), lo 2 (by omega) (by omega), lo 4 (by omega) (by omega), lo 5 (by omega) (by omega), e6]
  refine ⟨w0, w1, w2, hc, hr, by omega, fun k k1 k2 => by rw [lo k (by omega) (by omega)]; exact wl k k1 k2, fun p p1 p2 => ?_⟩
  rw [snd_pk w6.1 p1 (by omega), snd_pk w6.1 p1 (by omega), snd_pk w6.1 p1 (by omega), snd_pk w6.1 p1 (by omega), snd_pk w6.1 p1 (by omega), snd_pk w6.1 p1 (by omega)]
  unfold isB at h1 h2
  by_cases e : p = N 6
  · rw [if_pos e, if_pos e, if_pos e, if_pos e, if_pos e, if_pos e]
    refine ⟨?_, ?_, ?_, ?_, ?_, ?_⟩ <;> (repeat' split) <;> omega
  · rw [if_neg e, if_neg e, if_neg e, if_neg e, if_neg e, if_neg e]
    exact wp p p1 (by omega)
theorem lnk_idx {N : Int → Int} {b d w : Int} (hw : wf N) (h : lnkQ N b d w) : 10 ≤ lkm N b d ∧ lkm N b d < 60 := by
  obtain ⟨h1, h2, h3⟩ := h
  unfold badK at h1
  have hb : isB N b := Classical.byContradiction (fun z => h1 (Or.inl z))
  have hn : 0 ≤ nb N b d := by
    have : ¬ nb N b d < 0 := fun z => h1 (Or.inr ⟨h2.1, h2.2, z⟩)
    omega
  exact lkm_rng hw hb h2 hn
theorem wf_ord {N : Int → Int} {k a b : Int} (hw : wf N) (h3 : 0 ≤ N 3) (ha : a ≤ 99) : wf (ordM N k a b) ∧ 0 ≤ ordM N k a b 3 ∧ ordM N k a b 3 ≤ N 3 + 99 ∧ (ordR N k a b < 0 → ordM N k a b = N) := by
  have w6 := hw.2.2.2.2.2.1
  have lk : ∀ w : Int, (w = 0 ∨ w = 1) → wf (lnkM N a b w) ∧ 0 ≤ lnkM N a b w 3 ∧ lnkM N a b w 3 ≤ N 3 + 99 ∧ (lnkR N a b w < 0 → lnkM N a b w = N) := by
    intro w hv
    unfold lnkM lnkR
    by_cases hq : lnkQ N a b w
    · have hi := lnk_idx hw hq
      have hb := hw.2.2.2.2.2.2.1 _ hi.1 hi.2
      rw [zff_t hq, zif_t hq]
      refine ⟨wf_lk hw hi (by omega), ?_, ?_, fun z => by omega⟩ <;> rw [zu_n (by omega)] <;> omega
    · rw [zff_f hq]
      exact ⟨hw, h3, by omega, fun _ => rfl⟩
  unfold ordM ordR
  by_cases e1 : k = 115
  · rw [if_pos e1, if_pos e1]
    unfold sndM sndR
    by_cases hs : sndE N a b = 0
    · have h := wf_snd hw hs
      rw [zff_t hs, zif_t hs]
      exact ⟨h.1, by rw [h.2.2]; exact h3, by rw [h.2.2]; omega, fun z => by omega⟩
    · rw [zff_f hs]
      exact ⟨hw, h3, by omega, fun _ => rfl⟩
  · rw [if_neg e1, if_neg e1]
    by_cases e2 : k = 98
    · rw [if_pos e2, if_pos e2]; exact lk 0 (Or.inl rfl)
    · rw [if_neg e2, if_neg e2]
      by_cases e3 : k = 109
      · rw [if_pos e3, if_pos e3]; exact lk 1 (Or.inr rfl)
      · rw [if_neg e3, if_neg e3]
        unfold tckM tckR
        by_cases ht : 1 ≤ a ∧ a ≤ 300
        · obtain ⟨t1, t2, t3⟩ := wf_tks hw a.toNat
          rw [zff_t ht, zif_t ht]
          exact ⟨t1, by omega, by omega, fun z => by omega⟩
        · rw [zff_f ht]
          exact ⟨hw, h3, by omega, fun _ => rfl⟩
/-- the orders of a text, as they are read -/
noncomputable def oK (P : Int → Int) (ln : Int) : Int → Int := fun j => sgn P ln (ost P ln j.toNat)
noncomputable def oF (P : Int → Int) (ln : Int) : Int → Int := fun j => numV P ln (ost P ln j.toNat + 1)
noncomputable def oS (P : Int → Int) (ln : Int) : Int → Int := fun j => ordS P ln (ost P ln j.toNat)
noncomputable def crN (N P : Int → Int) (ln : Int) (j : Int) : Int → Int := cro N (oK P ln) (oF P ln) (oS P ln) j.toNat
def crQ (N P : Int → Int) (ln c : Int) : Int → Prop := fun j => j = c ∨ ordR (crN N P ln j) (oK P ln j) (oF P ln j) (oS P ln j) < 0
noncomputable def crR (N P : Int → Int) (ln : Int) : Int := fsk (crQ N P ln (flt P ln 100 0 0).2) (flt P ln 100 0 0).2
theorem ord_116 {N : Int → Int} {k a b b' : Int} (h : k ≠ 116 → b = b') (hk : k = 115 ∨ k = 98 ∨ k = 109 ∨ k = 116) : ordR N k a b = ordR N k a b' ∧ ordM N k a b = ordM N k a b' := by
  by_cases e : k = 116
  · subst e
    unfold ordR ordM
    rw [if_neg (by decide), if_neg (by decide), if_neg (by decide), if_neg (by decide), if_neg (by decide), if_neg (by decide), if_neg (by decide), if_neg (by decide), if_neg (by decide), if_neg (by decide), if_neg (by decide), if_neg (by decide)]
    exact ⟨rfl, rfl⟩
  · rw [h e]; exact ⟨rfl, rfl⟩
theorem crN_s {N M P : Int → Int} {ln j : Int} (hj : 0 ≤ j) (h : M = crN N P ln j) : crN N P ln (j + 1) = ordM M (oK P ln j) (oF P ln j) (oS P ln j) := cro_s hj h
theorem ords_at {P od : Int → Int} {ln r j : Int} (hpd : padOK P ln) (h : ordsOK P ln r (ord0 od) (ord1 od) (ord2 od)) (h0 : 0 ≤ j) (h1 : j < r) (N : Int → Int) :
    (od (3 * j) = 115 ∨ od (3 * j) = 98 ∨ od (3 * j) = 109 ∨ od (3 * j) = 116) ∧ (0 ≤ od (3 * j + 1) ∧ od (3 * j + 1) ≤ 99) ∧ (¬ od (3 * j) = 116 → -2147483648 ≤ od (3 * j + 2) ∧ od (3 * j + 2) < 2147483648) ∧
    ordR N (od (3 * j)) (od (3 * j + 1)) (od (3 * j + 2)) = ordR N (oK P ln j) (oF P ln j) (oS P ln j) ∧ ordM N (od (3 * j)) (od (3 * j + 1)) (od (3 * j + 2)) = ordM N (oK P ln j) (oF P ln j) (oS P ln j) := by
  obtain ⟨e0, e1, e2, e3⟩ := h j h0 h1
  have e0 : od (3 * j) = oK P ln j := e0
  have e1 : od (3 * j + 1) = oF P ln j := e1
  have e2 : od (3 * j) ≠ 116 → od (3 * j + 2) = oS P ln j := e2
  have hk : oK P ln j = 115 ∨ oK P ln j = 98 ∨ oK P ln j = 109 ∨ oK P ln j = 116 := e3.1
  have hp0 : 0 ≤ ost P ln j.toNat := by
    -- the character of the kind is there, so the place is within the text
    have : ∀ n : Nat, 0 ≤ ost P ln n := by
      intro n
      induction n with
      | zero => exact Int.le_refl 0
      | succ n ih =>
        show 0 ≤ ordE P ln (ost P ln n) + 1
        have : ost P ln n ≤ ordE P ln (ost P ln n) := by
          have h1 := num_rng hpd (by omega : 0 ≤ ost P ln n + 1)
          have h2 := num_rng hpd (by omega : 0 ≤ numP P ln (ost P ln n + 1) + 1)
          unfold ordE
          by_cases hk : knd P ln (ost P ln n)
          · rw [zif_t hk]; (repeat' split) <;> omega
          · rw [zif_f hk]; omega
        omega
    exact this _
  have hf := num_rng hpd (by omega : 0 ≤ ost P ln j.toNat + 1)
  have hf2 : 0 ≤ oF P ln j ∧ oF P ln j ≤ 99 := ⟨e3.2.1, hf.2.1⟩
  rw [e0, e1]
  have h116 := ord_116 (N := N) (k := oK P ln j) (a := oF P ln j) (b := od (3 * j + 2)) (b' := oS P ln j) (fun z => e2 (by rw [e0]; exact z)) hk
  refine ⟨hk, hf2, fun z => ?_, h116.1, h116.2⟩
  rw [e2 (by rw [e0]; exact z)]
  have hs1 := num_rng hpd (by omega : 0 ≤ numP P ln (ost P ln j.toNat + 1) + 1)
  have hs2 := sd_rng P ln (numP P ln (ost P ln j.toNat + 1))
  unfold oS ordS
  split <;> omega
theorem ordR_rng {N : Int → Int} {k a b : Int} (hw : wf N) (h3 : 0 ≤ N 3) (ha : 0 ≤ a ∧ a ≤ 99) : -6 ≤ ordR N k a b ∧ ordR N k a b ≤ N 3 + 200 := by
  have w6 := hw.2.2.2.2.2.1
  have lk : ∀ w : Int, (w = 0 ∨ w = 1) → -6 ≤ lnkR N a b w ∧ lnkR N a b w ≤ 1 := by
    intro w hv
    unfold lnkR
    by_cases hq : lnkQ N a b w
    · have hi := lnk_idx hw hq
      have hb := hw.2.2.2.2.2.2.1 _ hi.1 hi.2
      rw [zif_t hq]; omega
    · rw [zif_f hq]
      by_cases h2 : badK N a b
      · rw [zif_t h2]; omega
      · rw [zif_f h2]; omega
  unfold ordR
  by_cases e1 : k = 115
  · rw [if_pos e1]
    unfold sndR
    have hs := sndE_cases N a b
    by_cases h : sndE N a b = 0
    · rw [zif_t h]; omega
    · rw [zif_f h]; omega
  · rw [if_neg e1]
    by_cases e2 : k = 98
    · rw [if_pos e2]; have := lk 0 (Or.inl rfl); omega
    · rw [if_neg e2]
      by_cases e3 : k = 109
      · rw [if_pos e3]; have := lk 1 (Or.inr rfl); omega
      · rw [if_neg e3]
        unfold tckR
        by_cases ht : 1 ≤ a ∧ a ≤ 300
        · rw [zif_t ht]; omega
        · rw [zif_f ht]; omega
