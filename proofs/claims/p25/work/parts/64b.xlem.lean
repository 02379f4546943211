/-! for the calls of the class -/
theorem wf_set {N : Int → Int} {i v : Int} (hw : wf N) (h : okS i v) : wf (zu N i v) := by
  obtain ⟨w0, w1, w2, hc, hr, w6, wl, wp⟩ := hw
  have hi : 0 ≤ i ∧ i ≤ 2 := by unfold okS at h; omega
  have lo : ∀ k : Int, 3 ≤ k → zu N i v k = N k := fun k hk => zu_n (by omega)
  have pkx : ∀ x j : Int, 0 ≤ x → 0 ≤ j → pk (zu N i v) x j = pk N x j := fun x j hx hj => zu_n (by omega)
  unfold wf
  rw [lo 4 (by omega), lo 5 (by omega), lo 6 (by omega)]
  refine ⟨?_, ?_, ?_, hc, hr, w6, fun k h1 h2 => by rw [lo k (by omega)]; exact wl k h1 h2, fun x h1 h2 => ?_⟩
  · unfold okS at h; unfold zu; split <;> omega
  · unfold okS at h; unfold zu; split <;> omega
  · unfold okS at h; unfold zu; split <;> omega
  · have hx := wp x h1 h2
    rw [pkx x 0 h1 (by omega), pkx x 1 h1 (by omega), pkx x 2 h1 (by omega), pkx x 3 h1 (by omega), pkx x 5 h1 (by omega), pkx x 9 h1 (by omega)]
    exact hx
theorem msh_v {N : Int → Int} {c r j : Int} : mshN N c r j = if 10 ≤ j ∧ j < 60 then 0 else if j = 5 then r else if j = 4 then c else N j := by
  by_cases h : 10 ≤ j ∧ j < 60
  · rw [if_pos h]; exact zcp_in (by omega)
  · rw [if_neg h]
    have e : mshN N c r j = zu (zu N 4 c) 5 r j := zcp_out (by omega)
    rw [e]; rfl
theorem wf_msh {N : Int → Int} {c r : Int} (hw : wf N) (h6 : N 6 ≤ 0) (hl : okL c r) : wf (mshN N c r) := by
  obtain ⟨w0, w1, w2, hc, hr, w6, wl, wp⟩ := hw
  unfold wf
  have lo : ∀ k : Int, 0 ≤ k → k < 10 → k ≠ 4 → k ≠ 5 → mshN N c r k = N k := fun k h0 h1 h2 h3 => by rw [msh_v, if_neg (by omega), if_neg h3, if_neg h2]
  rw [lo 0 (by omega) (by omega) (by omega) (by omega), lo 1 (by omega) (by omega) (by omega) (by omega), lo 2 (by omega) (by omega) (by omega) (by omega), lo 6 (by omega) (by omega) (by omega) (by omega)]
  have e4 : mshN N c r 4 = c := by rw [msh_v, if_neg (by omega), if_neg (by omega), if_pos rfl]
  have e5 : mshN N c r 5 = r := by rw [msh_v, if_neg (by omega), if_pos rfl]
  rw [e4, e5]
  exact ⟨w0, w1, w2, hl.1, hl.2, w6, fun k h1 h2 => by rw [msh_v, if_pos ⟨h1, h2⟩]; decide, fun p h0 h1 => absurd h1 (by omega)⟩
theorem wys {N op ln : Int → Int} {ef a b : Int} (hw : wf N) (hok : rOK N ef op ln) (ha : isB N a) (hb : isB N b) : (fr N b (10 * a) = -6 → mn N b (10 * a) = 0) ∧ (fr N b (10 * a) ≠ -6 → ln (b * 50 + a) ≠ 1000 ∧ mn N b (10 * a) = wq N b (ln (b * 50 + a)).toNat a) := by
  have hcr := wf_cr hw
  have hf := (wl_fr hw hok ha hb).1
  unfold isB at ha hb
  have hd := dist_le hw ha hb
  have w1 := hw.2.1
  rw [show b * 50 + (0 * 25 + a) = b * 50 + a by omega] at hf
  refine ⟨fun h => ?_, fun h => ?_⟩
  · rcases ldn_fr N b (10 * a) with ⟨k, _, e, _⟩ | ⟨_, _, e⟩
    · omega
    · exact e
  · have hv : vsp N a := ⟨by omega, by omega, by omega⟩
    rcases hok.2 b a hb.1 hb.2 hv with ⟨e, _⟩ | ⟨m, e, hm, h1, h2⟩
    · rw [e, if_neg (by omega)] at hf; exact absurd hf h
    · have hs : spo (10 * a) = a := by unfold spo; omega
      have hc : (m : Int) ≤ dist N (10 * a / 10) b + 2 * max 0 (N 1 - 10 * a % 5) := by
        rw [show 10 * a / 10 = a by omega, show 10 * a % 5 = 0 by omega]
        rw [e] at hf
        by_cases g : (m : Int) ≤ dist N a b + 2 * N 1
        · omega
        · rw [if_neg g] at hf; exact absurd hf h
      refine ⟨by omega, ?_⟩
      rw [e, Int.toNat_natCast]
      have := lqo_mn (m := m) hw hb (s := 10 * a) (by omega) (by rw [hs]; exact h1) (by rw [hs]; exact h2) hc
      rw [this, hs]
theorem lkE_0 {N : Int → Int} {b d w : Int} : (lkE N b d w = 0 ↔ lnkQ N b d w) ∧ (¬ lkE N b d w = 0 → lkE N b d w < 0 ∧ lkE N b d w = lnkR N b d w) := by
  unfold lkE lnkR lnkQ
  by_cases h1 : badK N b d
  · rw [zif_t h1, zif_f (fun z => z.1 h1)]
    refine ⟨⟨fun z => absurd z (by decide), fun z => absurd h1 z.1⟩, fun _ => ⟨by decide, by rw [zif_t h1]⟩⟩
  · rw [zif_f h1]
    by_cases h2 : (0 ≤ d ∧ d ≤ 3) ∧ 0 ≤ w ∧ w ≤ 1
    · rw [zif_t h2, zif_t ⟨h1, h2⟩]
      exact ⟨⟨fun _ => ⟨h1, h2⟩, fun _ => rfl⟩, fun z => absurd rfl z⟩
    · rw [zif_f h2, zif_f (fun z => h2 z.2)]
      exact ⟨⟨fun z => absurd z (by decide), fun z => absurd z.2 h2⟩, fun _ => ⟨by decide, by rw [zif_f h1]⟩⟩
theorem bad_not {N : Int → Int} {b d : Int} (hd : 0 ≤ d ∧ d ≤ 3) (h : ¬ badK N b d) : isB N b ∧ 0 ≤ nb N b d := by
  unfold badK at h
  have hb : isB N b := Classical.byContradiction (fun z => h (Or.inl z))
  refine ⟨hb, ?_⟩
  have : ¬ nb N b d < 0 := fun z => h (Or.inr ⟨hd.1, hd.2, z⟩)
  omega
