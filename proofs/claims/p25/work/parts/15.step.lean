/-! a tick, over one row -/
theorem zall {Q : Int → Prop} {k : Int} (h : ∀ j : Int, 0 ≤ j → j < k → Q j) (hk : Q k) : ∀ j : Int, 0 ≤ j → j < k + 1 → Q j := by
  intro j h0 h1
  by_cases e : j = k
  · subst e; exact hk
  · exact h j h0 (by omega)
theorem bk_lo {N : Int → Int} {p j v k : Int} (hp : 0 ≤ p) (hj : 0 ≤ j) (hk : k < 160) : bk N p j v k = N k := zu_n (by omega)
theorem pk_bk {N : Int → Int} {p j v p' j' : Int} (hj : 0 ≤ j ∧ j ≤ 9) (hj' : 0 ≤ j' ∧ j' ≤ 9) : pk (bk N p j v) p' j' = if p' = p ∧ j' = j then v else pk N p' j' := by
  unfold pk bk zu
  by_cases e : p' = p ∧ j' = j
  · rw [if_pos e, if_pos (by omega)]
  · rw [if_neg e, if_neg (by omega)]
theorem pk_bn {N : Int → Int} {p j v j' : Int} (h : j ≠ j') : pk (bk N p j v) p j' = pk N p j' := by
  unfold pk bk
  exact zu_n (by omega)
theorem pk_bs {N : Int → Int} {p j v : Int} : pk (bk N p j v) p j = v := zu_s
/-- the same mesh and rule -/
def same (N N' : Int → Int) : Prop := ∀ k : Int, 0 ≤ k → k < 60 → k ≠ 2 → k ≠ 3 → k ≠ 6 → N' k = N k
theorem nb_same {N N' : Int → Int} (h : same N N') (b d : Int) : nb N' b d = nb N b d := by
  unfold nb
  rw [h 4 (by omega) (by omega) (by omega) (by omega) (by omega), h 5 (by omega) (by omega) (by omega) (by omega) (by omega)]
theorem lkm_same {N N' : Int → Int} (h : same N N') (b d : Int) : lkm N' b d = lkm N b d := by
  unfold lkm nbm
  rw [nb_same h]
theorem opn_same {N N' : Int → Int} {b d : Int} (hw : wf N) (h : same N N') (hb : 0 ≤ b ∧ b < N 4 * N 5) (hd : 0 ≤ d ∧ d ≤ 3) : opn N' b d ↔ opn N b d := by
  unfold opn
  rw [nb_same h, lkm_same h]
  constructor
  · intro ⟨h1, h2⟩
    have hl := lkm_rng hw hb hd h1
    rw [h _ (by omega) (by omega) (by omega) (by omega) (by omega)] at h2
    exact ⟨h1, h2⟩
  · intro ⟨h1, h2⟩
    have hl := lkm_rng hw hb hd h1
    rw [h _ (by omega) (by omega) (by omega) (by omega) (by omega)]
    exact ⟨h1, h2⟩
/-- what may stand in a packet's place -/
def okv (N : Int → Int) (j v : Int) : Prop := ((j = 0 ∨ j = 1 ∨ j = 3) → 0 ≤ v ∧ v < N 4 * N 5) ∧ (j = 2 → 0 ≤ v ∧ v ≤ 2) ∧ (j = 5 → 0 ≤ v ∧ v ≤ 4) ∧ (j = 9 → 0 ≤ v ∧ v ≤ 1)
theorem wf_bk {N : Int → Int} {p j v : Int} (hw : wf N) (hp : 0 ≤ p) (hj : 0 ≤ j ∧ j ≤ 9) (hv : okv N j v) : wf (bk N p j v) := by
  obtain ⟨w0, w1, w2, hc, hr, w6, wl, wp⟩ := hw
  have lo : ∀ k : Int, k < 160 → bk N p j v k = N k := fun k hk => bk_lo hp hj.1 hk
  unfold wf
  rw [lo 0 (by omega), lo 1 (by omega), lo 2 (by omega), lo 4 (by omega), lo 5 (by omega), lo 6 (by omega)]
  refine ⟨w0, w1, w2, hc, hr, w6, fun k h1 h2 => by rw [lo k (by omega)]; exact wl k h1 h2, fun x h1 h2 => ?_⟩
  have hx := wp x h1 h2
  obtain ⟨v1, v2, v3, v4⟩ := hv
  rw [pk_bk hj (by omega), pk_bk hj (by omega), pk_bk hj (by omega), pk_bk hj (by omega), pk_bk hj (by omega), pk_bk hj (by omega)]
  refine ⟨?_, ?_, ?_, ?_, ?_, ?_⟩ <;> split <;> omega
theorem wf_zu {N : Int → Int} {i v : Int} (hw : wf N) (hi : 60 ≤ i ∧ i < 160) : wf (zu N i v) := by
  obtain ⟨w0, w1, w2, hc, hr, w6, wl, wp⟩ := hw
  have lo : ∀ k : Int, (k < 60 ∨ 160 ≤ k) → zu N i v k = N k := fun k hk => zu_n (by omega)
  have pkx : ∀ x j : Int, 0 ≤ x → 0 ≤ j → pk (zu N i v) x j = pk N x j := fun x j hx hj => zu_n (by omega)
  unfold wf
  rw [lo 0 (by omega), lo 1 (by omega), lo 2 (by omega), lo 4 (by omega), lo 5 (by omega), lo 6 (by omega)]
  refine ⟨w0, w1, w2, hc, hr, w6, fun k h1 h2 => by rw [lo k (by omega)]; exact wl k h1 h2, fun x h1 h2 => ?_⟩
  have hx := wp x h1 h2
  rw [pkx x 0 h1 (by omega), pkx x 1 h1 (by omega), pkx x 2 h1 (by omega), pkx x 3 h1 (by omega), pkx x 5 h1 (by omega), pkx x 9 h1 (by omega)]
  exact hx
theorem wf_tk {N : Int → Int} {v : Int} (hw : wf N) : wf (zu N 3 v) := by
  obtain ⟨w0, w1, w2, hc, hr, w6, wl, wp⟩ := hw
  have lo : ∀ k : Int, k ≠ 3 → zu N 3 v k = N k := fun k hk => zu_n hk
  have pkx : ∀ x j : Int, 0 ≤ x → 0 ≤ j → pk (zu N 3 v) x j = pk N x j := fun x j hx hj => zu_n (by omega)
  unfold wf
  rw [lo 0 (by omega), lo 1 (by omega), lo 2 (by omega), lo 4 (by omega), lo 5 (by omega), lo 6 (by omega)]
  refine ⟨w0, w1, w2, hc, hr, w6, fun k h1 h2 => by rw [lo k (by omega)]; exact wl k h1 h2, fun x h1 h2 => ?_⟩
  have hx := wp x h1 h2
  rw [pkx x 0 h1 (by omega), pkx x 1 h1 (by omega), pkx x 2 h1 (by omega), pkx x 3 h1 (by omega), pkx x 5 h1 (by omega), pkx x 9 h1 (by omega)]
  exact hx
/-- a move of a packet to a side -/
def mvA (N : Int → Int) (p a5 a9 x : Int) : Int → Int := bk (bk (bk (bk N p 4 (pk N p 4 + 1)) p 5 a5) p 9 a9) p 3 x
def mvB (N : Int → Int) (i : Int) : Int → Int := zu N i (N i + 1)
def mvC (N : Int → Int) (p : Int) : Int → Int := bk (bk N p 2 2) p 8 (bk N p 2 2 3)
noncomputable def mvN (N : Int → Int) (p d : Int) : Int → Int :=
  if nb N (pk N p 3) d = pk N p 1 then mvC (mvB (mvA N p (pk N p 5 + zb (dtr N (pk N p 3) (nb N (pk N p 3) d) (pk N p 1))) (if d = 0 then pk N p 9 else 1) (nb N (pk N p 3) d)) (60 + 4 * pk N p 3 + d)) p
  else mvB (mvA N p (pk N p 5 + zb (dtr N (pk N p 3) (nb N (pk N p 3) d) (pk N p 1))) (if d = 0 then pk N p 9 else 1) (nb N (pk N p 3) d)) (60 + 4 * pk N p 3 + d)
noncomputable def stpN (N : Int → Int) (p : Int) : Int → Int :=
  if pk N p 2 = 0 then bk (bk N p 2 (zb (ins N (pk N p 3) < N 2))) p 6 (pk N p 6 + (1 - zb (ins N (pk N p 3) < N 2)))
  else if pk N p 2 = 1 then (if 0 ≤ goN N p then mvN N p (goN N p) else bk N p 6 (pk N p 6 + 1))
  else N
noncomputable def stN (N : Int → Int) : Nat → (Int → Int)
  | 0 => N
  | i + 1 => stpN (stN N i) i
noncomputable def pasN (N : Int → Int) : Int → Int := mvB (stN N (N 6).toNat) 3
noncomputable def tkN (N : Int → Int) : Nat → (Int → Int)
  | 0 => N
  | i + 1 => pasN (tkN N i)
theorem goN_spec {N : Int → Int} {p : Int} (h : 0 ≤ goN N p) : goN N p < 4 ∧ pss N (pk N p 1) (stg N p) (goN N p) ∧ rmP N p (goN N p) := by
  unfold goN at h ⊢
  unfold gos at h ⊢
  by_cases hx : ∃ r, isF N (pk N p 1) (stg N p) (rmP N p) r
  · rw [dif_pos hx] at h ⊢
    rcases Classical.choose_spec hx with ⟨a1, a2⟩ | ⟨a1, a2, a3, a4, a5⟩
    · omega
    · exact ⟨a2, a3, a4⟩
  · rw [dif_neg hx] at h
    omega
theorem mvA_lo {N : Int → Int} {p a5 a9 x k : Int} (hp : 0 ≤ p) (hk : k < 160) : mvA N p a5 a9 x k = N k := by
  unfold mvA
  rw [bk_lo hp (by omega) hk, bk_lo hp (by omega) hk, bk_lo hp (by omega) hk, bk_lo hp (by omega) hk]
theorem wf_mv {N : Int → Int} {p d : Int} (hw : wf N) (hp : 0 ≤ p ∧ p < N 6) (hd : 0 ≤ d ∧ d ≤ 3) (hps : pss N (pk N p 1) (stg N p) d) : wf (mvN N p d) ∧ ∀ k : Int, k < 60 → mvN N p d k = N k := by
  have wpp := hw.2.2.2.2.2.2.2 p hp.1 hp.2
  have hst := stg_rng hw hp
  have hnb := pss_nb hw hp hd hps
  have hms := mvd_spec hw ⟨hst.1, hst.2.1⟩ hd hps.1
  have w1 := hw.2.1
  have hcr := wf_cr hw
  have h5 : 0 ≤ pk N p 5 + zb (dtr N (pk N p 3) (nb N (pk N p 3) d) (pk N p 1)) ∧ pk N p 5 + zb (dtr N (pk N p 3) (nb N (pk N p 3) d) (pk N p 1)) ≤ 4 := by
    have hz := hms.1.2.2
    rw [hst.2.2.1, hst.2.2.2.2] at hz
    rcases zb_01 (dtr N (pk N p 3) (nb N (pk N p 3) d) (pk N p 1)) with z | z
    · omega
    · have hd1 := zb_eq1.mp z
      have : ¬ N 1 ≤ pk N p 5 := fun q => hz ⟨hd1, q⟩
      omega
  have h9 : 0 ≤ (if d = 0 then pk N p 9 else 1) ∧ (if d = 0 then pk N p 9 else 1) ≤ 1 := by split <;> omega
  unfold mvN
  generalize pk N p 5 + zb (dtr N (pk N p 3) (nb N (pk N p 3) d) (pk N p 1)) = a5 at h5 ⊢
  generalize (if d = 0 then pk N p 9 else 1) = a9 at h9 ⊢
  have wA : wf (mvA N p a5 a9 (nb N (pk N p 3) d)) := by
    unfold mvA
    have e4 : ∀ (M : Int → Int) (j v : Int), 0 ≤ j → bk M p j v 4 = M 4 := fun M j v hj => bk_lo hp.1 hj (by omega)
    have e5 : ∀ (M : Int → Int) (j v : Int), 0 ≤ j → bk M p j v 5 = M 5 := fun M j v hj => bk_lo hp.1 hj (by omega)
    refine wf_bk (wf_bk (wf_bk (wf_bk hw hp.1 (by omega) ⟨by omega, by omega, by omega, by omega⟩) hp.1 (by omega) ⟨by omega, by omega, by omega, by omega⟩) hp.1 (by omega) ⟨by omega, by omega, by omega, by omega⟩) hp.1 (by omega) ⟨?_, by omega, by omega, by omega⟩
    rw [e4 _ _ _ (by omega), e4 _ _ _ (by omega), e4 _ _ _ (by omega), e5 _ _ _ (by omega), e5 _ _ _ (by omega), e5 _ _ _ (by omega)]
    intro _
    exact hnb
  have wB : wf (mvB (mvA N p a5 a9 (nb N (pk N p 3) d)) (60 + 4 * pk N p 3 + d)) := wf_zu wA (by omega)
  have lB : ∀ k : Int, k < 60 → mvB (mvA N p a5 a9 (nb N (pk N p 3) d)) (60 + 4 * pk N p 3 + d) k = N k := by
    intro k hk
    unfold mvB
    rw [zu_n (by omega), mvA_lo hp.1 (by omega)]
  by_cases e : nb N (pk N p 3) d = pk N p 1
  · rw [if_pos e]
    refine ⟨?_, fun k hk => ?_⟩
    · unfold mvC
      exact wf_bk (wf_bk wB hp.1 (by omega) ⟨by omega, by omega, by omega, by omega⟩) hp.1 (by omega) ⟨by omega, by omega, by omega, by omega⟩
    · unfold mvC
      rw [bk_lo hp.1 (by omega) (by omega), bk_lo hp.1 (by omega) (by omega)]
      exact lB k hk
  · rw [if_neg e]
    exact ⟨wB, lB⟩
theorem wf_stp {N : Int → Int} {p : Int} (hw : wf N) (hp : 0 ≤ p ∧ p < N 6) : wf (stpN N p) ∧ ∀ k : Int, k < 60 → stpN N p k = N k := by
  unfold stpN
  by_cases e0 : pk N p 2 = 0
  · rw [if_pos e0]
    have hz := zb_rng (ins N (pk N p 3) < N 2)
    refine ⟨wf_bk (wf_bk hw hp.1 (by omega) ⟨by omega, by omega, by omega, by omega⟩) hp.1 (by omega) ⟨by omega, by omega, by omega, by omega⟩, fun k hk => ?_⟩
    rw [bk_lo hp.1 (by omega) (by omega), bk_lo hp.1 (by omega) (by omega)]
  · rw [if_neg e0]
    by_cases e1 : pk N p 2 = 1
    · rw [if_pos e1]
      by_cases g : 0 ≤ goN N p
      · rw [if_pos g]
        obtain ⟨g1, g2, g3⟩ := goN_spec g
        exact wf_mv hw hp (by omega) g2
      · rw [if_neg g]
        exact ⟨wf_bk hw hp.1 (by omega) ⟨by omega, by omega, by omega, by omega⟩, fun k hk => bk_lo hp.1 (by omega) (by omega)⟩
    · rw [if_neg e1]
      exact ⟨hw, fun _ _ => rfl⟩
theorem wf_st {N : Int → Int} (hw : wf N) : ∀ i : Nat, (i : Int) ≤ N 6 → wf (stN N i) ∧ ∀ k : Int, k < 60 → stN N i k = N k
  | 0, _ => ⟨hw, fun _ _ => rfl⟩
  | i + 1, hi => by
    obtain ⟨h1, h2⟩ := wf_st hw i (by omega)
    have h3 := wf_stp (p := (i : Int)) h1 ⟨by omega, by rw [h2 6 (by omega)]; omega⟩
    exact ⟨h3.1, fun k hk => (h3.2 k hk).trans (h2 k hk)⟩
theorem lo_same {N N' : Int → Int} (h : ∀ k : Int, k < 60 → N' k = N k) : same N N' := fun k _ h1 _ _ _ => h k h1
theorem wf_pas {N : Int → Int} (hw : wf N) : wf (pasN N) ∧ ∀ k : Int, k < 60 → k ≠ 3 → pasN N k = N k := by
  have h6 := hw.2.2.2.2.2.1
  obtain ⟨h1, h2⟩ := wf_st hw (N 6).toNat (by omega)
  unfold pasN mvB
  refine ⟨wf_tk h1, fun k hk h3 => ?_⟩
  rw [zu_n h3, h2 k hk]
theorem pas_3 {N : Int → Int} (hw : wf N) : pasN N 3 = N 3 + 1 := by
  have h6 := hw.2.2.2.2.2.1
  obtain ⟨h1, h2⟩ := wf_st hw (N 6).toNat (by omega)
  unfold pasN mvB
  rw [zu_s, h2 3 (by omega)]
theorem wf_tks {N : Int → Int} (hw : wf N) : ∀ i : Nat, wf (tkN N i) ∧ (∀ k : Int, k < 60 → k ≠ 3 → tkN N i k = N k) ∧ tkN N i 3 = N 3 + i
  | 0 => ⟨hw, fun _ _ _ => rfl, by show N 3 = N 3 + ((0 : Nat) : Int); omega⟩
  | i + 1 => by
    obtain ⟨h1, h2, h3⟩ := wf_tks hw i
    obtain ⟨g1, g2⟩ := wf_pas h1
    refine ⟨g1, fun k hk h3 => (g2 k hk h3).trans (h2 k hk h3), ?_⟩
    show pasN (tkN N i) 3 = _
    rw [pas_3 h1, h3]
    omega
