/-! further facts over one row of numbers -/
theorem iI_neg (a : Int) : -iI a = iI (-a) := by
  unfold iI; rw [Int32.ofInt_neg]
theorem iI_self (x : Int32) : iI x.toInt = x := by
  unfold iI
  exact Int32.ofInt_toInt x
theorem iI_rng (x : Int32) : -2147483648 ≤ x.toInt ∧ x.toInt < 2147483648 := ⟨Int32.le_toInt x, Int32.toInt_lt x⟩
theorem wg_nn {N : Int → Int} {to s d : Int} {m : Nat} : 0 ≤ wg N to s (wk N to m) d := by
  unfold wg
  split
  · exact wk_nn N to m _
  · exact Int.le_refl 0
/-- a next standing's number is no greater -/
theorem wk_next {N : Int → Int} {to s d : Int} {m : Nat} (hs : ¬ s / 10 = to) (hd : 0 ≤ d ∧ d ≤ 3) (hm : 0 ≤ mvd N s d to) : wk N to m (mvd N s d to) ≤ wk N to (m + 1) s := by
  have e : wk N to (m + 1) s = zS (wg N to s (wk N to m)) 4 := by rw [wk]; exact if_neg hs
  have e2 : wg N to s (wk N to m) d = wk N to m (mvd N s d to) := if_pos hm
  rw [e, zS4, ← e2]
  have h0 := wg_nn (N := N) (to := to) (s := s) (d := 0) (m := m)
  have h1 := wg_nn (N := N) (to := to) (s := s) (d := 1) (m := m)
  have h2 := wg_nn (N := N) (to := to) (s := s) (d := 2) (m := m)
  have h3 := wg_nn (N := N) (to := to) (s := s) (d := 3) (m := m)
  rcases d4 hd with rfl | rfl | rfl | rfl <;> omega
theorem dtr_lo {N N' : Int → Int} {a b to : Int} (h : N' 4 = N 4) : dtr N' a b to = dtr N a b to := by
  unfold dtr dist
  rw [h]
theorem mvd_same {N N' : Int → Int} {s d to : Int} (hw : wf N) (h : same N N') (hs : 0 ≤ s ∧ s < 10 * (N 4 * N 5)) (hd : 0 ≤ d ∧ d ≤ 3) : mvd N' s d to = mvd N s d to := by
  have h4 := h 4 (by omega) (by omega) (by omega) (by omega) (by omega)
  have h0 := h 0 (by omega) (by omega) (by omega) (by omega) (by omega)
  have h1 := h 1 (by omega) (by omega) (by omega) (by omega) (by omega)
  have ho := opn_same (b := s / 10) (d := d) hw h (by omega) hd
  have hok : okm N' s d to = okm N s d to := by
    unfold okm
    rw [propext ho, h0, h1, nb_same h, dtr_lo h4]
  have hnx : nxt N' s d to = nxt N s d to := by
    unfold nxt
    rw [nb_same h, dtr_lo h4]
  unfold mvd
  rw [hok, hnx]
theorem wk_same {N N' : Int → Int} {to : Int} (hw : wf N) (h : same N N') : ∀ (m : Nat) (s : Int), 0 ≤ s ∧ s < 10 * (N 4 * N 5) → wk N' to m s = wk N to m s
  | 0, s, hs => by rw [wk, wk]
  | m + 1, s, hs => by
    rw [wk, wk]
    split
    · rfl
    · refine zS_cong (n := 4) (fun d h0 h1 => ?_)
      have hd : 0 ≤ d ∧ d ≤ 3 := by omega
      unfold wg
      rw [mvd_same hw h hs hd]
      by_cases hm : 0 ≤ mvd N s d to
      · rw [if_pos hm, if_pos hm]
        exact wk_same hw h m _ (mvd_spec hw hs hd hm).2.2.2.2.2
      · rw [if_neg hm, if_neg hm]
theorem ldn_same {N N' : Int → Int} {to s v w : Int} (hw : wf N) (h : same N N') (hs : 0 ≤ s ∧ s < 10 * (N 4 * N 5)) (hl : ldn N to s v w) : ldn N' to s v w := by
  have e : ∀ k : Nat, wk N' to k s = wk N to k s := fun k => wk_same hw h k s hs
  rcases hl with ⟨k, h1, h2, h3⟩ | ⟨h1, h2, h3⟩
  · exact Or.inl ⟨k, ⟨by rw [e]; exact h1.1, fun j hj => by rw [e]; exact h1.2 j hj⟩, h2, by rw [e]; exact h3⟩
  · exact Or.inr ⟨fun k => by rw [e]; exact h1 k, h2, h3⟩
theorem fr_same {N N' : Int → Int} {to s : Int} (hw : wf N) (h : same N N') (hs : 0 ≤ s ∧ s < 10 * (N 4 * N 5)) : fr N' to s = fr N to s := (ldn_eq (ldn_same hw h hs (ldn_fr N to s))).1.symm
theorem pas_same {N : Int → Int} (hw : wf N) : same N (pasN N) := fun k _ h1 _ h3 _ => (wf_pas hw).2 k h1 h3
def mvOK (N : Int → Int) : Prop := ∀ k : Int, 0 ≤ k → k < 100 → 0 ≤ N (60 + k) ∧ N (60 + k) ≤ 2000000000
theorem nb_zu {N : Int → Int} {i v b d : Int} (hi : 10 ≤ i) : nb (zu N i v) b d = nb N b d := by
  unfold nb
  rw [zu_n (by omega : (4 : Int) ≠ i), zu_n (by omega : (5 : Int) ≠ i)]
theorem lkm_zu {N : Int → Int} {i v b d : Int} (hi : 10 ≤ i) : lkm (zu N i v) b d = lkm N b d := by
  unfold lkm nbm
  rw [nb_zu hi]
theorem prs_rng {N : Int → Int} (hw : wf N) : 0 ≤ prs N ∧ prs N ≤ 625 := by
  have hcr := wf_cr hw
  have hF : ∀ a : Int, 0 ≤ prF N a ∧ prF N a ≤ 25 := by
    intro a
    have h1 := zS_nn (f := prG N a) (n := (N 4 * N 5).toNat) (fun k _ _ => (zb_rng _).1)
    have h2 := zS_le (f := prG N a) (c := 1) (n := (N 4 * N 5).toNat) (fun k _ _ => (zb_rng _).2)
    unfold prF
    omega
  have h1 := zS_nn (f := prF N) (n := (N 4 * N 5).toNat) (fun k _ _ => (hF k).1)
  have h2 := zS_le (f := prF N) (c := 25) (n := (N 4 * N 5).toNat) (fun k _ _ => (hF k).2)
  unfold prs
  omega
theorem pk_clr {N : Int → Int} {p p' j : Int} (hj : 0 ≤ j ∧ j ≤ 9) : pk (clrN N p) p' j = if p' = p then 0 else pk N p' j := by
  unfold pk clrN zcp
  by_cases e : p' = p
  · rw [if_pos e, if_pos (by omega)]
  · rw [if_neg e, if_neg (by omega)]
theorem snd_pk {N : Int → Int} {a b p j : Int} (h6 : 0 ≤ N 6) (hp : 0 ≤ p) (hj : 0 ≤ j ∧ j ≤ 9) : pk (sndN N a b) p j = if p = N 6 then (if j = 0 ∨ j = 3 then a else if j = 1 then b else if j = 7 then N 3 else if j = 8 then -6 else 0) else pk N p j := by
  unfold sndN
  rw [pk_bk (by omega) hj, pk_bk (by omega) hj, pk_bk (by omega) hj, pk_bk (by omega) hj, pk_bk (by omega) hj, pk_clr hj]
  have e6 : pk (zu N 6 (N 6 + 1)) p j = pk N p j := zu_n (by omega)
  rw [e6]
  by_cases e : p = N 6
  · rw [if_pos e, if_pos e]
    (repeat' split) <;> omega
  · rw [if_neg e, if_neg e]
    (repeat' split) <;> omega
theorem wf_snd {N : Int → Int} {a b : Int} (hw : wf N) (h : sndE N a b = 0) : wf (sndN N a b) ∧ sndN N a b 6 = N 6 + 1 ∧ sndN N a b 3 = N 3 := by
  obtain ⟨w0, w1, w2, hc, hr, w6, wl, wp⟩ := id hw
  obtain ⟨h1, h2, h3, h4, h5⟩ := sndE_ok h
  have lo : ∀ k : Int, k < 160 → k ≠ 6 → sndN N a b k = N k := fun k hk h6 => snd_lo w6.1 hk h6
  have e6 : sndN N a b 6 = N 6 + 1 := by
    unfold sndN clrN
    rw [bk_lo w6.1 (by omega) (by omega), bk_lo w6.1 (by omega) (by omega), bk_lo w6.1 (by omega) (by omega), bk_lo w6.1 (by omega) (by omega), bk_lo w6.1 (by omega) (by omega), zcp_out (by omega), zu_s]
  refine ⟨?_, e6, lo 3 (by omega) (by omega)⟩
  unfold wf
  rw [lo 0 (by omega) (by omega), lo 1 (by omega) (by omega), lo 2 (by omega) (by omega), lo 4 (by omega) (by omega), lo 5 (by omega) (by omega), e6]
  refine ⟨w0, w1, w2, hc, hr, by omega, fun k k1 k2 => by rw [lo k (by omega) (by omega)]; exact wl k k1 k2, fun p p1 p2 => ?_⟩
  rw [snd_pk w6.1 p1 (by omega), snd_pk w6.1 p1 (by omega), snd_pk w6.1 p1 (by omega), snd_pk w6.1 p1 (by omega), snd_pk w6.1 p1 (by omega), snd_pk w6.1 p1 (by omega)]
  unfold isB at h1 h2
  by_cases e : p = N 6
  · rw [if_pos e, if_pos e, if_pos e, if_pos e, if_pos e, if_pos e]
    refine ⟨?_, ?_, ?_, ?_, ?_, ?_⟩ <;> (repeat' split) <;> omega
  · rw [if_neg e, if_neg e, if_neg e, if_neg e, if_neg e, if_neg e]
    exact wp p p1 (by omega)
theorem lnk_idx {N : Int → Int} {b d w : Int} (hw : wf N) (h : lnkQ N b d w) : 10 ≤ lkm N b d ∧ lkm N b d < 60 := by
  obtain ⟨h1, h2, h3⟩ := h
  unfold badK at h1
  have hb : isB N b := Classical.byContradiction (fun z => h1 (Or.inl z))
  have hn : 0 ≤ nb N b d := by
    have : ¬ nb N b d < 0 := fun z => h1 (Or.inr ⟨h2.1, h2.2, z⟩)
    omega
  exact lkm_rng hw hb h2 hn
def mvR (N : Int → Int) : Prop := (∀ k : Int, 0 ≤ k → k < 100 → 0 ≤ N (60 + k) ∧ N (60 + k) ≤ 40 * N 3) ∧ (∀ k : Int, 0 ≤ k → 4 * (N 4 * N 5) ≤ k → k < 100 → N (60 + k) = 0) ∧ (N 6 = 0 → ∀ k : Int, 0 ≤ k → k < 100 → N (60 + k) = 0)
def rowB (B : Int) (N : Int → Int) : Prop := wf N ∧ (0 ≤ N 3 ∧ N 3 ≤ B) ∧ mvR N
theorem stp_mv {N : Int → Int} {p k : Int} (hw : wf N) (hp : 0 ≤ p ∧ p < N 6) (hk : 0 ≤ k ∧ k < 100) : N (60 + k) ≤ stpN N p (60 + k) ∧ stpN N p (60 + k) ≤ N (60 + k) + 1 ∧ (4 * (N 4 * N 5) ≤ k → stpN N p (60 + k) = N (60 + k)) := by
  have wpp := hw.2.2.2.2.2.2.2 p hp.1 hp.2
  unfold stpN
  by_cases h0 : pk N p 2 = 0
  · rw [if_pos h0, bk_lo hp.1 (by omega) (by omega), bk_lo hp.1 (by omega) (by omega)]
    omega
  · rw [if_neg h0]
    by_cases h1 : pk N p 2 = 1
    · rw [if_pos h1]
      by_cases hg : 0 ≤ goN N p
      · have hg4 := (goN_spec hg).1
        rw [if_pos hg, mvN_lo hp.1 (by omega)]
        split
        · exact ⟨by omega, by omega, fun h => by omega⟩
        · exact ⟨by omega, by omega, fun _ => rfl⟩
      · rw [if_neg hg, bk_lo hp.1 (by omega) (by omega)]
        omega
    · rw [if_neg h1]
      omega
theorem st_mv {N : Int → Int} {k : Int} (hw : wf N) (hk : 0 ≤ k ∧ k < 100) : ∀ i : Nat, (i : Int) ≤ N 6 → N (60 + k) ≤ stN N i (60 + k) ∧ stN N i (60 + k) ≤ N (60 + k) + i ∧ (4 * (N 4 * N 5) ≤ k → stN N i (60 + k) = N (60 + k))
  | 0, _ => ⟨Int.le_refl _, by show N (60 + k) ≤ N (60 + k) + ((0 : Nat) : Int); omega, fun _ => rfl⟩
  | i + 1, h => by
    obtain ⟨h1, h2, h3⟩ := st_mv hw hk i (by omega)
    obtain ⟨hw2, hlo⟩ := wf_st hw i (by omega)
    have h6 := hlo 6 (by decide)
    have h4 := hlo 4 (by decide)
    have h5 := hlo 5 (by decide)
    obtain ⟨g1, g2, g3⟩ := stp_mv (p := (i : Int)) hw2 ⟨by omega, by omega⟩ hk
    rw [h4, h5] at g3
    show N (60 + k) ≤ stpN (stN N i) i (60 + k) ∧ stpN (stN N i) i (60 + k) ≤ N (60 + k) + ((i + 1 : Nat) : Int) ∧ (4 * (N 4 * N 5) ≤ k → stpN (stN N i) i (60 + k) = N (60 + k))
    exact ⟨by omega, by omega, fun h => by rw [g3 h, h3 h]⟩
theorem pas_mv {N : Int → Int} (hw : wf N) (h : mvR N) : mvR (pasN N) := by
  obtain ⟨a1, a2, a3⟩ := h
  obtain ⟨hw2, hlo⟩ := wf_pas hw
  have h3 := pas_3 hw
  have w6 := hw.2.2.2.2.2.1
  have e : ∀ k : Int, 0 ≤ k → pasN N (60 + k) = stN N (N 6).toNat (60 + k) := fun k hk => by
    unfold pasN mvB
    exact zu_n (by omega)
  have s : ∀ k : Int, 0 ≤ k → k < 100 → N (60 + k) ≤ pasN N (60 + k) ∧ pasN N (60 + k) ≤ N (60 + k) + N 6 ∧ (4 * (N 4 * N 5) ≤ k → pasN N (60 + k) = N (60 + k)) := fun k k0 k1 => by
    rw [e k k0]
    have := st_mv hw ⟨k0, k1⟩ (N 6).toNat (by omega)
    rw [Int.toNat_of_nonneg w6.1] at this
    exact this
  have hcr := wf_cr hw
  refine ⟨fun k k0 k1 => ?_, fun k kk k0 k1 => ?_, fun h6 k k0 k1 => ?_⟩
  · have := a1 k k0 k1
    have := s k k0 k1
    rw [h3]
    omega
  · rw [hlo 4 (by decide) (by decide), hlo 5 (by decide) (by decide)] at k0
    rw [(s k kk k1).2.2 k0]
    exact a2 k kk k0 k1
  · rw [hlo 6 (by decide) (by decide)] at h6
    have := s k k0 k1
    have := a3 h6 k k0 k1
    omega
theorem tk_mv {N : Int → Int} (hw : wf N) (h : mvR N) : ∀ i : Nat, mvR (tkN N i)
  | 0 => h
  | i + 1 => pas_mv (wf_tks hw i).1 (tk_mv hw h i)
theorem mvR_same {N N' : Int → Int} (hk : ∀ k : Int, 60 ≤ k → k < 160 → N' k = N k) (h3 : N' 3 = N 3) (h4 : N' 4 = N 4) (h5 : N' 5 = N 5) (h6 : N' 6 = 0 → N 6 = 0) (h : mvR N) : mvR N' := by
  obtain ⟨a1, a2, a3⟩ := h
  refine ⟨fun k k0 k1 => ?_, fun k kk k0 k1 => ?_, fun z k k0 k1 => ?_⟩
  · rw [hk _ (by omega) (by omega), h3]; exact a1 k k0 k1
  · rw [h4, h5] at k0
    rw [hk _ (by omega) (by omega)]; exact a2 k kk k0 k1
  · rw [hk _ (by omega) (by omega)]; exact a3 (h6 z) k k0 k1
theorem rowB_le {B B' : Int} {N : Int → Int} (h : rowB B N) (hB : B ≤ B') : rowB B' N := ⟨h.1, ⟨h.2.1.1, by have := h.2.1.2; omega⟩, h.2.2⟩
theorem rowB_set {B i v : Int} {N : Int → Int} (h : rowB B N) (hs : okS i v) : rowB B (zu N i v) := by
  have hi : 0 ≤ i ∧ i ≤ 2 := by unfold okS at hs; omega
  refine ⟨wf_set h.1 hs, by rw [zu_n (by omega)]; exact h.2.1, mvR_same (fun k h0 h1 => zu_n (by omega)) (zu_n (by omega)) (zu_n (by omega)) (zu_n (by omega)) (fun z => by rw [zu_n (by omega)] at z; exact z) h.2.2⟩
theorem rowB_lnk {B i v : Int} {N : Int → Int} (h : rowB B N) (hi : 10 ≤ i ∧ i < 60) (hv : 0 ≤ v ∧ v ≤ 1) : rowB B (zu N i v) :=
  ⟨wf_lk h.1 hi hv, by rw [zu_n (by omega)]; exact h.2.1, mvR_same (fun k h0 h1 => zu_n (by omega)) (zu_n (by omega)) (zu_n (by omega)) (zu_n (by omega)) (fun z => by rw [zu_n (by omega)] at z; exact z) h.2.2⟩
theorem rowB_msh {B c r : Int} {N : Int → Int} (h : rowB B N) (hl : okL c r) (h6 : N 6 ≤ 0) : rowB B (mshN N c r) := by
  have w6 := h.1.2.2.2.2.2.1
  have hz := h.2.2.2.2 (by omega)
  have e : ∀ k : Int, 60 ≤ k → mshN N c r k = N k := fun k hk => by rw [msh_v, if_neg (by omega), if_neg (by omega), if_neg (by omega)]
  have e3 : mshN N c r 3 = N 3 := by rw [msh_v, if_neg (by omega), if_neg (by omega), if_neg (by omega)]
  refine ⟨wf_msh h.1 h6 hl, by rw [e3]; exact h.2.1, fun k k0 k1 => ?_, fun k kk k0 k1 => ?_, fun z k k0 k1 => ?_⟩
  · rw [e _ (by omega), e3]; exact h.2.2.1 k k0 k1
  · rw [e _ (by omega)]; exact hz k kk k1
  · rw [e _ (by omega)]; exact hz k k0 k1
theorem rowB_snd {B a b : Int} {N : Int → Int} (h : rowB B N) (hs : sndE N a b = 0) : rowB B (sndN N a b) := by
  have w6 := h.1.2.2.2.2.2.1
  obtain ⟨g1, g2, g3⟩ := wf_snd h.1 hs
  exact ⟨g1, by rw [g3]; exact h.2.1, mvR_same (fun k h0 h1 => snd_lo w6.1 h1 (by omega)) g3 (snd_lo w6.1 (by decide) (by decide)) (snd_lo w6.1 (by decide) (by decide)) (fun z => by rw [g2] at z; omega) h.2.2⟩
theorem rowB_tk {B : Int} {N : Int → Int} (h : rowB B N) (i : Nat) : rowB (B + i) (tkN N i) := by
  obtain ⟨g1, g2, g3⟩ := wf_tks h.1 i
  exact ⟨g1, by rw [g3]; have := h.2.1; omega, tk_mv h.1 h.2.2 i⟩
theorem rowB_mv {B : Int} {N : Int → Int} (h : rowB B N) (hB : B ≤ 20000000) : mvOK N := fun k h0 h1 => by
  have := h.2.2.1 k h0 h1
  have := h.2.1
  omega
theorem rowB_in : rowB 0 inN := ⟨wf_inN, ⟨by decide, by decide⟩, fun k h0 h1 => by rw [inN_0 (by omega), inN_v]; decide, fun k kk h0 h1 => inN_0 (by omega), fun _ k h0 h1 => inN_0 (by omega)⟩
