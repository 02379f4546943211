/-! what stays true of a row from act to act -/
def PK (N : Int → Int) (p : Int) : Prop :=
  (pk N p 2 = 2 → pk N p 3 = pk N p 1 ∧ pk N p 7 ≤ pk N p 8) ∧ (¬ pk N p 2 = 2 → pk N p 8 = -6 ∧ ¬ pk N p 3 = pk N p 1) ∧ (pk N p 2 = 0 → pk N p 3 = pk N p 0 ∧ pk N p 4 = 0) ∧
  dist N (pk N p 0) (pk N p 1) - dist N (pk N p 3) (pk N p 1) = pk N p 4 - 2 * pk N p 5 ∧ (0 ≤ pk N p 7 ∧ pk N p 7 ≤ N 3) ∧ (0 ≤ pk N p 4 ∧ pk N p 4 ≤ N 3) ∧ (0 ≤ pk N p 6 ∧ pk N p 6 ≤ N 3) ∧ (-6 ≤ pk N p 8 ∧ pk N p 8 ≤ N 3)
def mvS (N : Int → Int) : Prop := sumOf N 4 = zS (mvF N) 100 ∧ ∀ b d : Int, isB N b → 0 ≤ d → d ≤ 3 → nb N b d < 0 → N (60 + 4 * b + d) = 0
def lkO (N : Int → Int) : Prop := (∀ k : Int, 0 ≤ k → k < 50 → N (10 + k) ≠ 0 → k < 2 * (N 4 * N 5) ∧ 0 ≤ nb N (k / 2) (2 * (k % 2))) ∧ ∀ k : Int, 7 ≤ k → k ≤ 9 → N k = 0
def INV (B : Int) (N : Int → Int) : Prop := rowB B N ∧ (∀ p : Int, 0 ≤ p → p < N 6 → PK N p) ∧ mvS N ∧ lkO N
theorem INV_le {B B' : Int} {N : Int → Int} (h : INV B N) (hB : B ≤ B') : INV B' N := ⟨rowB_le h.1 hB, h.2.1, h.2.2.1, h.2.2.2⟩
theorem zS_0 {f : Int → Int} : ∀ {n : Nat}, (∀ k : Int, 0 ≤ k → k < (n : Int) → f k = 0) → zS f n = 0
  | 0, _ => rfl
  | n + 1, h => by
    have h1 := zS_0 (n := n) (f := f) (fun k h0 h1 => h k h0 (by omega))
    have h2 := h n (by omega) (by omega)
    show zS f n + f n = 0
    omega
theorem dist_4 {N N' : Int → Int} {a b : Int} (h : N' 4 = N 4) : dist N' a b = dist N a b := by
  unfold dist
  rw [h]
theorem nb_45 {N N' : Int → Int} {b d : Int} (h4 : N' 4 = N 4) (h5 : N' 5 = N 5) : nb N' b d = nb N b d := by
  unfold nb
  rw [h4, h5]
theorem PK_of {N N' : Int → Int} {p : Int} (h4 : N' 4 = N 4) (h3 : N 3 ≤ N' 3) (hp : ∀ j : Int, 0 ≤ j → j ≤ 9 → pk N' p j = pk N p j) (h : PK N p) : PK N' p := by
  unfold PK at h ⊢
  rw [hp 0 (by omega) (by omega), hp 1 (by omega) (by omega), hp 2 (by omega) (by omega), hp 3 (by omega) (by omega), hp 4 (by omega) (by omega), hp 5 (by omega) (by omega), hp 6 (by omega) (by omega), hp 7 (by omega) (by omega), hp 8 (by omega) (by omega), dist_4 h4, dist_4 h4]
  obtain ⟨a, b, c, d, e, f, g, i⟩ := h
  exact ⟨a, b, c, d, by omega, by omega, by omega, by omega⟩
theorem mvS_of {N N' : Int → Int} (h4 : N' 4 = N 4) (h5 : N' 5 = N 5) (h6 : N' 6 = N 6) (hk : ∀ k : Int, 60 ≤ k → N' k = N k) (hw : 0 ≤ N 6) (h : mvS N) : mvS N' := by
  obtain ⟨a, b⟩ := h
  refine ⟨?_, fun x d hx d0 d1 hn => ?_⟩
  · have e1 : sumOf N' 4 = sumOf N 4 := by
      unfold sumOf
      rw [h6]
      exact zS_cong (fun k k0 _ => hk _ (by omega))
    have e2 : zS (mvF N') 100 = zS (mvF N) 100 := zS_cong (fun k k0 _ => hk _ (by omega))
    rw [e1, e2]; exact a
  · unfold isB at hx
    rw [h4, h5] at hx
    rw [nb_45 h4 h5] at hn
    rw [hk _ (by omega)]
    exact b x d hx d0 d1 hn
theorem INV_set {B i v : Int} {N : Int → Int} (h : INV B N) (hs : okS i v) : INV B (zu N i v) := by
  have hi : 0 ≤ i ∧ i ≤ 2 := by unfold okS at hs; omega
  have w6 := h.1.1.2.2.2.2.2.1
  have lo : ∀ k : Int, 3 ≤ k → zu N i v k = N k := fun k hk => zu_n (by omega)
  refine ⟨rowB_set h.1 hs, fun p p0 p1 => ?_, mvS_of (lo 4 (by omega)) (lo 5 (by omega)) (lo 6 (by omega)) (fun k hk => lo k (by omega)) w6.1 h.2.2.1, fun k k0 k1 hk => ?_, fun k k0 k1 => (lo k (by omega)).trans (h.2.2.2.2 k k0 k1)⟩
  · rw [lo 6 (by omega)] at p1
    exact PK_of (lo 4 (by omega)) (by rw [lo 3 (by omega)]; omega) (fun j j0 j1 => lo _ (by omega)) (h.2.1 p p0 p1)
  · rw [lo _ (by omega)] at hk
    rw [lo 4 (by omega), lo 5 (by omega), nb_45 (lo 4 (by omega)) (lo 5 (by omega))]
    exact h.2.2.2.1 k k0 k1 hk
theorem lkm_nb {N : Int → Int} {b d : Int} (hw : wf N) (hb : isB N b) (hd : 0 ≤ d ∧ d ≤ 3) (h : 0 ≤ nb N b d) : (lkm N b d - 10) < 2 * (N 4 * N 5) ∧ 0 ≤ nb N ((lkm N b d - 10) / 2) (2 * ((lkm N b d - 10) % 2)) := by
  unfold isB at hb
  have hn := nb_rng hw hb hd
  rcases d4 hd with rfl | rfl | rfl | rfl
  · have e : lkm N b 0 - 10 = 2 * b := by unfold lkm; simp; omega
    rw [e, show 2 * b / 2 = b by omega, show 2 * (2 * b % 2) = 0 by omega]
    exact ⟨by omega, h⟩
  · have e : lkm N b 1 - 10 = 2 * nb N b 1 := by unfold lkm; rw [nbm_nn h]; simp; omega
    have hs := (nb_sym hw hb (by omega) h).1
    have o : opp 1 = 0 := rfl
    rw [o] at hs
    rw [e, show 2 * nb N b 1 / 2 = nb N b 1 by omega, show 2 * (2 * nb N b 1 % 2) = 0 by omega]
    exact ⟨by omega, by rw [hs]; omega⟩
  · have e : lkm N b 2 - 10 = 2 * b + 1 := by unfold lkm; simp; omega
    rw [e, show (2 * b + 1) / 2 = b by omega, show 2 * ((2 * b + 1) % 2) = 2 by omega]
    exact ⟨by omega, h⟩
  · have e : lkm N b 3 - 10 = 2 * nb N b 3 + 1 := by unfold lkm; rw [nbm_nn h]; simp; omega
    have hs := (nb_sym hw hb (by omega) h).1
    have o : opp 3 = 2 := rfl
    rw [o] at hs
    rw [e, show (2 * nb N b 3 + 1) / 2 = nb N b 3 by omega, show 2 * ((2 * nb N b 3 + 1) % 2) = 2 by omega]
    exact ⟨by omega, by rw [hs]; omega⟩
theorem INV_lnk {B b d v : Int} {N : Int → Int} (h : INV B N) (hb : isB N b) (hd : 0 ≤ d ∧ d ≤ 3) (hn : 0 ≤ nb N b d) (hv : 0 ≤ v ∧ v ≤ 1) : INV B (zu N (lkm N b d) v) := by
  have hw := h.1.1
  have w6 := hw.2.2.2.2.2.1
  have hr := lkm_rng hw hb hd hn
  have hl := lkm_nb hw hb hd hn
  have lo : ∀ k : Int, k ≠ lkm N b d → zu N (lkm N b d) v k = N k := fun k hk => zu_n hk
  refine ⟨rowB_lnk h.1 hr hv, fun p p0 p1 => ?_, mvS_of (lo 4 (by omega)) (lo 5 (by omega)) (lo 6 (by omega)) (fun k hk => lo k (by omega)) w6.1 h.2.2.1, fun k k0 k1 hk => ?_, fun k k0 k1 => (lo k (by omega)).trans (h.2.2.2.2 k k0 k1)⟩
  · rw [lo 6 (by omega)] at p1
    exact PK_of (lo 4 (by omega)) (by rw [lo 3 (by omega)]; omega) (fun j j0 j1 => lo _ (by omega)) (h.2.1 p p0 p1)
  · rw [lo 4 (by omega), lo 5 (by omega), nb_45 (lo 4 (by omega)) (lo 5 (by omega))]
    by_cases e : 10 + k = lkm N b d
    · have e2 : lkm N b d - 10 = k := by omega
      rw [e2] at hl
      exact hl
    · rw [lo _ e] at hk
      exact h.2.2.2.1 k k0 k1 hk
theorem INV_msh {B c r : Int} {N : Int → Int} (h : INV B N) (hl : okL c r) (h6 : N 6 ≤ 0) : INV B (mshN N c r) := by
  have w6 := h.1.1.2.2.2.2.2.1
  have e6 : mshN N c r 6 = N 6 := by rw [msh_v, if_neg (by omega), if_neg (by omega), if_neg (by omega)]
  have hz := h.1.2.2.2.2 (by omega)
  have em : ∀ k : Int, 60 ≤ k → mshN N c r k = N k := fun k hk => by rw [msh_v, if_neg (by omega), if_neg (by omega), if_neg (by omega)]
  refine ⟨rowB_msh h.1 hl h6, fun p p0 p1 => absurd p1 (by omega), ⟨?_, fun b d hb d0 d1 _ => ?_⟩, fun k k0 k1 hk => ?_, fun k k0 k1 => by rw [msh_v, if_neg (by omega), if_neg (by omega), if_neg (by omega)]; exact h.2.2.2.2 k k0 k1⟩
  · have e1 : sumOf (mshN N c r) 4 = 0 := zS_0 (fun k k0 k1 => absurd k1 (by omega))
    have e2 : zS (mvF (mshN N c r)) 100 = 0 := zS_0 (fun k k0 k1 => (em _ (by omega)).trans (hz k k0 (by omega)))
    rw [e1, e2]
  · have hcr := cr_rng hl.1 hl.2
    have e4 : mshN N c r 4 = c := by rw [msh_v, if_neg (by omega), if_neg (by omega), if_pos rfl]
    have e5 : mshN N c r 5 = r := by rw [msh_v, if_neg (by omega), if_pos rfl]
    unfold isB at hb
    rw [e4, e5] at hb
    rw [em _ (by omega), show 60 + 4 * b + d = 60 + (4 * b + d) by omega]
    exact hz _ (by omega) (by omega)
  · exact absurd (by rw [msh_v, if_pos (by omega)]) hk
theorem INV_in : INV 0 inN := by
  refine ⟨rowB_in, fun p p0 p1 => absurd p1 (by rw [inN_0 (by omega)]; omega), ⟨?_, fun b d hb d0 d1 _ => ?_⟩, fun k k0 k1 hk => absurd (inN_0 (by omega)) hk, fun k k0 k1 => inN_0 (by omega)⟩
  · have e1 : sumOf inN 4 = 0 := zS_0 (fun k k0 k1 => absurd k1 (by rw [inN_0 (by omega)]; exact (fun h => by simp at h; omega)))
    have e2 : zS (mvF inN) 100 = 0 := zS_0 (fun k k0 k1 => inN_0 (by omega))
    rw [e1, e2]
  · unfold isB at hb
    exact inN_0 (by omega)
theorem INV_snd {B a b : Int} {N : Int → Int} (h : INV B N) (hs : sndE N a b = 0) : INV B (sndN N a b) := by
  have hw := h.1.1
  have w6 := hw.2.2.2.2.2.1
  have h3 := h.1.2.1
  obtain ⟨s1, s2, s3, s4, s5⟩ := sndE_ok hs
  obtain ⟨g1, g2, g3⟩ := wf_snd hw hs
  have lo : ∀ k : Int, k < 160 → k ≠ 6 → sndN N a b k = N k := fun k h1 h2 => snd_lo w6.1 h1 h2
  have e4 := lo 4 (by omega) (by omega)
  have e5 := lo 5 (by omega) (by omega)
  have pko : ∀ p j : Int, 0 ≤ p → p < N 6 → 0 ≤ j → j ≤ 9 → pk (sndN N a b) p j = pk N p j := fun p j p0 p1 j0 j1 => by rw [snd_pk w6.1 p0 ⟨j0, j1⟩, if_neg (by omega)]
  have pkn : ∀ j : Int, 0 ≤ j → j ≤ 9 → pk (sndN N a b) (N 6) j = (if j = 0 ∨ j = 3 then a else if j = 1 then b else if j = 7 then N 3 else if j = 8 then -6 else 0) := fun j j0 j1 => by rw [snd_pk w6.1 w6.1 ⟨j0, j1⟩, if_pos rfl]
  refine ⟨rowB_snd h.1 hs, fun p p0 p1 => ?_, ⟨?_, fun x d hx d0 d1 hn => ?_⟩, fun k k0 k1 hk => ?_, fun k k0 k1 => (lo k (by omega) (by omega)).trans (h.2.2.2.2 k k0 k1)⟩
  · rw [g2] at p1
    by_cases e : p = N 6
    · subst e
      unfold PK
      rw [pkn 0 (by omega) (by omega), pkn 1 (by omega) (by omega), pkn 2 (by omega) (by omega), pkn 3 (by omega) (by omega), pkn 4 (by omega) (by omega), pkn 5 (by omega) (by omega), pkn 6 (by omega) (by omega), pkn 7 (by omega) (by omega), pkn 8 (by omega) (by omega), g3]
      simp
      exact ⟨s3, by omega, by omega⟩
    · exact PK_of e4 (by rw [g3]; omega) (fun j j0 j1 => pko p j p0 (by omega) j0 j1) (h.2.1 p p0 (by omega))
  · have e1 : sumOf (sndN N a b) 4 = sumOf N 4 := by
      unfold sumOf
      rw [g2, zS_s w6.1]
      have z : pk (sndN N a b) (N 6) 4 = 0 := pkn 4 (by omega) (by omega)
      rw [z, zS_cong (g := fun p => pk N p 4) (fun k k0 k1 => pko k 4 k0 (by omega) (by omega) (by omega))]
      omega
    have e2 : zS (mvF (sndN N a b)) 100 = zS (mvF N) 100 := zS_cong (fun k k0 k1 => lo _ (by omega) (by omega))
    rw [e1, e2]; exact h.2.2.1.1
  · have hcr := wf_cr hw
    unfold isB at hx
    rw [e4, e5] at hx
    rw [nb_45 e4 e5] at hn
    rw [lo _ (by omega) (by omega)]
    exact h.2.2.1.2 x d hx d0 d1 hn
  · rw [lo _ (by omega) (by omega)] at hk
    rw [e4, e5, nb_45 e4 e5]
    exact h.2.2.2.1 k k0 k1 hk
/-! a tick, packet by packet -/
theorem stp_o {N : Int → Int} {p q j : Int} (hw : wf N) (hp : 0 ≤ p ∧ p < N 6) (hq : 0 ≤ q) (hqp : q ≠ p) (hj : 0 ≤ j ∧ j ≤ 9) : pk (stpN N p) q j = pk N q j := by
  have wpp := hw.2.2.2.2.2.2.2 p hp.1 hp.2
  have hcr := wf_cr hw
  unfold stpN
  by_cases h0 : pk N p 2 = 0
  · rw [if_pos h0, pk_bk (by omega) hj, if_neg (fun z => hqp z.1), pk_bk (by omega) hj, if_neg (fun z => hqp z.1)]
  · rw [if_neg h0]
    by_cases h1 : pk N p 2 = 1
    · rw [if_pos h1]
      by_cases g : 0 ≤ goN N p
      · have := (goN_spec g).1
        rw [if_pos g, mvN_pk hp.1 (by omega) hq hj, if_neg hqp]
      · rw [if_neg g, pk_bk (by omega) hj, if_neg (fun z => hqp z.1)]
    · rw [if_neg h1]
theorem st_hi {N : Int → Int} {q j : Int} (hw : wf N) (hj : 0 ≤ j ∧ j ≤ 9) : ∀ i : Nat, (i : Int) ≤ N 6 → (i : Int) ≤ q → pk (stN N i) q j = pk N q j
  | 0, _, _ => rfl
  | i + 1, h, hq => by
    obtain ⟨g1, g2⟩ := wf_st hw i (by omega)
    have ih := st_hi (q := q) hw hj i (by omega) (by omega)
    show pk (stpN (stN N i) i) q j = _
    rw [stp_o g1 ⟨by omega, by rw [g2 6 (by omega)]; omega⟩ (by omega) (by omega) hj, ih]
theorem st_lo {N : Int → Int} {q j : Int} (hw : wf N) (hq : 0 ≤ q) (hj : 0 ≤ j ∧ j ≤ 9) : ∀ i : Nat, (i : Int) ≤ N 6 → q < (i : Int) → pk (stN N i) q j = pk (stpN (stN N q.toNat) q) q j
  | 0, _, h => absurd h (by omega)
  | i + 1, h, hqi => by
    by_cases e : q = (i : Int)
    · subst e
      show pk (stpN (stN N i) i) i j = pk (stpN (stN N i) i) i j
      rfl
    · obtain ⟨g1, g2⟩ := wf_st hw i (by omega)
      have ih := st_lo hw hq hj i (by omega) (by omega)
      show pk (stpN (stN N i) i) q j = _
      rw [stp_o g1 ⟨by omega, by rw [g2 6 (by omega)]; omega⟩ hq e hj, ih]
theorem pas_q {N : Int → Int} {q j : Int} (hw : wf N) (hq : 0 ≤ q ∧ q < N 6) (hj : 0 ≤ j ∧ j ≤ 9) : pk (pasN N) q j = pk (stpN (stN N q.toNat) q) q j := by
  have h6 := hw.2.2.2.2.2.1
  unfold pasN
  rw [pk_mvB (by omega) hq.1 hj.1]
  exact st_lo hw hq.1 hj _ (by omega) (by omega)
theorem pas_k {N : Int → Int} {k : Int} (hk : k ≠ 3) : pasN N k = stN N (N 6).toNat k := by
  unfold pasN mvB
  exact zu_n hk
/-- what is seen of a row when packet q's turn comes -/
theorem st_at {N : Int → Int} {q : Int} (hw : wf N) (hq : 0 ≤ q ∧ q < N 6) : wf (stN N q.toNat) ∧ (∀ k : Int, k < 60 → stN N q.toNat k = N k) ∧ (∀ j : Int, 0 ≤ j → j ≤ 9 → pk (stN N q.toNat) q j = pk N q j) ∧ stg (stN N q.toNat) q = stg N q := by
  obtain ⟨g1, g2⟩ := wf_st hw q.toNat (by omega)
  have g3 : ∀ j : Int, 0 ≤ j → j ≤ 9 → pk (stN N q.toNat) q j = pk N q j := fun j j0 j1 => st_hi hw ⟨j0, j1⟩ q.toNat (by omega) (by omega)
  refine ⟨g1, g2, g3, ?_⟩
  unfold stg
  rw [g3 3 (by omega) (by omega), g3 9 (by omega) (by omega), g3 5 (by omega) (by omega)]
theorem pss_same {N N' : Int → Int} {to s d : Int} (hw : wf N) (h : same N N') (hs : 0 ≤ s ∧ s < 10 * (N 4 * N 5)) (hd : 0 ≤ d ∧ d ≤ 3) : (pss N' to s d ↔ pss N to s d) ∧ (pss N to s d → kln N' to s d = kln N to s d) := by
  unfold pss kln
  rw [mvd_same hw h hs hd]
  have key : 0 ≤ mvd N s d to → fr N' to (mvd N s d to) = fr N to (mvd N s d to) := fun hm => fr_same hw h (mvd_spec hw hs hd hm).2.2.2.2.2
  refine ⟨⟨fun ⟨a, b⟩ => ⟨a, by rw [← key a]; exact b⟩, fun ⟨a, b⟩ => ⟨a, by rw [key a]; exact b⟩⟩, fun hp => key hp.1⟩
theorem gos_same {N N' : Int → Int} {to s : Int} {P : Int → Prop} (hw : wf N) (h : same N N') (hs : 0 ≤ s ∧ s < 10 * (N 4 * N 5)) : gos N' to s P = gos N to s P := by
  have h4 := h 4 (by omega) (by omega) (by omega) (by omega) (by omega)
  have h5 := h 5 (by omega) (by omega) (by omega) (by omega) (by omega)
  have ps : ∀ d : Int, 0 ≤ d → d < 4 → (pss N' to s d ↔ pss N to s d) ∧ (pss N to s d → kln N' to s d = kln N to s d) := fun d d0 d1 => pss_same hw h hs ⟨d0, by omega⟩
  refine isF_u (N := N) (to := to) (s := s) (P := P) ?_ (isF_g N to s P)
  rcases isF_g N' to s P with ⟨h1, h2⟩ | ⟨a1, a2, a3, a4, a5⟩
  · exact Or.inl ⟨h1, fun d d0 d1 hp => h2 d d0 d1 ((ps d d0 d1).1.mpr hp)⟩
  · have b3 := (ps _ a1 a2).1.mp a3
    refine Or.inr ⟨a1, a2, b3, a4, fun d d0 d1 hp hP hl => a5 d d0 d1 ((ps d d0 d1).1.mpr hp) hP ?_⟩
    unfold slt at hl ⊢
    rw [(ps d d0 d1).2 hp, (ps _ a1 a2).2 b3]
    exact hl
theorem fs_st {N : Int → Int} {q : Int} (hw : wf N) (hq : 0 ≤ q ∧ q < N 6) : fsN (stN N q.toNat) q = fsN N q := by
  obtain ⟨g1, g2, g3, g4⟩ := st_at hw hq
  have hst := stg_rng hw hq
  unfold fsN
  rw [g4, g3 1 (by omega) (by omega)]
  exact gos_same hw (lo_same g2) ⟨hst.1, hst.2.1⟩
/-- the five kinds of a turn -/
theorem stp_5 {N : Int → Int} {p : Int} (hw : wf N) (hp : 0 ≤ p ∧ p < N 6) : (pk N p 2 = 2 ∧ stpN N p = N) ∨ (pk N p 2 = 0 ∧ ins N (pk N p 3) < N 2 ∧ stpN N p = bk N p 2 1) ∨ (pk N p 2 = 0 ∧ ¬ ins N (pk N p 3) < N 2 ∧ stpN N p = bk N p 6 (pk N p 6 + 1)) ∨
    (pk N p 2 = 1 ∧ 0 ≤ goN N p ∧ stpN N p = mvN N p (goN N p)) ∨ (pk N p 2 = 1 ∧ goN N p < 0 ∧ stpN N p = bk N p 6 (pk N p 6 + 1)) := by
  have wpp := hw.2.2.2.2.2.2.2 p hp.1 hp.2
  by_cases h0 : pk N p 2 = 0
  · by_cases hr : ins N (pk N p 3) < N 2
    · exact Or.inr (Or.inl ⟨h0, hr, (stp_0y h0 hr).symm⟩)
    · exact Or.inr (Or.inr (Or.inl ⟨h0, hr, (stp_0n h0 hr).symm⟩))
  · by_cases h1 : pk N p 2 = 1
    · by_cases g : 0 ≤ goN N p
      · exact Or.inr (Or.inr (Or.inr (Or.inl ⟨h1, g, (stp_1y h1 g).symm⟩)))
      · exact Or.inr (Or.inr (Or.inr (Or.inr ⟨h1, by omega, (stp_1n h1 g).symm⟩)))
    · exact Or.inl ⟨by omega, (stp_2 h0 h1).symm⟩
