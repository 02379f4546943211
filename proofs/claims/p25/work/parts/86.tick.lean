/-! a tick, over one row: what becomes of each packet, and what stays true -/
theorem mvv_v {M : Int → Int} {p d x : Int} : mvv M p d 0 x = pk M p 0 ∧ mvv M p d 1 x = pk M p 1 ∧ mvv M p d 2 x = (if nb M (pk M p 3) d = pk M p 1 then 2 else pk M p 2) ∧ mvv M p d 3 x = nb M (pk M p 3) d ∧ mvv M p d 4 x = pk M p 4 + 1 ∧ mvv M p d 5 x = x ∧ mvv M p d 6 x = pk M p 6 ∧ mvv M p d 7 x = pk M p 7 ∧ mvv M p d 8 x = (if nb M (pk M p 3) d = pk M p 1 then M 3 else pk M p 8) ∧ mvv M p d 9 x = (if d = 0 then pk M p 9 else 1) := by
  unfold mvv
  refine ⟨?_, ?_, ?_, ?_, ?_, ?_, ?_, ?_, ?_, ?_⟩ <;> simp
/-- the packets inside of a box ahead of packet q's turn -/
noncomputable def insQ (N : Int → Int) (q b : Int) : Int := ins (stN N q.toNat) b
theorem insQ_s {N : Int → Int} {q : Int} (hq : 0 ≤ q) (b : Int) : insQ N (q + 1) b = ins (stpN (stN N q.toNat) q) b := by
  unfold insQ
  rw [stN_s hq rfl]
theorem insQ_0 {N : Int → Int} {b : Int} : insQ N 0 b = ins N b := rfl
theorem insQ_rng {N : Int → Int} {q b : Int} (hw : wf N) (hq : 0 ≤ q ∧ q ≤ N 6) : 0 ≤ insQ N q b ∧ insQ N q b ≤ N 6 := by
  obtain ⟨g1, g2⟩ := wf_st hw q.toNat (by omega)
  have := ins_rng (b := b) g1
  rw [g2 6 (by omega)] at this
  exact this
def tk2 (N : Int → Int) (q : Int) : Prop := pk N q 2 = 2 ∧ (∀ j : Int, 0 ≤ j → j ≤ 9 → pk (pasN N) q j = pk N q j) ∧ ∀ b : Int, insQ N (q + 1) b = insQ N q b
def tk0y (N : Int → Int) (q : Int) : Prop := pk N q 2 = 0 ∧ insQ N q (pk N q 3) < N 2 ∧ pk (pasN N) q 2 = 1 ∧ (∀ j : Int, 0 ≤ j → j ≤ 9 → j ≠ 2 → pk (pasN N) q j = pk N q j) ∧ ∀ b : Int, insQ N (q + 1) b = insQ N q b + (if b = pk N q 3 then 1 else 0)
def tk0n (N : Int → Int) (q : Int) : Prop := pk N q 2 = 0 ∧ N 2 ≤ insQ N q (pk N q 3) ∧ pk (pasN N) q 6 = pk N q 6 + 1 ∧ (∀ j : Int, 0 ≤ j → j ≤ 9 → j ≠ 6 → pk (pasN N) q j = pk N q j) ∧ ∀ b : Int, insQ N (q + 1) b = insQ N q b
def tk1y (N : Int → Int) (q g : Int) : Prop := pk N q 2 = 1 ∧ (0 ≤ g ∧ g < 4) ∧ pss N (pk N q 1) (stg N q) g ∧ (0 ≤ nb N (pk N q 3) g ∧ nb N (pk N q 3) g < N 4 * N 5) ∧ (nb N (pk N q 3) g = pk N q 1 ∨ insQ N q (nb N (pk N q 3) g) < N 2) ∧
  (0 ≤ fsN N q ∧ fsN N q < 4) ∧ (0 ≤ nb N (pk N q 3) (fsN N q) ∧ nb N (pk N q 3) (fsN N q) < N 4 * N 5) ∧ ((nb N (pk N q 3) (fsN N q) = pk N q 1 ∨ insQ N q (nb N (pk N q 3) (fsN N q)) < N 2) → g = fsN N q) ∧
  (pk (pasN N) q 0 = pk N q 0 ∧ pk (pasN N) q 1 = pk N q 1 ∧ pk (pasN N) q 2 = (if nb N (pk N q 3) g = pk N q 1 then 2 else 1) ∧ pk (pasN N) q 3 = nb N (pk N q 3) g ∧ pk (pasN N) q 4 = pk N q 4 + 1 ∧ pk (pasN N) q 5 = pk N q 5 + zb (dtr N (pk N q 3) (nb N (pk N q 3) g) (pk N q 1)) ∧ pk (pasN N) q 6 = pk N q 6 ∧ pk (pasN N) q 7 = pk N q 7 ∧ pk (pasN N) q 8 = (if nb N (pk N q 3) g = pk N q 1 then N 3 else pk N q 8) ∧ pk (pasN N) q 9 = (if g = 0 then pk N q 9 else 1)) ∧
  ∀ b : Int, insQ N (q + 1) b = insQ N q b - (if b = pk N q 3 then 1 else 0) + (if b = nb N (pk N q 3) g ∧ nb N (pk N q 3) g ≠ pk N q 1 then 1 else 0)
def tk1n (N : Int → Int) (q : Int) : Prop := pk N q 2 = 1 ∧ (fsN N q = -6 ∨ ((0 ≤ fsN N q ∧ fsN N q < 4) ∧ (0 ≤ nb N (pk N q 3) (fsN N q) ∧ nb N (pk N q 3) (fsN N q) < N 4 * N 5) ∧ nb N (pk N q 3) (fsN N q) ≠ pk N q 1 ∧ N 2 ≤ insQ N q (nb N (pk N q 3) (fsN N q)))) ∧ pk (pasN N) q 6 = pk N q 6 + 1 ∧ (∀ j : Int, 0 ≤ j → j ≤ 9 → j ≠ 6 → pk (pasN N) q j = pk N q j) ∧ ∀ b : Int, insQ N (q + 1) b = insQ N q b
theorem tk_5 {N : Int → Int} {q : Int} (hw : wf N) (hq : 0 ≤ q ∧ q < N 6) : tk2 N q ∨ tk0y N q ∨ tk0n N q ∨ (∃ g : Int, tk1y N q g) ∨ tk1n N q := by
  obtain ⟨w, lo, pe, se⟩ := st_at hw hq
  have sm := lo_same lo
  have hst := stg_rng hw hq
  have wpp := hw.2.2.2.2.2.2.2 q hq.1 hq.2
  have hcr := wf_cr hw
  have e2 := lo 2 (by omega)
  have e3 := lo 3 (by omega)
  have e4 := lo 4 (by omega)
  have e5 := lo 5 (by omega)
  have e6 := lo 6 (by omega)
  have p0 := pe 0 (by omega) (by omega)
  have p1 := pe 1 (by omega) (by omega)
  have p2 := pe 2 (by omega) (by omega)
  have p3 := pe 3 (by omega) (by omega)
  have nbe : ∀ b d : Int, nb (stN N q.toNat) b d = nb N b d := fun b d => nb_45 e4 e5
  have pse : ∀ d : Int, 0 ≤ d → d < 4 → pss (stN N q.toNat) (pk N q 1) (stg N q) d → pss N (pk N q 1) (stg N q) d := fun d d0 d1 h => (pss_same hw sm ⟨hst.1, hst.2.1⟩ ⟨d0, by omega⟩).1.mp h
  have fse : fsN (stN N q.toNat) q = fsN N q := fs_st hw hq
  have rme : ∀ d : Int, rmP (stN N q.toNat) q d ↔ (nb N (pk N q 3) d = pk N q 1 ∨ insQ N q (nb N (pk N q 3) d) < N 2) := fun d => by
    unfold rmP insQ
    rw [p3, p1, nbe, e2]
  have fsp : 0 ≤ fsN N q → pss N (pk N q 1) (stg N q) (fsN N q) := fun h => by
    rcases isF_g N (pk N q 1) (stg N q) (fun _ => True) with ⟨h1, h2⟩ | ⟨a1, a2, a3, -, a5⟩
    · have e : fsN N q = gos N (pk N q 1) (stg N q) fun _ => True := rfl
      omega
    · exact a3
  rcases stp_5 (p := q) w ⟨hq.1, by rw [e6]; exact hq.2⟩ with ⟨h1, h2⟩ | ⟨h1, h2, h3⟩ | ⟨h1, h2, h3⟩ | ⟨h1, h2, h3⟩ | ⟨h1, h2, h3⟩
  · refine Or.inl ⟨by rw [← p2]; exact h1, fun j j0 j1 => ?_, fun b => ?_⟩
    · rw [pas_q hw hq ⟨j0, j1⟩, h2]; exact pe j j0 j1
    · rw [insQ_s hq.1, h2]; rfl
  · rw [p2] at h1
    rw [p3] at h2
    rw [e2] at h2
    refine Or.inr (Or.inl ⟨h1, h2, ?_, fun j j0 j1 j2 => ?_, fun b => ?_⟩)
    · rw [pas_q hw hq ⟨by omega, by omega⟩, h3, pk_bs]
    · rw [pas_q hw hq ⟨j0, j1⟩, h3, pk_bn (by omega)]; exact pe j j0 j1
    · rw [insQ_s hq.1, h3]
      have hc := ins_chg (N := stN N q.toNat) (N' := bk (stN N q.toNat) q 2 1) (p := q) (b := b) (bk_lo hq.1 (by omega) (by omega)) ⟨hq.1, by rw [e6]; exact hq.2⟩ (fun x x0 x1 => ⟨by rw [pk_bk (by omega) (by omega), if_neg (fun z => x1 z.1)], by rw [pk_bk (by omega) (by omega), if_neg (fun z => x1 z.1)]⟩)
      have i1 : insf (stN N q.toNat) b q = 0 := by unfold insf; exact zb_f (fun z => by have := z.1; rw [p2] at this; omega)
      have i2 : insf (bk (stN N q.toNat) q 2 1) b q = (if b = pk N q 3 then 1 else 0) := by
        unfold insf
        rw [pk_bs, pk_bn (by omega), p3]
        by_cases e : b = pk N q 3
        · rw [if_pos e]; exact zb_t ⟨rfl, e.symm⟩
        · rw [if_neg e]; exact zb_f (fun z => e z.2.symm)
      have : insQ N q b = ins (stN N q.toNat) b := rfl
      omega
  · rw [p2] at h1
    rw [p3] at h2
    rw [e2] at h2
    refine Or.inr (Or.inr (Or.inl ⟨h1, by unfold insQ; omega, ?_, fun j j0 j1 j2 => ?_, fun b => ?_⟩))
    · rw [pas_q hw hq ⟨by omega, by omega⟩, h3, pk_bs, pe 6 (by omega) (by omega)]
    · rw [pas_q hw hq ⟨j0, j1⟩, h3, pk_bn (by omega)]; exact pe j j0 j1
    · rw [insQ_s hq.1, h3, ins_bk (by omega) hq.1 (by omega)]; rfl
  · rw [p2] at h1
    refine Or.inr (Or.inr (Or.inr (Or.inl ?_)))
    obtain ⟨g1, g2, g3⟩ := goN_spec h2
    rw [p1, se] at g2
    have g4 := pse _ h2 g1 g2
    have g5 := (rme _).mp g3
    have hnb := pss_nb hw hq ⟨h2, by omega⟩ g4
    have f0 : 0 ≤ fsN N q ∧ fsN N q < 4 := by
      rcases fsN_c N q with h | h
      · have := go_no (N := stN N q.toNat) (p := q) (by rw [fse, h]; decide)
        omega
      · exact h
    have fnb := pss_nb hw hq ⟨f0.1, by omega⟩ (fsp f0.1)
    have hmk : ∀ j : Int, 0 ≤ j → j ≤ 9 → pk (pasN N) q j = mvv (stN N q.toNat) q (goN (stN N q.toNat) q) j (pk (stN N q.toNat) q 5 + zb (dtr (stN N q.toNat) (pk (stN N q.toNat) q 3) (nb (stN N q.toNat) (pk (stN N q.toNat) q 3) (goN (stN N q.toNat) q)) (pk (stN N q.toNat) q 1))) := fun j j0 j1 => by
      rw [pas_q hw hq ⟨j0, j1⟩, h3, mvN_pk hq.1 (by rw [p3]; omega) hq.1 ⟨j0, j1⟩, if_pos rfl]
    obtain ⟨m0, m1, m2, m3, m4, m5, m6, m7, m8, m9⟩ := mvv_v (M := stN N q.toNat) (p := q) (d := goN (stN N q.toNat) q) (x := pk (stN N q.toNat) q 5 + zb (dtr (stN N q.toNat) (pk (stN N q.toNat) q 3) (nb (stN N q.toNat) (pk (stN N q.toNat) q 3) (goN (stN N q.toNat) q)) (pk (stN N q.toNat) q 1)))
    refine ⟨goN (stN N q.toNat) q, h1, ⟨h2, g1⟩, g4, hnb, g5, f0, fnb, fun hr => ?_, ⟨?_, ?_, ?_, ?_, ?_, ?_, ?_, ?_, ?_, ?_⟩, fun b => ?_⟩
    · have := go_fs (N := stN N q.toNat) (p := q) (by rw [fse]; exact f0.1) (by rw [fse]; exact (rme _).mpr hr)
      rw [this, fse]
    · rw [hmk 0 (by omega) (by omega), m0, p0]
    · rw [hmk 1 (by omega) (by omega), m1, p1]
    · rw [hmk 2 (by omega) (by omega), m2, p3, p1, p2, nbe, h1]
    · rw [hmk 3 (by omega) (by omega), m3, p3, nbe]
    · rw [hmk 4 (by omega) (by omega), m4, pe 4 (by omega) (by omega)]
    · rw [hmk 5 (by omega) (by omega), m5, pe 5 (by omega) (by omega), p3, p1, nbe, dtr_lo e4]
    · rw [hmk 6 (by omega) (by omega), m6, pe 6 (by omega) (by omega)]
    · rw [hmk 7 (by omega) (by omega), m7, pe 7 (by omega) (by omega)]
    · rw [hmk 8 (by omega) (by omega), m8, p3, p1, nbe, e3, pe 8 (by omega) (by omega)]
    · rw [hmk 9 (by omega) (by omega), m9, pe 9 (by omega) (by omega)]
    · rw [insQ_s hq.1, h3]
      have hi : 60 ≤ 60 + 4 * pk (stN N q.toNat) q 3 + goN (stN N q.toNat) q ∧ 60 + 4 * pk (stN N q.toNat) q 3 + goN (stN N q.toNat) q < 160 := by rw [p3]; omega
      have hc := ins_chg (N := stN N q.toNat) (N' := mvN (stN N q.toNat) q (goN (stN N q.toNat) q)) (p := q) (b := b) (by rw [mvN_lo hq.1 (by omega), if_neg (by omega)]) ⟨hq.1, by rw [e6]; exact hq.2⟩ (fun x x0 x1 => ⟨by rw [mvN_pk hq.1 hi x0 (by omega), if_neg x1], by rw [mvN_pk hq.1 hi x0 (by omega), if_neg x1]⟩)
      have i1 : insf (stN N q.toNat) b q = (if b = pk N q 3 then 1 else 0) := by
        unfold insf
        rw [p2, p3]
        by_cases e : b = pk N q 3
        · rw [if_pos e]; exact zb_t ⟨h1, e.symm⟩
        · rw [if_neg e]; exact zb_f (fun z => e z.2.symm)
      have i2 : insf (mvN (stN N q.toNat) q (goN (stN N q.toNat) q)) b q = (if b = nb N (pk N q 3) (goN (stN N q.toNat) q) ∧ nb N (pk N q 3) (goN (stN N q.toNat) q) ≠ pk N q 1 then 1 else 0) := by
        unfold insf
        rw [mvN_pk hq.1 hi hq.1 (by omega), if_pos rfl, m2, mvN_pk hq.1 hi hq.1 (by omega), if_pos rfl, m3, p3, p1, nbe, p2]
        by_cases e : b = nb N (pk N q 3) (goN (stN N q.toNat) q)
        · by_cases e' : nb N (pk N q 3) (goN (stN N q.toNat) q) = pk N q 1
          · rw [if_pos e', if_neg (fun z => z.2 e')]; exact zb_f (fun z => by have := z.1; omega)
          · rw [if_neg e', if_pos ⟨e, e'⟩]; exact zb_t ⟨h1, e.symm⟩
        · exact (zb_f (fun z => e z.2.symm)).trans (if_neg (fun z => e z.1)).symm
      have : insQ N q b = ins (stN N q.toNat) b := rfl
      omega
  · rw [p2] at h1
    refine Or.inr (Or.inr (Or.inr (Or.inr ⟨h1, ?_, ?_, fun j j0 j1 j2 => ?_, fun b => ?_⟩)))
    · rcases fsN_c N q with h | h
      · exact Or.inl h
      · refine Or.inr ⟨h, pss_nb hw hq ⟨h.1, by omega⟩ (fsp h.1), ?_⟩
        have key : ¬ (nb N (pk N q 3) (fsN N q) = pk N q 1 ∨ insQ N q (nb N (pk N q 3) (fsN N q)) < N 2) := fun hr => by
          have := go_fs (N := stN N q.toNat) (p := q) (by rw [fse]; exact h.1) (by rw [fse]; exact (rme _).mpr hr)
          rw [fse] at this
          omega
        exact ⟨fun z => key (Or.inl z), by have : ¬ insQ N q (nb N (pk N q 3) (fsN N q)) < N 2 := fun z => key (Or.inr z); omega⟩
    · rw [pas_q hw hq ⟨by omega, by omega⟩, h3, pk_bs, pe 6 (by omega) (by omega)]
    · rw [pas_q hw hq ⟨j0, j1⟩, h3, pk_bn (by omega)]; exact pe j j0 j1
    · rw [insQ_s hq.1, h3, ins_bk (by omega) hq.1 (by omega)]; rfl
theorem PK_pas {N : Int → Int} {q : Int} (hw : wf N) (h3 : 0 ≤ N 3) (hq : 0 ≤ q ∧ q < N 6) (h : PK N q) : PK (pasN N) q := by
  have e4 : pasN N 4 = N 4 := (wf_pas hw).2 4 (by omega) (by omega)
  have e3 : pasN N 3 = N 3 + 1 := pas_3 hw
  have wpp := hw.2.2.2.2.2.2.2 q hq.1 hq.2
  rcases tk_5 hw hq with ⟨k1, k2, -⟩ | ⟨k1, -, k2, k3, -⟩ | ⟨k1, -, k2, k3, -⟩ | ⟨g, k1, k2, k3, k4, -, -, -, -, ⟨z0, z1, z2, z3, z4, z5, z6, z7, z8, z9⟩, -⟩ | ⟨k1, -, k2, k3, -⟩
  · exact PK_of e4 (by omega) k2 h
  · unfold PK at h ⊢
    rw [k2, k3 0 (by omega) (by omega) (by omega), k3 1 (by omega) (by omega) (by omega), k3 3 (by omega) (by omega) (by omega), k3 4 (by omega) (by omega) (by omega), k3 5 (by omega) (by omega) (by omega), k3 6 (by omega) (by omega) (by omega), k3 7 (by omega) (by omega) (by omega), k3 8 (by omega) (by omega) (by omega), dist_4 e4, dist_4 e4, e3]
    obtain ⟨a, b, c, d, e, f, g, i⟩ := h
    exact ⟨by omega, fun _ => b (by omega), by omega, d, by omega, by omega, by omega, by omega⟩
  · unfold PK at h ⊢
    rw [k2, k3 0 (by omega) (by omega) (by omega), k3 1 (by omega) (by omega) (by omega), k3 2 (by omega) (by omega) (by omega), k3 3 (by omega) (by omega) (by omega), k3 4 (by omega) (by omega) (by omega), k3 5 (by omega) (by omega) (by omega), k3 7 (by omega) (by omega) (by omega), k3 8 (by omega) (by omega) (by omega), dist_4 e4, dist_4 e4, e3]
    obtain ⟨a, b, c, d, e, f, g, i⟩ := h
    exact ⟨a, b, c, d, by omega, by omega, by omega, by omega⟩
  · have hd := dist_nb (d := g) (to := pk N q 1) hw.2.2.2.1 (by omega : 0 ≤ pk N q 3) k4.1
    have hz : zb (dtr N (pk N q 3) (nb N (pk N q 3) g) (pk N q 1)) = if dist N (nb N (pk N q 3) g) (pk N q 1) = dist N (pk N q 3) (pk N q 1) + 1 then 1 else 0 := by
      unfold dtr
      split
      · exact zb_t (by omega)
      · exact zb_f (by omega)
    unfold PK at h ⊢
    rw [z0, z1, z2, z3, z4, z5, z6, z7, z8, dist_4 e4, dist_4 e4, e3, hz]
    obtain ⟨a, b, c, d, e, f, g', i⟩ := h
    have b := b (by omega)
    by_cases ee : nb N (pk N q 3) g = pk N q 1
    · rw [if_pos ee, if_pos ee, ee, dist_0]
      rw [ee, dist_0] at hd
      refine ⟨by omega, by omega, by omega, ?_, by omega, by omega, by omega, by omega⟩
      split <;> omega
    · rw [if_neg ee, if_neg ee]
      refine ⟨by omega, fun _ => ⟨b.1, ee⟩, by omega, ?_, by omega, by omega, by omega, by omega⟩
      split <;> omega
  · unfold PK at h ⊢
    rw [k2, k3 0 (by omega) (by omega) (by omega), k3 1 (by omega) (by omega) (by omega), k3 2 (by omega) (by omega) (by omega), k3 3 (by omega) (by omega) (by omega), k3 4 (by omega) (by omega) (by omega), k3 5 (by omega) (by omega) (by omega), k3 7 (by omega) (by omega) (by omega), k3 8 (by omega) (by omega) (by omega), dist_4 e4, dist_4 e4, e3]
    obtain ⟨a, b, c, d, e, f, g, i⟩ := h
    exact ⟨a, b, c, d, by omega, by omega, by omega, by omega⟩
theorem mvS_stp {N : Int → Int} {p : Int} (hw : wf N) (hp : 0 ≤ p ∧ p < N 6) (h : mvS N) : mvS (stpN N p) := by
  have w6 := hw.2.2.2.2.2.1
  have hlo := (wf_stp hw hp).2
  have wpp := hw.2.2.2.2.2.2.2 p hp.1 hp.2
  have hcr := wf_cr hw
  have same4 : (∀ q : Int, 0 ≤ q → pk (stpN N p) q 4 = pk N q 4) → (∀ k : Int, 0 ≤ k → k < 100 → stpN N p (60 + k) = N (60 + k)) → mvS (stpN N p) := fun h4 hk => by
    refine ⟨?_, fun b d hb d0 d1 hn => ?_⟩
    · have e1 : sumOf (stpN N p) 4 = sumOf N 4 := by
        unfold sumOf
        rw [hlo 6 (by omega)]
        exact zS_cong (fun k k0 _ => h4 k k0)
      have e2 : zS (mvF (stpN N p)) 100 = zS (mvF N) 100 := zS_cong (fun k k0 k1 => hk k k0 (by omega))
      rw [e1, e2]; exact h.1
    · unfold isB at hb
      rw [hlo 4 (by omega), hlo 5 (by omega)] at hb
      rw [nb_45 (hlo 4 (by omega)) (hlo 5 (by omega))] at hn
      have := hk (4 * b + d) (by omega) (by omega)
      rw [show 60 + (4 * b + d) = 60 + 4 * b + d by omega] at this
      rw [this]
      exact h.2 b d hb d0 d1 hn
  rcases stp_5 hw hp with ⟨h1, h2⟩ | ⟨h1, -, h3⟩ | ⟨h1, -, h3⟩ | ⟨h1, h2, h3⟩ | ⟨h1, h2, h3⟩
  · rw [h2]; exact h
  · exact same4 (fun q q0 => by rw [h3, pk_bk (by omega) (by omega), if_neg (by omega)]) (fun k k0 k1 => by rw [h3, bk_lo hp.1 (by omega) (by omega)])
  · exact same4 (fun q q0 => by rw [h3, pk_bk (by omega) (by omega), if_neg (by omega)]) (fun k k0 k1 => by rw [h3, bk_lo hp.1 (by omega) (by omega)])
  · obtain ⟨g1, g2, g3⟩ := goN_spec h2
    have hnb := pss_nb hw hp ⟨h2, by omega⟩ g2
    have hi : 60 ≤ 60 + 4 * pk N p 3 + goN N p ∧ 60 + 4 * pk N p 3 + goN N p < 160 := by omega
    refine ⟨?_, fun b d hb d0 d1 hn => ?_⟩
    · have e1 : sumOf (stpN N p) 4 = sumOf N 4 + 1 := by
        unfold sumOf
        rw [hlo 6 (by omega)]
        have a := zS_zu (f := fun q => pk N q 4) (i := p) (v := pk N p 4 + 1) (n := (N 6).toNat) hp.1 (by omega)
        have b : zS (fun q => pk (stpN N p) q 4) (N 6).toNat = zS (zu (fun q => pk N q 4) p (pk N p 4 + 1)) (N 6).toNat := zS_cong (fun q q0 q1 => by
          show pk (stpN N p) q 4 = zu (fun q => pk N q 4) p (pk N p 4 + 1) q
          rw [h3, mvN_pk hp.1 hi q0 (by omega)]
          by_cases e : q = p
          · subst e; rw [if_pos rfl, zu_s]; exact mvv_v.2.2.2.2.1
          · rw [if_neg e, zu_n e])
        omega
      have e2 : zS (mvF (stpN N p)) 100 = zS (mvF N) 100 + 1 := by
        have a := zS_zu (f := mvF N) (i := 4 * pk N p 3 + goN N p) (v := mvF N (4 * pk N p 3 + goN N p) + 1) (n := 100) (by omega) (by omega)
        have b : zS (mvF (stpN N p)) 100 = zS (zu (mvF N) (4 * pk N p 3 + goN N p) (mvF N (4 * pk N p 3 + goN N p) + 1)) 100 := zS_cong (fun k k0 k1 => by
          show stpN N p (60 + k) = _
          rw [h3, mvN_lo hp.1 (by omega)]
          by_cases e : k = 4 * pk N p 3 + goN N p
          · subst e; rw [if_pos (by omega), zu_s]; rfl
          · rw [if_neg (by omega), zu_n e]; rfl)
        omega
      rw [e1, e2, h.1]
    · unfold isB at hb
      rw [hlo 4 (by omega), hlo 5 (by omega)] at hb
      rw [nb_45 (hlo 4 (by omega)) (hlo 5 (by omega))] at hn
      rw [h3, mvN_lo hp.1 (by omega)]
      rw [if_neg (fun e => by
        have eb : b = pk N p 3 := by omega
        have ed : d = goN N p := by omega
        rw [eb, ed] at hn
        omega)]
      exact h.2 b d hb d0 d1 hn
  · exact same4 (fun q q0 => by rw [h3, pk_bk (by omega) (by omega), if_neg (by omega)]) (fun k k0 k1 => by rw [h3, bk_lo hp.1 (by omega) (by omega)])
theorem mvS_st {N : Int → Int} (hw : wf N) (h : mvS N) : ∀ i : Nat, (i : Int) ≤ N 6 → mvS (stN N i)
  | 0, _ => h
  | i + 1, hi => by
    obtain ⟨g1, g2⟩ := wf_st hw i (by omega)
    exact mvS_stp g1 ⟨by omega, by rw [g2 6 (by omega)]; omega⟩ (mvS_st hw h i (by omega))
theorem INV_pas {B : Int} {N : Int → Int} (h : INV B N) : INV (B + 1) (pasN N) := by
  have hw := h.1.1
  have w6 := hw.2.2.2.2.2.1
  have hlo := (wf_pas hw).2
  have hr : rowB (B + 1) (pasN N) := rowB_tk h.1 1
  have hs := mvS_st hw h.2.2.1 (N 6).toNat (by omega)
  obtain ⟨g1, g2⟩ := wf_st hw (N 6).toNat (by omega)
  refine ⟨hr, fun p p0 p1 => ?_, ⟨?_, fun b d hb d0 d1 hn => ?_⟩, fun k k0 k1 hk => ?_, fun k k0 k1 => (hlo k (by omega) (by omega)).trans (h.2.2.2.2 k k0 k1)⟩
  · rw [hlo 6 (by omega) (by omega)] at p1
    exact PK_pas hw h.1.2.1.1 ⟨p0, p1⟩ (h.2.1 p p0 p1)
  · have e1 : sumOf (pasN N) 4 = sumOf (stN N (N 6).toNat) 4 := by
      unfold sumOf
      rw [hlo 6 (by omega) (by omega), g2 6 (by omega)]
      exact zS_cong (fun k k0 _ => pas_k (by omega))
    have e2 : zS (mvF (pasN N)) 100 = zS (mvF (stN N (N 6).toNat)) 100 := zS_cong (fun k k0 k1 => pas_k (by omega))
    rw [e1, e2]; exact hs.1
  · unfold isB at hb
    rw [hlo 4 (by omega) (by omega), hlo 5 (by omega) (by omega)] at hb
    rw [nb_45 (hlo 4 (by omega) (by omega)) (hlo 5 (by omega) (by omega))] at hn
    rw [pas_k (by omega)]
    refine hs.2 b d (by unfold isB; rw [g2 4 (by omega), g2 5 (by omega)]; exact hb) d0 d1 ?_
    rw [nb_45 (g2 4 (by omega)) (g2 5 (by omega))]
    exact hn
  · rw [hlo _ (by omega) (by omega)] at hk
    rw [hlo 4 (by omega) (by omega), hlo 5 (by omega) (by omega), nb_45 (hlo 4 (by omega) (by omega)) (hlo 5 (by omega) (by omega))]
    exact h.2.2.2.1 k k0 k1 hk
