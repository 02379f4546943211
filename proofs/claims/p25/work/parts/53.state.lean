/-! what a state answers, by the routes; how its cells follow its row -/
theorem lqo_rng {N : Int → Int} {to x v : Int} (h : lqo N to x v) : 0 ≤ v ∧ v ≤ 1000 := by
  rcases h with ⟨a1, a2⟩ | ⟨m, a1, a2, a3, a4⟩ <;> omega
theorem wl_fr {N op ln : Int → Int} {ef x to : Int} (hw : wf N) (hok : rOK N ef op ln) (hx : isB N x) (hto : isB N to) : fr N to (10 * x) = (if ln (to * 50 + (0 * 25 + x)) ≤ dist N x to + 2 * N 1 then ln (to * 50 + (0 * 25 + x)) else -6) ∧ (0 ≤ ln (to * 50 + (0 * 25 + x)) ∧ ln (to * 50 + (0 * 25 + x)) ≤ 1000) := by
  unfold isB at hx hto
  have hcr := wf_cr hw
  have w1 := hw.2.1
  have hl := hok.2 to (0 * 25 + x) hto.1 hto.2 ⟨by omega, by omega, by omega⟩
  have h := lqo_fr (s := 10 * x) hw hto ⟨by omega, by omega⟩ (by rw [show spo (10 * x) = 0 * 25 + x by unfold spo; omega]; exact hl)
  rw [show 10 * x / 10 = x by omega, show 10 * x % 5 = 0 by omega, show max 0 (N 1 - 0) = N 1 by omega] at h
  exact ⟨h, lqo_rng hl⟩
def mm (N : Int → Int) (p : Int) : Int := dist N (pk N p 3) (pk N p 1) + 2 * max 0 (N 1 - pk N p 5)
theorem mm_rng {N : Int → Int} {p : Int} (hw : wf N) (hp : 0 ≤ p ∧ p < N 6) : 0 ≤ mm N p ∧ mm N p ≤ 16 := by
  obtain ⟨q1, q2, q3, q4, q5, q6⟩ := hw.2.2.2.2.2.2.2 p hp.1 hp.2
  have := dist_le hw q4 q2
  have w1 := hw.2.1
  unfold mm
  omega
theorem wlo_fr {N op ln : Int → Int} {ef p : Int} (hw : wf N) (hok : rOK N ef op ln) (hp : 0 ≤ p ∧ p < N 6) : fr N (pk N p 1) (stg N p) = (if ln (pk N p 1 * 50 + (pk N p 9 * 25 + pk N p 3)) ≤ mm N p then ln (pk N p 1 * 50 + (pk N p 9 * 25 + pk N p 3)) else -6) ∧ (0 ≤ ln (pk N p 1 * 50 + (pk N p 9 * 25 + pk N p 3)) ∧ ln (pk N p 1 * 50 + (pk N p 9 * 25 + pk N p 3)) ≤ 1000) := by
  obtain ⟨q1, q2, q3, q4, q5, q6⟩ := hw.2.2.2.2.2.2.2 p hp.1 hp.2
  obtain ⟨s1, s2, s3, s4, s5⟩ := stg_rng hw hp
  have hcr := wf_cr hw
  have hl := hok.2 (pk N p 1) (pk N p 9 * 25 + pk N p 3) q2.1 q2.2 ⟨by omega, by omega, by omega⟩
  have h := lqo_fr (s := stg N p) hw q2 ⟨s1, s2⟩ (by rw [show spo (stg N p) = pk N p 9 * 25 + pk N p 3 by unfold spo; omega]; exact hl)
  rw [s3, s5] at h
  exact ⟨h, lqo_rng hl⟩
theorem lqo_lo {N : Int → Int} {to x v : Int} (hw : wf N) (ht : 0 ≤ to ∧ to < N 4 * N 5) (hx : vsp N x) (h : lqo N to x v) : v = 1000 ∨ dist N (x % 25) to ≤ v := by
  rcases h with ⟨a1, a2⟩ | ⟨m, a1, a2, a3, a4⟩
  · exact Or.inl a1
  · refine Or.inr (Int.not_lt.mp fun hlt => ?_)
    have := wq_lo hw ht m x hx (by omega)
    omega
/-- the length behind a direction -/
theorem pss_laf {N op ln : Int → Int} {ef p d : Int} (hw : wf N) (hok : rOK N ef op ln) (hp : 0 ≤ p ∧ p < N 6) (hd : 0 ≤ d ∧ d ≤ 3) :
    (laf ef op ln (pk N p 3) (pk N p 9) d (pk N p 1) < mm N p ↔ pss N (pk N p 1) (stg N p) d) ∧ (pss N (pk N p 1) (stg N p) d → kln N (pk N p 1) (stg N p) d = laf ef op ln (pk N p 3) (pk N p 9) d (pk N p 1)) ∧
    (0 ≤ laf ef op ln (pk N p 3) (pk N p 9) d (pk N p 1) ∧ laf ef op ln (pk N p 3) (pk N p 9) d (pk N p 1) ≤ 1000) ∧ (laf ef op ln (pk N p 3) (pk N p 9) d (pk N p 1) < 1000 → op (pk N p 3 * 4 + d) = nb N (pk N p 3) d ∧ 0 ≤ nb N (pk N p 3) d) := by
  obtain ⟨q1, q2, q3, q4, q5, q6⟩ := hw.2.2.2.2.2.2.2 p hp.1 hp.2
  obtain ⟨s1, s2, s3, s4, s5⟩ := stg_rng hw hp
  have hcr := wf_cr hw
  have hmm := mm_rng hw hp
  have w1 := hw.2.1
  have hop := hok.1.2 (pk N p 3) d q4.1 q4.2 hd.1 hd.2
  have hef := hok.1.1
  have hno : (¬ opn N (pk N p 3) d ∨ (N 0 = 1 ∧ d = 0 ∧ pk N p 9 = 1)) → ¬ pss N (pk N p 1) (stg N p) d := by
    intro h g
    have g1 := (mvd_spec hw ⟨s1, s2⟩ hd g.1).1
    unfold okm at g1
    rw [s3, s4] at g1
    rcases h with h | h
    · exact h g1.1
    · exact g1.2.1 h
  unfold laf
  by_cases hc : op (pk N p 3 * 4 + d) = -1 ∨ (ef = 1 ∧ pk N p 9 = 1 ∧ d = 0)
  · rw [if_pos hc]
    have hn : ¬ pss N (pk N p 1) (stg N p) d := by
      apply hno
      rcases hc with h | h
      · exact Or.inl (oq_n hop h)
      · exact Or.inr ⟨hef.2.2.mp h.1, h.2.2, h.2.1⟩
    exact ⟨⟨fun h => absurd h (by omega), fun h => absurd h hn⟩, fun h => absurd h hn, ⟨by decide, by decide⟩, fun h => absurd h (by decide)⟩
  · rw [if_neg hc]
    obtain ⟨o1, o2, o3⟩ := oq_y hop (fun e => hc (Or.inl e))
    have hrule : ¬ (N 0 = 1 ∧ d = 0 ∧ pk N p 9 = 1) := fun g => hc (Or.inr ⟨hef.2.2.mpr g.1, g.2.2, g.2.1⟩)
    have hnr := nb_rng hw q4 hd
    have hz : 0 ≤ (if d = 0 then pk N p 9 else 1) ∧ (if d = 0 then pk N p 9 else 1) ≤ 1 := by split <;> omega
    obtain ⟨u, hu⟩ : ∃ u, u = (if d = 0 then pk N p 9 else 1) := ⟨_, rfl⟩
    rw [← hu] at hz ⊢
    rw [o2]
    have hv : vsp N (u * 25 + nb N (pk N p 3) d) := ⟨by omega, by omega, by omega⟩
    have hl := hok.2 (pk N p 1) (u * 25 + nb N (pk N p 3) d) q2.1 q2.2 hv
    have hlr := lqo_rng hl
    have hlo := lqo_lo hw q2 hv hl
    rw [show (u * 25 + nb N (pk N p 3) d) % 25 = nb N (pk N p 3) d by omega] at hlo
    have hdn := dist_nb (d := d) (to := pk N p 1) hw.2.2.2.1 q4.1 o3
    have main : (ln (pk N p 1 * 50 + (u * 25 + nb N (pk N p 3) d)) < mm N p ↔ pss N (pk N p 1) (stg N p) d) ∧ (pss N (pk N p 1) (stg N p) d → kln N (pk N p 1) (stg N p) d = ln (pk N p 1 * 50 + (u * 25 + nb N (pk N p 3) d))) := by
      by_cases hdt : dtr N (pk N p 3) (nb N (pk N p 3) d) (pk N p 1) ∧ N 1 ≤ pk N p 5
      · have hd1 := hdt.1
        unfold dtr at hd1
        have hn : ¬ pss N (pk N p 1) (stg N p) d := by
          intro g
          have g1 := (mvd_spec hw ⟨s1, s2⟩ hd g.1).1
          unfold okm at g1
          rw [s3, s5] at g1
          exact g1.2.2 hdt
        refine ⟨⟨fun h => ?_, fun h => absurd h hn⟩, fun h => absurd h hn⟩
        unfold mm at h
        have := mm_rng hw hp
        unfold mm at this
        omega
      · have hok1 : okm N (stg N p) d (pk N p 1) := by
          unfold okm
          rw [s3, s4, s5]
          exact ⟨o1, hrule, hdt⟩
        have hmv : 0 ≤ mvd N (stg N p) d (pk N p 1) := by
          unfold mvd nxt
          rw [zif_t hok1, s3]
          have := zb_rng (dtr N (pk N p 3) (nb N (pk N p 3) d) (pk N p 1))
          split <;> omega
        obtain ⟨-, -, k1, k2, k3, k4⟩ := mvd_spec hw ⟨s1, s2⟩ hd hmv
        rw [s3] at k1
        rw [s4, ← hu] at k2
        rw [s3, s5] at k3
        have h := lqo_fr hw q2 k4 (v := ln (pk N p 1 * 50 + (u * 25 + nb N (pk N p 3) d))) (by rw [show spo (mvd N (stg N p) d (pk N p 1)) = u * 25 + nb N (pk N p 3) d by unfold spo; omega]; exact hl)
        rw [k1, k3] at h
        have hle : (ln (pk N p 1 * 50 + (u * 25 + nb N (pk N p 3) d)) < mm N p ↔ ln (pk N p 1 * 50 + (u * 25 + nb N (pk N p 3) d)) ≤ dist N (nb N (pk N p 3) d) (pk N p 1) + 2 * max 0 (N 1 - (pk N p 5 + zb (dtr N (pk N p 3) (nb N (pk N p 3) d) (pk N p 1))))) := by
          unfold mm
          rcases zb_01 (dtr N (pk N p 3) (nb N (pk N p 3) d) (pk N p 1)) with z | z
          · have hnd := zb_eq0.mp z
            rw [z]
            unfold dtr at hnd
            omega
          · have hd1 := zb_eq1.mp z
            have : ¬ N 1 ≤ pk N p 5 := fun q => hdt ⟨hd1, q⟩
            rw [z]
            unfold dtr at hd1
            omega
        rw [hle]
        by_cases hc2 : ln (pk N p 1 * 50 + (u * 25 + nb N (pk N p 3) d)) ≤ dist N (nb N (pk N p 3) d) (pk N p 1) + 2 * max 0 (N 1 - (pk N p 5 + zb (dtr N (pk N p 3) (nb N (pk N p 3) d) (pk N p 1))))
        · rw [if_pos hc2] at h
          exact ⟨⟨fun _ => ⟨hmv, by rw [h]; exact hlr.1⟩, fun _ => hc2⟩, fun _ => h⟩
        · rw [if_neg hc2] at h
          have hn : ¬ pss N (pk N p 1) (stg N p) d := fun g => by have := g.2; omega
          exact ⟨⟨fun g => absurd g hc2, fun g => absurd g hn⟩, fun g => absurd g hn⟩
    exact ⟨main.1, main.2, hlr, fun _ => ⟨rfl, o3⟩⟩
/-! the first possible direction, side by side -/
def fsI (N : Int → Int) (to s : Int) (P : Int → Prop) (m sd f bd : Int) : Prop :=
  (f = -6 ∧ bd = m ∧ ∀ d : Int, 0 ≤ d → d < sd → pss N to s d → ¬ P d) ∨ (0 ≤ f ∧ f < sd ∧ pss N to s f ∧ P f ∧ bd = kln N to s f ∧ bd < m ∧ ∀ d : Int, 0 ≤ d → d < sd → pss N to s d → P d → ¬ slt N to s d f)
theorem fsI_0 {N : Int → Int} {to s m : Int} {P : Int → Prop} : fsI N to s P m 0 (-6) m := Or.inl ⟨rfl, rfl, fun d h0 h1 => absurd h1 (by omega)⟩
theorem fsI_take {N : Int → Int} {to s m sd f bd v : Int} {P : Int → Prop} (h : fsI N to s P m sd f bd) (h1 : v < m ↔ pss N to s sd) (h2 : pss N to s sd → kln N to s sd = v) (hs : 0 ≤ sd) (hv : v < bd) (hP : P sd) : fsI N to s P m (sd + 1) sd v := by
  have hm : v < m := by rcases h with ⟨-, e, -⟩ | ⟨-, -, -, -, -, e, -⟩ <;> omega
  have hp := h1.mp hm
  have hk := h2 hp
  refine Or.inr ⟨hs, by omega, hp, hP, hk.symm, hm, fun d d0 d1 dp dP hlt => ?_⟩
  unfold slt at hlt
  by_cases e : d = sd
  · subst e; omega
  · rcases h with ⟨-, -, g⟩ | ⟨g0, g1, g2, g3, g4, g5, g6⟩
    · exact g d d0 (by omega) dp dP
    · have := g6 d d0 (by omega) dp dP
      unfold slt at this
      omega
theorem fsI_skip {N : Int → Int} {to s m sd f bd v : Int} {P : Int → Prop} (h : fsI N to s P m sd f bd) (h1 : v < m ↔ pss N to s sd) (h2 : pss N to s sd → kln N to s sd = v) (hv : bd ≤ v ∨ ¬ P sd) : fsI N to s P m (sd + 1) f bd := by
  rcases h with ⟨g1, g2, g3⟩ | ⟨g0, g1, g2, g3, g4, g5, g6⟩
  · refine Or.inl ⟨g1, g2, fun d d0 d1 dp dP => ?_⟩
    by_cases e : d = sd
    · subst e
      rcases hv with hv | hv
      · have := h1.mpr dp; omega
      · exact hv dP
    · exact g3 d d0 (by omega) dp dP
  · refine Or.inr ⟨g0, by omega, g2, g3, g4, g5, fun d d0 d1 dp dP hlt => ?_⟩
    by_cases e : d = sd
    · subst e
      rcases hv with hv | hv
      · have := h2 dp
        unfold slt at hlt
        omega
      · exact hv dP
    · exact g6 d d0 (by omega) dp dP hlt
theorem fsI_end {N : Int → Int} {to s m f bd : Int} {P : Int → Prop} (h : fsI N to s P m 4 f bd) : f = gos N to s P := by
  apply isF_gos
  rcases h with ⟨g1, g2, g3⟩ | ⟨g0, g1, g2, g3, g4, g5, g6⟩
  · exact Or.inl ⟨g1, fun d d0 d1 => g3 d d0 d1⟩
  · exact Or.inr ⟨g0, g1, g2, g3, fun d d0 d1 => g6 d d0 d1⟩
noncomputable def fsG (N : Int → Int) (p wr : Int) : Int := zif (pk N p 2 = 2) (-6) (gos N (pk N p 1) (stg N p) (fun d => wr = 1 → rmP N p d))
theorem fsG_1 {N : Int → Int} {p : Int} (h : ¬ pk N p 2 = 2) : fsG N p 1 = goN N p := by
  unfold fsG goN
  rw [zif_f h]
  congr 1
  funext d
  exact propext ⟨fun g => g rfl, fun g _ => g⟩
theorem fsG_0 {N : Int → Int} {p : Int} (h : ¬ pk N p 2 = 2) : fsG N p 0 = fsN N p := by
  unfold fsG fsN
  rw [zif_f h]
  congr 1
  funext d
  exact propext ⟨fun _ => trivial, fun _ g => absurd g (by decide)⟩
/-- the cells of a state, where they agree with a row -/
theorem z_sN {X : zX} {Z : zZ} {R : Room} {cc : ByteArray} {own : String} {nL k n : Nat} {pc : Nat} {lv : List (Nat × Value)} {stk : List Value} (ok : zOK X Z R cc own nL) {a : Nat → Nat} (N : Int → Int) {st iv mf : Int → Int} {tk c r sn : Int} {bk : Int64} {p0 p1 p2 p3 p4 p5 p6 p7 p8 p9 : Int → Int} (Lr : List va_W)
    (hs : ∀ j : Int, 0 ≤ j → j < 3 → st j = N j) (hi : ∀ j : Int, 0 ≤ j → j < 25 → iv j = ins N j) (hm : ∀ j : Int, 0 ≤ j → j < 100 → mf j = N (60 + j)) (ht : tk = N 3) (hc : c = N 4) (hr : r = N 5) (hb : bk = bkL N) (hn : sn = N 6)
    (h0 : ∀ j : Int, 0 ≤ j → p0 j = pk N j 0) (h1 : ∀ j : Int, 0 ≤ j → p1 j = pk N j 1) (h2 : ∀ j : Int, 0 ≤ j → p2 j = pk N j 2) (h3 : ∀ j : Int, 0 ≤ j → p3 j = pk N j 3) (h4 : ∀ j : Int, 0 ≤ j → p4 j = pk N j 4) (h5 : ∀ j : Int, 0 ≤ j → p5 j = pk N j 5) (h6 : ∀ j : Int, 0 ≤ j → p6 j = pk N j 6) (h7 : ∀ j : Int, 0 ≤ j → p7 j = pk N j 7) (h8 : ∀ j : Int, 0 ≤ j → p8 j = pk N j 8) (h9 : ∀ j : Int, 0 ≤ j → p9 j = pk N j 9)
    (h : zV X k n (zf (soW Z a N (ins N) (mvF N) (N 3) :: gW Z a (N 4) (N 5) (bkL N) :: pW Z a (N 6) (pkF N 0) (pkF N 1) (pkF N 2) (pkF N 3) (pkF N 4) (pkF N 5) (pkF N 6) (pkF N 7) (pkF N 8) (pkF N 9) :: Lr)) pc lv stk) : zV X k n (zf (soW Z a st iv mf tk :: gW Z a c r bk :: pW Z a sn p0 p1 p2 p3 p4 p5 p6 p7 p8 p9 :: Lr)) pc lv stk := by
  subst ht hc hr hb hn
  refine z_ext (f := st) (g := N) ok 1 rfl (fun j a b => hs j a b) rfl ?_
  refine z_ext (f := iv) (g := ins N) ok 2 rfl (fun j a b => hi j a b) rfl ?_
  refine z_ext (f := mf) (g := mvF N) ok 3 rfl (fun j a b => hm j a b) rfl ?_
  refine z_ext (f := p0) (g := pkF N 0) ok 6 rfl (fun j a b => h0 j a) rfl ?_
  refine z_ext (f := p1) (g := pkF N 1) ok 7 rfl (fun j a b => h1 j a) rfl ?_
  refine z_ext (f := p2) (g := pkF N 2) ok 8 rfl (fun j a b => h2 j a) rfl ?_
  refine z_ext (f := p3) (g := pkF N 3) ok 9 rfl (fun j a b => h3 j a) rfl ?_
  refine z_ext (f := p4) (g := pkF N 4) ok 10 rfl (fun j a b => h4 j a) rfl ?_
  refine z_ext (f := p5) (g := pkF N 5) ok 11 rfl (fun j a b => h5 j a) rfl ?_
  refine z_ext (f := p6) (g := pkF N 6) ok 12 rfl (fun j a b => h6 j a) rfl ?_
  refine z_ext (f := p7) (g := pkF N 7) ok 13 rfl (fun j a b => h7 j a) rfl ?_
  refine z_ext (f := p8) (g := pkF N 8) ok 14 rfl (fun j a b => h8 j a) rfl ?_
  refine z_ext (f := p9) (g := pkF N 9) ok 15 rfl (fun j a b => h9 j a) rfl ?_
  exact h
/-- the number inside of a box when one packet changes -/
theorem ins_chg {N N' : Int → Int} {p b : Int} (h6 : N' 6 = N 6) (hp : 0 ≤ p ∧ p < N 6) (ho : ∀ q : Int, 0 ≤ q → q ≠ p → pk N' q 2 = pk N q 2 ∧ pk N' q 3 = pk N q 3) : ins N' b = ins N b - insf N b p + insf N' b p := by
  unfold ins
  rw [h6, ← zS_zu hp.1 (by omega)]
  refine zS_cong (fun q h0 h1 => ?_)
  by_cases e : q = p
  · subst e; rw [zu_s]
  · rw [zu_n e]
    unfold insf
    rw [(ho q h0 e).1, (ho q h0 e).2]
theorem fsI_rng {N : Int → Int} {to s m sd f bd : Int} {P : Int → Prop} (h : fsI N to s P m sd f bd) (hm : 0 ≤ m) : 0 ≤ bd ∧ bd ≤ m ∧ -6 ≤ f ∧ (f = -6 ∨ 0 ≤ f) := by
  rcases h with ⟨g1, g2, g3⟩ | ⟨g0, g1, g2, g3, g4, g5, g6⟩
  · omega
  · have : 0 ≤ kln N to s f := g2.2
    omega
