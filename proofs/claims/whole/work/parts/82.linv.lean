/-! what stays true from call to call -/
def mvR (N : Int → Int) : Prop := (∀ k : Int, 0 ≤ k → k < 100 → 0 ≤ N (60 + k) ∧ N (60 + k) ≤ 40 * N 3) ∧ (∀ k : Int, 0 ≤ k → 4 * (N 4 * N 5) ≤ k → k < 100 → N (60 + k) = 0) ∧ (N 6 = 0 → ∀ k : Int, 0 ≤ k → k < 100 → N (60 + k) = 0)
def rowB (B : Int) (N : Int → Int) : Prop := wf N ∧ (0 ≤ N 3 ∧ N 3 ≤ B) ∧ mvR N
theorem stp_mv {N : Int → Int} {p k : Int} (hw : wf N) (hp : 0 ≤ p ∧ p < N 6) (hk : 0 ≤ k ∧ k < 100) : N (60 + k) ≤ stpN N p (60 + k) ∧ stpN N p (60 + k) ≤ N (60 + k) + 1 ∧ (4 * (N 4 * N 5) ≤ k → stpN N p (60 + k) = N (60 + k)) := by
  have wpp := hw.2.2.2.2.2.2.2 p hp.1 hp.2
  unfold stpN
  by_cases h0 : pk N p 2 = 0
  · rw [if_pos h0, bk_lo hp.1 (by omega) (by omega), bk_lo hp.1 (by omega) (by omega)]
    omega
  · rw [if_neg h0]
    by_cases h1 : pk N p 2 = 1
    · rw [if_pos h1]
      by_cases hg : 0 ≤ goN N p
      · have hg4 := (goN_spec hg).1
        rw [if_pos hg, mvN_lo hp.1 (by omega)]
        split
        · exact ⟨by omega, by omega, fun h => by omega⟩
        · exact ⟨by omega, by omega, fun _ => rfl⟩
      · rw [if_neg hg, bk_lo hp.1 (by omega) (by omega)]
        omega
    · rw [if_neg h1]
      omega
theorem st_mv {N : Int → Int} {k : Int} (hw : wf N) (hk : 0 ≤ k ∧ k < 100) : ∀ i : Nat, (i : Int) ≤ N 6 → N (60 + k) ≤ stN N i (60 + k) ∧ stN N i (60 + k) ≤ N (60 + k) + i ∧ (4 * (N 4 * N 5) ≤ k → stN N i (60 + k) = N (60 + k))
  | 0, _ => ⟨Int.le_refl _, by show N (60 + k) ≤ N (60 + k) + ((0 : Nat) : Int); omega, fun _ => rfl⟩
  | i + 1, h => by
    obtain ⟨h1, h2, h3⟩ := st_mv hw hk i (by omega)
    obtain ⟨hw2, hlo⟩ := wf_st hw i (by omega)
    have h6 := hlo 6 (by decide)
    have h4 := hlo 4 (by decide)
    have h5 := hlo 5 (by decide)
    obtain ⟨g1, g2, g3⟩ := stp_mv (p := (i : Int)) hw2 ⟨by omega, by omega⟩ hk
    rw [h4, h5] at g3
    show N (60 + k) ≤ stpN (stN N i) i (60 + k) ∧ stpN (stN N i) i (60 + k) ≤ N (60 + k) + ((i + 1 : Nat) : Int) ∧ (4 * (N 4 * N 5) ≤ k → stpN (stN N i) i (60 + k) = N (60 + k))
    exact ⟨by omega, by omega, fun h => by rw [g3 h, h3 h]⟩
theorem pas_mv {N : Int → Int} (hw : wf N) (h : mvR N) : mvR (pasN N) := by
  obtain ⟨a1, a2, a3⟩ := h
  obtain ⟨hw2, hlo⟩ := wf_pas hw
  have h3 := pas_3 hw
  have w6 := hw.2.2.2.2.2.1
  have e : ∀ k : Int, 0 ≤ k → pasN N (60 + k) = stN N (N 6).toNat (60 + k) := fun k hk => by
    unfold pasN mvB
    exact zu_n (by omega)
  have s : ∀ k : Int, 0 ≤ k → k < 100 → N (60 + k) ≤ pasN N (60 + k) ∧ pasN N (60 + k) ≤ N (60 + k) + N 6 ∧ (4 * (N 4 * N 5) ≤ k → pasN N (60 + k) = N (60 + k)) := fun k k0 k1 => by
    rw [e k k0]
    have := st_mv hw ⟨k0, k1⟩ (N 6).toNat (by omega)
    rw [Int.toNat_of_nonneg w6.1] at this
    exact this
  have hcr := wf_cr hw
  refine ⟨fun k k0 k1 => ?_, fun k kk k0 k1 => ?_, fun h6 k k0 k1 => ?_⟩
  · have := a1 k k0 k1
    have := s k k0 k1
    rw [h3]
    omega
  · rw [hlo 4 (by decide) (by decide), hlo 5 (by decide) (by decide)] at k0
    rw [(s k kk k1).2.2 k0]
    exact a2 k kk k0 k1
  · rw [hlo 6 (by decide) (by decide)] at h6
    have := s k k0 k1
    have := a3 h6 k k0 k1
    omega
theorem tk_mv {N : Int → Int} (hw : wf N) (h : mvR N) : ∀ i : Nat, mvR (tkN N i)
  | 0 => h
  | i + 1 => pas_mv (wf_tks hw i).1 (tk_mv hw h i)
theorem mvR_same {N N' : Int → Int} (hk : ∀ k : Int, 60 ≤ k → k < 160 → N' k = N k) (h3 : N' 3 = N 3) (h4 : N' 4 = N 4) (h5 : N' 5 = N 5) (h6 : N' 6 = 0 → N 6 = 0) (h : mvR N) : mvR N' := by
  obtain ⟨a1, a2, a3⟩ := h
  refine ⟨fun k k0 k1 => ?_, fun k kk k0 k1 => ?_, fun z k k0 k1 => ?_⟩
  · rw [hk _ (by omega) (by omega), h3]; exact a1 k k0 k1
  · rw [h4, h5] at k0
    rw [hk _ (by omega) (by omega)]; exact a2 k kk k0 k1
  · rw [hk _ (by omega) (by omega)]; exact a3 (h6 z) k k0 k1
theorem rowB_le {B B' : Int} {N : Int → Int} (h : rowB B N) (hB : B ≤ B') : rowB B' N := ⟨h.1, ⟨h.2.1.1, by have := h.2.1.2; omega⟩, h.2.2⟩
theorem rowB_set {B i v : Int} {N : Int → Int} (h : rowB B N) (hs : okS i v) : rowB B (zu N i v) := by
  have hi : 0 ≤ i ∧ i ≤ 2 := by unfold okS at hs; omega
  refine ⟨wf_set h.1 hs, by rw [zu_n (by omega)]; exact h.2.1, mvR_same (fun k h0 h1 => zu_n (by omega)) (zu_n (by omega)) (zu_n (by omega)) (zu_n (by omega)) (fun z => by rw [zu_n (by omega)] at z; exact z) h.2.2⟩
theorem rowB_lnk {B i v : Int} {N : Int → Int} (h : rowB B N) (hi : 10 ≤ i ∧ i < 60) (hv : 0 ≤ v ∧ v ≤ 1) : rowB B (zu N i v) :=
  ⟨wf_lk h.1 hi hv, by rw [zu_n (by omega)]; exact h.2.1, mvR_same (fun k h0 h1 => zu_n (by omega)) (zu_n (by omega)) (zu_n (by omega)) (zu_n (by omega)) (fun z => by rw [zu_n (by omega)] at z; exact z) h.2.2⟩
theorem rowB_msh {B c r : Int} {N : Int → Int} (h : rowB B N) (hl : okL c r) (h6 : N 6 ≤ 0) : rowB B (mshN N c r) := by
  have w6 := h.1.2.2.2.2.2.1
  have hz := h.2.2.2.2 (by omega)
  have e : ∀ k : Int, 60 ≤ k → mshN N c r k = N k := fun k hk => by rw [msh_v, if_neg (by omega), if_neg (by omega), if_neg (by omega)]
  have e3 : mshN N c r 3 = N 3 := by rw [msh_v, if_neg (by omega), if_neg (by omega), if_neg (by omega)]
  refine ⟨wf_msh h.1 h6 hl, by rw [e3]; exact h.2.1, fun k k0 k1 => ?_, fun k kk k0 k1 => ?_, fun z k k0 k1 => ?_⟩
  · rw [e _ (by omega), e3]; exact h.2.2.1 k k0 k1
  · rw [e _ (by omega)]; exact hz k kk k1
  · rw [e _ (by omega)]; exact hz k k0 k1
theorem rowB_snd {B a b : Int} {N : Int → Int} (h : rowB B N) (hs : sndE N a b = 0) : rowB B (sndN N a b) := by
  have w6 := h.1.2.2.2.2.2.1
  obtain ⟨g1, g2, g3⟩ := wf_snd h.1 hs
  exact ⟨g1, by rw [g3]; exact h.2.1, mvR_same (fun k h0 h1 => snd_lo w6.1 h1 (by omega)) g3 (snd_lo w6.1 (by decide) (by decide)) (snd_lo w6.1 (by decide) (by decide)) (fun z => by rw [g2] at z; omega) h.2.2⟩
theorem rowB_tk {B : Int} {N : Int → Int} (h : rowB B N) (i : Nat) : rowB (B + i) (tkN N i) := by
  obtain ⟨g1, g2, g3⟩ := wf_tks h.1 i
  exact ⟨g1, by rw [g3]; have := h.2.1; omega, tk_mv h.1 h.2.2 i⟩
theorem rowB_ord {B k a b : Int} {N : Int → Int} (h : rowB B N) (ha : a ≤ 99) : rowB (B + 99) (ordM N k a b) := by
  obtain ⟨g1, g2, g3, -⟩ := wf_ord (k := k) (a := a) (b := b) h.1 h.2.1.1 ha
  refine ⟨g1, ⟨g2, by have := h.2.1.2; omega⟩, ?_⟩
  have lk : ∀ w : Int, (w = 0 ∨ w = 1) → mvR (lnkM N a b w) := fun w hv => by
    unfold lnkM
    by_cases hq : lnkQ N a b w
    · rw [zff_t hq]
      exact (rowB_lnk h (lnk_idx h.1 hq) (by omega)).2.2
    · rw [zff_f hq]; exact h.2.2
  unfold ordM
  by_cases e1 : k = 115
  · rw [if_pos e1]
    unfold sndM
    by_cases hq : sndE N a b = 0
    · rw [zff_t hq]; exact (rowB_snd h hq).2.2
    · rw [zff_f hq]; exact h.2.2
  · rw [if_neg e1]
    by_cases e2 : k = 98
    · rw [if_pos e2]; exact lk 0 (Or.inl rfl)
    · rw [if_neg e2]
      by_cases e3 : k = 109
      · rw [if_pos e3]; exact lk 1 (Or.inr rfl)
      · rw [if_neg e3]
        unfold tckM
        by_cases hq : 1 ≤ a ∧ a ≤ 300
        · rw [zff_t hq]; exact tk_mv h.1 h.2.2 _
        · rw [zff_f hq]; exact h.2.2
theorem ost_nn {P : Int → Int} {ln : Int} (hpd : padOK P ln) : ∀ n : Nat, 0 ≤ ost P ln n
  | 0 => Int.le_refl 0
  | n + 1 => by
    have ih := ost_nn hpd n
    show 0 ≤ ordE P ln (ost P ln n) + 1
    have h1 := num_rng hpd (by omega : 0 ≤ ost P ln n + 1)
    have h2 := num_rng hpd (by omega : 0 ≤ numP P ln (ost P ln n + 1) + 1)
    unfold ordE
    by_cases hk : knd P ln (ost P ln n)
    · rw [zif_t hk]; (repeat' split) <;> omega
    · rw [zif_f hk]; omega
theorem oF_99 {P : Int → Int} {ln : Int} (hpd : padOK P ln) (j : Int) : oF P ln j ≤ 99 := by
  have h := ost_nn hpd j.toNat
  exact (num_rng hpd (by omega : 0 ≤ ost P ln j.toNat + 1)).2.1
theorem rowB_cr {B : Int} {N P : Int → Int} {ln : Int} (h : rowB B N) (hpd : padOK P ln) : ∀ n : Nat, rowB (B + 99 * n) (cro N (oK P ln) (oF P ln) (oS P ln) n)
  | 0 => rowB_le h (by omega)
  | n + 1 => by
    have ih := rowB_ord (k := oK P ln n) (b := oS P ln n) (rowB_cr h hpd n) (oF_99 hpd n)
    exact rowB_le ih (by omega)
theorem flt_2 {P : Int → Int} {ln : Int} : ∀ (k : Nat) (i n : Int), n ≤ (flt P ln k i n).2 ∧ (flt P ln k i n).2 ≤ n + k
  | 0, i, n => by show n ≤ n ∧ n ≤ n + ((0 : Nat) : Int); omega
  | k + 1, i, n => by
    by_cases h : ordOK P ln i
    · rw [flt_s h]
      unfold flC
      by_cases h1 : ln ≤ ordE P ln i
      · rw [if_pos h1]; show n ≤ n + 1 ∧ n + 1 ≤ n + ((k + 1 : Nat) : Int); omega
      · rw [if_neg h1]
        by_cases h2 : sgn P ln (ordE P ln i) = 59
        · rw [if_pos h2]
          have := flt_2 (P := P) (ln := ln) k (ordE P ln i + 1) (n + 1)
          omega
        · rw [if_neg h2]; show n ≤ n + 1 ∧ n + 1 ≤ n + ((k + 1 : Nat) : Int); omega
    · rw [flt_e h]; show n ≤ n ∧ n ≤ n + ((k + 1 : Nat) : Int); omega
theorem fsk_rng (Q : Int → Prop) {n : Int} (hn : 0 ≤ n) : -6 ≤ fsk Q n ∧ fsk Q n ≤ n := by
  by_cases h : ∃ k, 0 ≤ k ∧ k ≤ n ∧ Q k ∧ ∀ j, 0 ≤ j → j < k → ¬ Q j
  · obtain ⟨k, h0, h1, h2, h3⟩ := h
    rw [fsk_yes h0 h1 h2 h3]; omega
  · rw [show fsk Q n = -6 from dif_neg h]; omega
theorem rowB_crN {B : Int} {N P : Int → Int} {ln : Int} (h : rowB B N) (hpd : padOK P ln) : rowB (B + 10000) (crN N P ln (crR N P ln)) := by
  have h2 := flt_2 (P := P) (ln := ln) 100 0 0
  have hr := fsk_rng (crQ N P ln (flt P ln 100 0 0).2) (n := (flt P ln 100 0 0).2) h2.1
  have h3 := rowB_cr h hpd (crR N P ln).toNat
  refine rowB_le h3 ?_
  unfold crR
  omega
theorem rowB_mv {B : Int} {N : Int → Int} (h : rowB B N) (hB : B ≤ 20000000) : mvOK N := fun k h0 h1 => by
  have := h.2.2.1 k h0 h1
  have := h.2.1
  omega
theorem rowB_bst {B : Int} {N : Int → Int} (h : rowB B N) (hB : B ≤ 20000000) : bst N 99 = bst N (4 * (N 4 * N 5) - 1).toNat := by
  have hcr := wf_cr h.1
  exact bst_ext (rowB_mv h hB) (fun k h0 h1 => h.2.2.2.1 k (by omega) (by omega) h1) 99 (by omega) (by omega)
theorem rowB_in : rowB 0 inN := ⟨wf_inN, ⟨by decide, by decide⟩, fun k h0 h1 => by rw [inN_0 (by omega), inN_v]; decide, fun k kk h0 h1 => inN_0 (by omega), fun _ k h0 h1 => inN_0 (by omega)⟩
/-- the undo's states on both sides -/
def HR (und : Int) (H : Nat → Int → Int) (hist : Int → Int) : Prop := ∀ i : Nat, (i : Int) < und → ∀ j : Int, 0 ≤ j → j < 560 → hist (i * 560 + j) = H i j
def LI (B und : Int) (N : Int → Int) (H S : Nat → Int → Int) (us hist sav isv P : Int → Int) (lp : Int) : Prop :=
  rowB B N ∧ (0 ≤ und ∧ und ≤ 6) ∧ (∀ i : Nat, (i : Int) < und → rowB B (H i)) ∧ HR und H hist ∧ (∀ s : Int, 0 ≤ s → s < 2 → us s = 0 ∨ us s = 1) ∧ (∀ s : Int, 0 ≤ s → s < 2 → isv s = us s ∧ (us s ≠ 0 → rowB B (S s.toNat) ∧ ∀ j : Int, 0 ≤ j → j < 560 → sav (s * 560 + j) = S s.toNat j)) ∧ padOK P lp
theorem LI_le {B B' und lp : Int} {N us hist sav isv P : Int → Int} {H S : Nat → Int → Int} (h : LI B und N H S us hist sav isv P lp) (hB : B ≤ B') : LI B' und N H S us hist sav isv P lp := by
  obtain ⟨h1, h2, h3, h4, h5, h6, h7⟩ := h
  exact ⟨rowB_le h1 hB, h2, fun i hi => rowB_le (h3 i hi) hB, h4, h5, fun s s0 s1 => ⟨(h6 s s0 s1).1, fun z => ⟨rowB_le ((h6 s s0 s1).2 z).1 hB, ((h6 s s0 s1).2 z).2⟩⟩, h7⟩
theorem rec_U {und und' : Int} {H H' : Nat → Int → Int} {N : Int → Int} (hu : 0 ≤ und ∧ und ≤ 6) (hr : recP und H N und' H') : recU 0 und = und' ∧ 0 ≤ und' ∧ und' ≤ 6 := by
  unfold recU
  rw [if_pos rfl]
  rcases hr with ⟨a, b, -⟩ | ⟨a, b, -⟩
  · rw [if_neg (by omega)]; omega
  · rw [if_pos (by omega)]; omega
theorem rec_H {B und und' : Int} {H H' : Nat → Int → Int} {N hist : Int → Int} (hu : 0 ≤ und ∧ und ≤ 6) (hr : recP und H N und' H') (hN : rowB B N) (hH : ∀ i : Nat, (i : Int) < und → rowB B (H i)) (h : HR und H hist) : (∀ i : Nat, (i : Int) < und' → rowB B (H' i)) ∧ HR und' H' (recH 0 und hist N) := by
  rcases hr with ⟨a, b, rfl⟩ | ⟨a, b, rfl⟩
  · refine ⟨fun i hi => ?_, fun i hi j h0 h1 => ?_⟩
    · unfold va_up
      split
      · exact hN
      · exact hH i (by omega)
    · unfold recH
      rw [if_pos rfl, if_neg (by omega), if_neg (by omega)]
      unfold va_up
      by_cases e : i = und.toNat
      · rw [if_pos e, zcp_in (by omega)]
        congr 1
        omega
      · rw [if_neg e, zcp_out (by omega)]
        exact h i (by omega) j h0 h1
  · have h6 : und = 6 := by omega
    refine ⟨fun i hi => ?_, fun i hi j h0 h1 => ?_⟩
    · unfold va_up
      split
      · exact hN
      · unfold rotA
        rw [if_pos (by omega)]
        exact hH (i + 1) (by omega)
    · unfold recH
      rw [if_pos rfl, if_pos h6, if_pos h6]
      unfold va_up
      by_cases e : i = 5
      · rw [if_pos e, zcp_in (by omega)]
        congr 1
        omega
      · rw [if_neg e, zcp_out (by omega), zcp_in (by omega)]
        unfold rotA
        rw [if_pos (by omega)]
        have := h (i + 1) (by omega) j h0 h1
        rw [← this]
        congr 1
        omega
/-- a call that changed the row and kept the old one -/
theorem LI_rec {B B' und und' lp : Int} {N N' us hist sav isv P : Int → Int} {H H' S : Nat → Int → Int} (h : LI B und N H S us hist sav isv P lp) (hr : recP und H N und' H') (hN : rowB B' N') (hB : B ≤ B') : LI B' und' N' H' S us (recH 0 und hist N) sav isv P lp := by
  obtain ⟨h1, h2, h3, h4, h5, h6, h7⟩ := h
  obtain ⟨g1, g2⟩ := rec_H h2 hr h1 h3 h4
  exact ⟨hN, (rec_U h2 hr).2, fun i hi => rowB_le (g1 i hi) hB, g2, h5, fun s s0 s1 => ⟨(h6 s s0 s1).1, fun z => ⟨rowB_le ((h6 s s0 s1).2 z).1 hB, ((h6 s s0 s1).2 z).2⟩⟩, h7⟩
theorem LI_pad {B und lp lp' : Int} {N us hist sav isv P P' : Int → Int} {H S : Nat → Int → Int} (h : LI B und N H S us hist sav isv P lp) (hp : padOK P' lp') : LI B und N H S us hist sav isv P' lp' := ⟨h.1, h.2.1, h.2.2.1, h.2.2.2.1, h.2.2.2.2.1, h.2.2.2.2.2.1, hp⟩
theorem padOK_0 {P : Int → Int} : padOK P 0 := ⟨by decide, fun j h0 h1 => absurd h1 (by omega)⟩
theorem padOK_put {P : Int → Int} {lp a : Int} (h : padOK P lp) (h0 : 0 < pcN a) (h1 : lp + pcN a ≤ 80) : padOK (putP P lp a (pcN a)) (lp + pcN a) := by
  have hx : ∃ n, pcK a n := Classical.byContradiction (fun z => by rw [pcN_no (fun n hn => z ⟨n, hn⟩)] at h0; omega)
  obtain ⟨n, hn⟩ := hx
  rw [pcN_yes hn] at h0 h1 ⊢
  refine ⟨⟨by have := h.1; omega, h1⟩, fun j j0 j1 => ?_⟩
  unfold putP
  by_cases e : lp ≤ j ∧ j < lp + (n : Int)
  · rw [if_pos e]
    exact hn.2.2.1 _ (by omega)
  · rw [if_neg e]
    exact h.2 j j0 (by omega)
theorem LI_undo {B und lp : Int} {N us hist sav isv P : Int → Int} {H S : Nat → Int → Int} (h : LI B und N H S us hist sav isv P lp) (hu : ¬ und = 0) : LI B (und - 1) (H (und - 1).toNat) H S us hist sav isv P lp ∧ (∀ j : Int, 0 ≤ j → j < 560 → zcp N (fun j => hist ((und - 1) * 560 + j)) 0 560 j = H (und - 1).toNat j) := by
  obtain ⟨h1, h2, h3, h4, h5, h6, h7⟩ := h
  refine ⟨⟨h3 _ (by omega), by omega, fun i hi => h3 i (by omega), fun i hi => h4 i (by omega), h5, h6, h7⟩, fun j h0 h1 => ?_⟩
  rw [zcp_in (by omega)]
  have := h4 (und - 1).toNat (by omega) j h0 h1
  rw [← this]
  congr 1
  omega
theorem LI_save {B und lp s : Int} {N us hist sav isv P : Int → Int} {H S : Nat → Int → Int} (h : LI B und N H S us hist sav isv P lp) (hs : 0 ≤ s ∧ s ≤ 1) : LI B und N H (va_up S s.toNat N) (zu us s 1) hist (zcp sav N (s * 560) 560) (zu isv s 1) P lp := by
  obtain ⟨h1, h2, h3, h4, h5, h6, h7⟩ := h
  refine ⟨h1, h2, h3, h4, fun x x0 x1 => ?_, fun x x0 x1 => ?_, h7⟩
  · unfold zu
    split
    · exact Or.inr rfl
    · exact h5 x x0 x1
  · by_cases e : x = s
    · subst e
      refine ⟨by rw [zu_s, zu_s], fun _ => ⟨by rw [va_up_self]; exact h1, fun j j0 j1 => ?_⟩⟩
      rw [va_up_self, zcp_in (by omega)]
      congr 1
      omega
    · rw [zu_n e, zu_n e]
      refine ⟨(h6 x x0 x1).1, fun z => ?_⟩
      rw [va_up_ne _ _ (by omega)]
      refine ⟨((h6 x x0 x1).2 z).1, fun j j0 j1 => ?_⟩
      rw [zcp_out (by omega)]
      exact ((h6 x x0 x1).2 z).2 j j0 j1
theorem LI_rest {B und und' lp s : Int} {N us hist sav isv P : Int → Int} {H H' S : Nat → Int → Int} (h : LI B und N H S us hist sav isv P lp) (hs : 0 ≤ s ∧ s ≤ 1) (hu : ¬ us s = 0) (hr : recP und H N und' H') : LI B und' (S s.toNat) H' S us (recH 0 und hist N) sav isv P lp ∧ (∀ j : Int, 0 ≤ j → j < 560 → zcp N (fun j => sav (s * 560 + j)) 0 560 j = S s.toNat j) ∧ sav (s * 560 + 3) = S s.toNat 3 := by
  have h6 := (h.2.2.2.2.2.1 s (by omega) (by omega)).2 hu
  refine ⟨LI_rec h hr h6.1 (Int.le_refl _), fun j h0 h1 => ?_, h6.2 3 (by decide) (by decide)⟩
  rw [zcp_in (by omega)]
  have := h6.2 j h0 h1
  rw [← this]
  congr 1
  omega
