/-! pairs become no fewer where links are made whole -/
theorem zS_mono {f g : Int → Int} : ∀ {n : Nat}, (∀ k : Int, 0 ≤ k → k < (n : Int) → f k ≤ g k) → zS f n ≤ zS g n
  | 0, _ => Int.le_refl 0
  | n + 1, h => by
    have h1 := zS_mono (n := n) (f := f) (g := g) (fun k h0 h1 => h k h0 (by omega))
    have h2 := h n (by omega) (by omega)
    show zS f n + f n ≤ zS g n + g n
    omega
theorem zb_mono {P Q : Prop} (h : P → Q) : zb P ≤ zb Q := by
  by_cases p : P
  · rw [zb_t p, zb_t (h p)]; exact Int.le_refl 1
  · rw [zb_f p]; exact (zb_rng Q).1
def less (N' N : Int → Int) : Prop := N' 0 = N 0 ∧ N' 1 = N 1 ∧ N' 4 = N 4 ∧ N' 5 = N 5 ∧ ∀ b d : Int, isB N b → 0 ≤ d → d ≤ 3 → opn N' b d → opn N b d
theorem wk_less {N N' : Int → Int} {to : Int} (hw : wf N) (hl : less N' N) : ∀ (m : Nat) (s : Int), 0 ≤ s ∧ s < 10 * (N 4 * N 5) → 0 < wk N' to m s → 0 < wk N to m s
  | 0, s, hs, h => by
    rw [wk_Z] at h ⊢
    exact h
  | m + 1, s, hs, h => by
    obtain ⟨h0, h1, h4, h5, ho⟩ := hl
    obtain ⟨g1, d, d0, d1, d2, d3⟩ := wk_ex h
    have hok : okm N' s d to := by
      by_cases hk : okm N' s d to
      · exact hk
      · unfold mvd at d2
        rw [zif_f hk] at d2
        omega
    have hnb : nb N' (s / 10) d = nb N (s / 10) d := nb_45 h4 h5
    have hok2 : okm N s d to := by
      unfold okm at hok ⊢
      rw [h0, h1, hnb, dtr_lo h4] at hok
      exact ⟨ho _ d (by unfold isB; omega) d0 d1 hok.1, hok.2⟩
    have e : mvd N' s d to = mvd N s d to := by
      unfold mvd
      rw [zif_t hok, zif_t hok2]
      unfold nxt
      rw [hnb, dtr_lo h4]
    rw [e] at d2 d3
    have hsp := (mvd_spec hw hs ⟨d0, d1⟩ d2).2.2.2.2.2
    have ih := wk_less hw ⟨h0, h1, h4, h5, ho⟩ m _ hsp d3
    have := wk_next (m := m) g1 ⟨d0, d1⟩ d2
    omega
theorem fr_less {N N' : Int → Int} {to s : Int} (hw : wf N) (hl : less N' N) (hs : 0 ≤ s ∧ s < 10 * (N 4 * N 5)) (h : 0 ≤ fr N' to s) : 0 ≤ fr N to s := by
  rcases fr_cs N' to s with ⟨g, -, -⟩ | ⟨k, -, g, -⟩
  · omega
  · have := wk_less (to := to) hw hl k s hs g.1
    rcases fr_cs N to s with ⟨-, f, -⟩ | ⟨j, f, -, -⟩
    · have := f k; omega
    · omega
theorem prs_less {N N' : Int → Int} (hw : wf N) (hl : less N' N) : prs N' ≤ prs N := by
  have h4 := hl.2.2.1
  have h5 := hl.2.2.2.1
  have hcr := wf_cr hw
  unfold prs
  rw [h4, h5]
  refine zS_mono (fun a a0 a1 => ?_)
  unfold prF
  rw [h4, h5]
  refine zS_mono (fun b b0 b1 => ?_)
  unfold prG
  exact zb_mono (fun ⟨p, q⟩ => ⟨p, fr_less hw hl (by omega) q⟩)
theorem less_lk {N : Int → Int} {i : Int} (hi : 10 ≤ i) : less (zu N i 1) N ∧ less N (zu N i 0) := by
  refine ⟨⟨zu_n (by omega), zu_n (by omega), zu_n (by omega), zu_n (by omega), fun b d _ _ _ h => ?_⟩, ⟨(zu_n (by omega)).symm, (zu_n (by omega)).symm, (zu_n (by omega)).symm, (zu_n (by omega)).symm, fun b d _ _ _ h => ?_⟩⟩
  · unfold opn at h ⊢
    rw [nb_zu hi, lkm_zu hi] at h
    refine ⟨h.1, ?_⟩
    by_cases e : lkm N b d = i
    · have := h.2
      rw [e, zu_s] at this
      omega
    · rw [← zu_n (f := N) (v := 1) e]; exact h.2
  · unfold opn at h ⊢
    rw [nb_zu hi, lkm_zu hi]
    refine ⟨h.1, ?_⟩
    by_cases e : lkm N b d = i
    · rw [e, zu_s]
    · rw [zu_n e]; exact h.2
theorem prs_lk {N : Int → Int} {i : Int} (hw : wf N) (hi : 10 ≤ i ∧ i < 60) : prs (zu N i 1) ≤ prs N ∧ prs N ≤ prs (zu N i 0) :=
  ⟨prs_less hw (less_lk hi.1).1, prs_less (wf_lk hw hi (by decide)) (less_lk hi.1).2⟩
