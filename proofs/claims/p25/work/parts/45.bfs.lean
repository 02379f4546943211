/-! least ways without a bound of detours, over spots (25 turned + box), and the search that goes backwards -/
def mvq (N : Int → Int) (x d : Int) : Prop := opn N (x % 25) d ∧ ¬ (N 0 = 1 ∧ d = 0 ∧ x / 25 = 1)
def scq (N : Int → Int) (x d : Int) : Int := 25 * (if d = 0 then x / 25 else 1) + nb N (x % 25) d
def vsp (N : Int → Int) (x : Int) : Prop := 0 ≤ x ∧ x < 50 ∧ x % 25 < N 4 * N 5
noncomputable def wqf (N : Int → Int) (x : Int) (f : Int → Int) : Int → Int := fun d => zif (mvq N x d) (f (scq N x d)) 0
noncomputable def wq (N : Int → Int) (to : Int) : Nat → Int → Int
  | 0, x => if x % 25 = to then 1 else 0
  | m + 1, x => if x % 25 = to then 0 else zS (wqf N x (wq N to m)) 4
theorem wq_nn (N : Int → Int) (to : Int) : ∀ (m : Nat) (x : Int), 0 ≤ wq N to m x
  | 0, x => by unfold wq; split <;> omega
  | m + 1, x => by
    unfold wq
    split
    · exact Int.le_refl 0
    · refine zS_nn (fun d _ _ => ?_)
      unfold wqf
      by_cases h : mvq N x d
      · rw [zif_t h]; exact wq_nn N to m _
      · rw [zif_f h]; exact Int.le_refl 0
theorem scq_v {N : Int → Int} {x d : Int} (hw : wf N) (hx : vsp N x) (hd : 0 ≤ d ∧ d ≤ 3) (h : mvq N x d) : vsp N (scq N x d) ∧ scq N x d % 25 = nb N (x % 25) d ∧ scq N x d / 25 = (if d = 0 then x / 25 else 1) ∧ 0 ≤ nb N (x % 25) d ∧ nb N (x % 25) d < N 4 * N 5 := by
  obtain ⟨h1, h2, h3⟩ := hx
  have hn := nb_rng (b := x % 25) hw (by omega) hd
  have ho := h.1.1
  have hcr := wf_cr hw
  unfold vsp scq
  split <;> omega
/-- moves from a spot that is farther than so many -/
theorem wq_lo {N : Int → Int} {to : Int} (hw : wf N) (ht : 0 ≤ to ∧ to < N 4 * N 5) : ∀ (m : Nat) (x : Int), vsp N x → (m : Int) < dist N (x % 25) to → wq N to m x = 0
  | 0, x, hx, h => by
    unfold wq
    rw [if_neg]
    intro e
    rw [e, dist_0] at h
    omega
  | m + 1, x, hx, h => by
    unfold wq
    split
    · rfl
    · rw [zS4]
      have key : ∀ d : Int, 0 ≤ d ∧ d ≤ 3 → wqf N x (wq N to m) d = 0 := by
        intro d hd
        unfold wqf
        by_cases hm : mvq N x d
        · rw [zif_t hm]
          obtain ⟨h1, h2, h3, h4, h5⟩ := scq_v hw hx hd hm
          refine wq_lo hw ht m _ h1 ?_
          have h6 := dist_nb (d := d) (to := to) hw.2.2.2.1 (by have := hx.1; omega : 0 ≤ x % 25) h4
          rw [h2]
          omega
        · rw [zif_f hm]
      rw [key 0 (by omega), key 1 (by omega), key 2 (by omega), key 3 (by omega)]
      rfl
def spo (s : Int) : Int := 25 * (s / 5 % 2) + s / 10
/-- with the bound of the detours -/
theorem wk_wq {N : Int → Int} {to : Int} (hw : wf N) (ht : 0 ≤ to ∧ to < N 4 * N 5) : ∀ (m : Nat) (s : Int), 0 ≤ s ∧ s < 10 * (N 4 * N 5) → wk N to m s = if (m : Int) ≤ dist N (s / 10) to + 2 * max 0 (N 1 - s % 5) then wq N to m (spo s) else 0
  | 0, s, hs => by
    have h1 := dist_le hw (a := s / 10) (b := to) (by omega) ht
    have hcr := wf_cr hw
    have e : spo s % 25 = s / 10 := by unfold spo; omega
    rw [if_pos (by omega), wk, wq, e]
  | m + 1, s, hs => by
    have hcr := wf_cr hw
    have e : spo s % 25 = s / 10 := by unfold spo; omega
    have e2 : spo s / 25 = s / 5 % 2 := by unfold spo; omega
    have hv : vsp N (spo s) := by unfold vsp; rw [e]; unfold spo; omega
    have w1 := hw.2.1
    rw [wk, wq, e]
    by_cases hto : s / 10 = to
    · rw [if_pos hto, if_pos hto]; split <;> rfl
    · rw [if_neg hto, if_neg hto, zS4, zS4]
      have key : ∀ d : Int, 0 ≤ d ∧ d ≤ 3 → wg N to s (wk N to m) d = if ((m + 1 : Nat) : Int) ≤ dist N (s / 10) to + 2 * max 0 (N 1 - s % 5) then wqf N (spo s) (wq N to m) d else 0 := by
        intro d hd
        unfold wg wqf
        by_cases hm : mvq N (spo s) d
        · rw [zif_t hm]
          obtain ⟨g1, g2, g3, g4, g5⟩ := scq_v hw hv hd hm
          have hdn := dist_nb (d := d) (to := to) hw.2.2.2.1 (by omega : 0 ≤ s / 10) (by rw [← e]; exact g4)
          have hq := hm
          unfold mvq at hq
          rw [e, e2] at hq
          rw [e] at g2 g4 g5
          by_cases hdt : dtr N (s / 10) (nb N (s / 10) d) to ∧ N 1 ≤ s % 5
          · -- no detour is left
            have hno : ¬ 0 ≤ mvd N s d to := by
              unfold mvd
              rw [zif_f (fun z => z.2.2 hdt)]
              decide
            rw [if_neg hno]
            have hd1 := hdt.1
            unfold dtr at hd1
            split
            · rename_i hle
              have := wq_lo hw ht m _ g1 (by rw [g2]; omega)
              rw [this]
            · rfl
          · have hok : okm N s d to := ⟨hq.1, hq.2, hdt⟩
            have hmv : 0 ≤ mvd N s d to := by
              unfold mvd nxt
              rw [zif_t hok]
              have := zb_rng (dtr N (s / 10) (nb N (s / 10) d) to)
              split <;> omega
            obtain ⟨-, -, k1, k2, k3, k4⟩ := mvd_spec hw hs hd hmv
            rw [if_pos hmv, wk_wq hw ht m _ k4]
            have es : spo (mvd N s d to) = scq N (spo s) d := by
              unfold spo
              rw [k1, k2]
              show _ = 25 * (if d = 0 then spo s / 25 else 1) + nb N (spo s % 25) d
              rw [e, e2]
            rw [es, k1, k3]
            rcases zb_01 (dtr N (s / 10) (nb N (s / 10) d) to) with z | z
            · have hnd := zb_eq0.mp z
              rw [z]
              unfold dtr at hnd
              by_cases hc : (m : Int) ≤ dist N (nb N (s / 10) d) to + 2 * max 0 (N 1 - (s % 5 + 0))
              · rw [if_pos hc, if_pos (by omega)]
              · rw [if_neg hc, if_neg (by omega)]
            · have hd1 := zb_eq1.mp z
              have : ¬ N 1 ≤ s % 5 := fun q => hdt ⟨hd1, q⟩
              rw [z]
              unfold dtr at hd1
              by_cases hc : (m : Int) ≤ dist N (nb N (s / 10) d) to + 2 * max 0 (N 1 - (s % 5 + 1))
              · rw [if_pos hc, if_pos (by omega)]
              · rw [if_neg hc, if_neg (by omega)]
        · rw [zif_f hm]
          have hno : ¬ 0 ≤ mvd N s d to := by
            unfold mvd
            rw [zif_f (fun z => hm (by unfold mvq; rw [e, e2]; exact ⟨z.1, z.2.1⟩))]
            decide
          rw [if_neg hno]
          split <;> rfl
      rw [key 0 (by omega), key 1 (by omega), key 2 (by omega), key 3 (by omega)]
      split <;> rfl
/-- a cell of the class's table: the least moves to a box, 1000 if there is no way -/
def lqo (N : Int → Int) (to x v : Int) : Prop := (v = 1000 ∧ ∀ m : Nat, wq N to m x = 0) ∨ (∃ m : Nat, v = (m : Int) ∧ m < 100 ∧ 0 < wq N to m x ∧ ∀ j : Nat, j < m → wq N to j x = 0)
theorem lqo_fr {N : Int → Int} {to s v : Int} (hw : wf N) (ht : 0 ≤ to ∧ to < N 4 * N 5) (hs : 0 ≤ s ∧ s < 10 * (N 4 * N 5)) (h : lqo N to (spo s) v) : fr N to s = (if v ≤ dist N (s / 10) to + 2 * max 0 (N 1 - s % 5) then v else -6) := by
  have hd := dist_le hw (a := s / 10) (b := to) (by omega) ht
  have w1 := hw.2.1
  have none_ : (∀ k : Nat, wk N to k s = 0) → fr N to s = -6 := fun h0 => (ldn_eq (Or.inr ⟨h0, rfl, rfl⟩ : ldn N to s (-6) 0)).1.symm
  rcases h with ⟨rfl, h0⟩ | ⟨m, rfl, hm, h1, h2⟩
  · rw [if_neg (by omega)]
    refine none_ (fun k => ?_)
    rw [wk_wq hw ht k s hs, h0]
    split <;> rfl
  · by_cases hc : (m : Int) ≤ dist N (s / 10) to + 2 * max 0 (N 1 - s % 5)
    · rw [if_pos hc]
      refine (ldn_eq (Or.inl ⟨m, ⟨?_, fun j hj => ?_⟩, rfl, rfl⟩ : ldn N to s (m : Int) (wk N to m s))).1.symm
      · rw [wk_wq hw ht m s hs, if_pos hc]; exact h1
      · rw [wk_wq hw ht j s hs, h2 j hj]; split <;> rfl
    · rw [if_neg hc]
      refine none_ (fun k => ?_)
      rw [wk_wq hw ht k s hs]
      split
      · rename_i hk
        exact h2 k (by omega)
      · rfl
theorem lqo_mn {N : Int → Int} {to s : Int} {m : Nat} (hw : wf N) (ht : 0 ≤ to ∧ to < N 4 * N 5) (hs : 0 ≤ s ∧ s < 10 * (N 4 * N 5)) (h1 : 0 < wq N to m (spo s)) (h2 : ∀ j : Nat, j < m → wq N to j (spo s) = 0) (hc : (m : Int) ≤ dist N (s / 10) to + 2 * max 0 (N 1 - s % 5)) : mn N to s = wq N to m (spo s) := by
  refine (ldn_eq (Or.inl ⟨m, ⟨?_, fun j hj => ?_⟩, rfl, ?_⟩ : ldn N to s (m : Int) (wq N to m (spo s)))).2.symm
  · rw [wk_wq hw ht m s hs, if_pos hc]; exact h1
  · rw [wk_wq hw ht j s hs, h2 j hj]; split <;> rfl
  · rw [wk_wq hw ht m s hs, if_pos hc]
/-- the search: C x d says that the ways over the move d from x have been counted -/
noncomputable def nmf (N ln nm : Int → Int) (C : Int → Int → Prop) (x : Int) : Int → Int := fun d => zif (C x d ∧ ln (scq N x d) + 1 = ln x) (nm (scq N x d)) 0
def bfs (N : Int → Int) (to : Int) (C : Int → Int → Prop) (L : Int) (ln nm qu : Int → Int) (qd : Int) : Prop :=
  (∀ x : Int, 0 ≤ x → x < 50 → (ln x = 1000 ∨ (vsp N x ∧ ∃ j : Int, 0 ≤ j ∧ j < qd ∧ qu j = x))) ∧
  (∀ j : Int, 0 ≤ j → j < qd → vsp N (qu j) ∧ 0 ≤ ln (qu j) ∧ ln (qu j) ≤ L + 1 ∧ ln (qu j) ≤ j) ∧
  (∀ j k : Int, 0 ≤ j → j < k → k < qd → qu j ≠ qu k ∧ ln (qu j) ≤ ln (qu k)) ∧
  (∀ x d : Int, C x d → vsp N x ∧ 0 ≤ d ∧ d ≤ 3 ∧ mvq N x d ∧ ln x ≤ ln (scq N x d) + 1 ∧ ln (scq N x d) ≤ L) ∧
  (∀ x : Int, vsp N x → ln x ≠ 1000 → x % 25 ≠ to → ∃ d : Int, C x d ∧ ln (scq N x d) + 1 = ln x) ∧
  (∀ x : Int, vsp N x → nm x = if x % 25 = to then 1 else zS (nmf N ln nm C x) 4) ∧
  (∀ x : Int, vsp N x → x % 25 = to → ln x = 0) ∧
  (0 ≤ qd ∧ qd = zS (fun x => zb (ln x ≠ 1000)) 50)
theorem bfs_q50 {N ln nm qu : Int → Int} {to L qd x : Int} {C : Int → Int → Prop} (h : bfs N to C L ln nm qu qd) (hx : 0 ≤ x ∧ x < 50) (hl : ln x = 1000) : qd < 50 := by
  obtain ⟨-, -, -, -, -, -, -, h8, h9⟩ := h
  have e1 := zS_zu (f := fun x => zb (ln x ≠ 1000)) (i := x) (v := 1) (n := 50) hx.1 hx.2
  have e2 := zS_le (f := zu (fun x => zb (ln x ≠ 1000)) x 1) (c := 1) (n := 50) (fun k _ _ => by unfold zu; split; exact Int.le_refl 1; exact (zb_rng _).2)
  have e3 : zb (ln x ≠ 1000) = 0 := zb_f (fun z => z hl)
  simp only [e3] at e1
  omega
