/-! ways: how many of just m moves lead from a standing (10 box + 5 turned + detours made) to a box, the first m for which there is one -/
noncomputable def wg (N : Int → Int) (to s : Int) (f : Int → Int) (d : Int) : Int := if 0 ≤ mvd N s d to then f (mvd N s d to) else 0
noncomputable def wk (N : Int → Int) (to : Int) : Nat → Int → Int
  | 0, s => if s / 10 = to then 1 else 0
  | m + 1, s => if s / 10 = to then 0 else zS (wg N to s (wk N to m)) 4
def frst (N : Int → Int) (to s : Int) (k : Nat) : Prop := 0 < wk N to k s ∧ ∀ j : Nat, j < k → wk N to j s = 0
theorem zS4 {f : Int → Int} : zS f 4 = f 0 + f 1 + f 2 + f 3 := by
  show 0 + f 0 + f 1 + f 2 + f 3 = _
  omega
theorem d4 {d : Int} (h : 0 ≤ d ∧ d ≤ 3) : d = 0 ∨ d = 1 ∨ d = 2 ∨ d = 3 := by omega
theorem wk_nn (N : Int → Int) (to : Int) : ∀ (m : Nat) (s : Int), 0 ≤ wk N to m s
  | 0, s => by unfold wk; split <;> omega
  | m + 1, s => by
    unfold wk
    split
    · exact Int.le_refl 0
    · refine zS_nn (fun d _ _ => ?_)
      unfold wg
      split
      · exact wk_nn N to m _
      · exact Int.le_refl 0
/-- columns and rows of the box on a side -/
theorem nb_cr {N : Int → Int} {b d : Int} (hc : 2 ≤ N 4 ∧ N 4 ≤ 5) (hb : 0 ≤ b) (h : 0 ≤ nb N b d) :
    (d = 0 ∧ nb N b d % N 4 = b % N 4 + 1 ∧ nb N b d / N 4 = b / N 4) ∨ (d = 1 ∧ nb N b d % N 4 = b % N 4 - 1 ∧ nb N b d / N 4 = b / N 4) ∨
    (d = 2 ∧ nb N b d % N 4 = b % N 4 ∧ nb N b d / N 4 = b / N 4 + 1) ∨ (d ≠ 0 ∧ d ≠ 1 ∧ d ≠ 2 ∧ nb N b d % N 4 = b % N 4 ∧ nb N b d / N 4 = b / N 4 - 1) := by
  have h1 := dm hc hb
  have key : ∀ (x y z : Int), 0 ≤ x → x < N 4 → z = y * N 4 + x → z % N 4 = x ∧ z / N 4 = y := by
    intro x y z hx hx2 hz
    subst hz
    constructor
    · rw [Int.add_comm, Int.add_mul_emod_self_right]
      exact Int.emod_eq_of_lt hx hx2
    · rw [Int.add_comm, Int.add_mul_ediv_right _ _ (by omega), Int.ediv_eq_zero_of_lt hx hx2]
      omega
  have m1 : (b / N 4 + 1) * N 4 = b / N 4 * N 4 + N 4 := by rw [Int.add_mul, Int.one_mul]
  have m2 : (b / N 4 - 1) * N 4 = b / N 4 * N 4 - N 4 := by rw [Int.sub_mul, Int.one_mul]
  unfold nb at h ⊢
  by_cases e0 : d = 0
  · rw [if_pos e0] at h ⊢
    split at h
    · rename_i g
      rw [if_pos g]
      obtain ⟨k1, k2⟩ := key (b % N 4 + 1) (b / N 4) (b + 1) (by omega) (by omega) (by omega)
      exact Or.inl ⟨e0, k1, k2⟩
    · omega
  · rw [if_neg e0] at h ⊢
    by_cases e1 : d = 1
    · rw [if_pos e1] at h ⊢
      split at h
      · rename_i g
        rw [if_pos g]
        obtain ⟨k1, k2⟩ := key (b % N 4 - 1) (b / N 4) (b - 1) (by omega) (by omega) (by omega)
        exact Or.inr (Or.inl ⟨e1, k1, k2⟩)
      · omega
    · rw [if_neg e1] at h ⊢
      by_cases e2 : d = 2
      · rw [if_pos e2] at h ⊢
        split at h
        · rename_i g
          rw [if_pos g]
          obtain ⟨k1, k2⟩ := key (b % N 4) (b / N 4 + 1) (b + N 4) (by omega) (by omega) (by omega)
          exact Or.inr (Or.inr (Or.inl ⟨e2, k1, k2⟩))
        · omega
      · rw [if_neg e2] at h ⊢
        split at h
        · rename_i g
          rw [if_pos g]
          obtain ⟨k1, k2⟩ := key (b % N 4) (b / N 4 - 1) (b - N 4) (by omega) (by omega) (by omega)
          exact Or.inr (Or.inr (Or.inr ⟨e0, e1, e2, k1, k2⟩))
        · omega
/-- a move changes the distance by one -/
theorem dist_nb {N : Int → Int} {b d to : Int} (hc : 2 ≤ N 4 ∧ N 4 ≤ 5) (hb : 0 ≤ b) (h : 0 ≤ nb N b d) : dist N (nb N b d) to = dist N b to + 1 ∨ dist N (nb N b d) to = dist N b to - 1 := by
  unfold dist zabs
  rcases nb_cr hc hb h with ⟨_, h1, h2⟩ | ⟨_, h1, h2⟩ | ⟨_, h1, h2⟩ | ⟨_, _, _, h1, h2⟩ <;> rw [h1, h2] <;> omega
theorem dist_0 {N : Int → Int} {b : Int} : dist N b b = 0 := by
  unfold dist zabs
  omega
theorem dist_le {N : Int → Int} {a b : Int} (hw : wf N) (ha : 0 ≤ a ∧ a < N 4 * N 5) (hb : 0 ≤ b ∧ b < N 4 * N 5) : 0 ≤ dist N a b ∧ dist N a b ≤ 8 := by
  obtain ⟨w0, w1, w2, hc, hr, w6, wl, wp⟩ := hw
  have h1 := dm hc ha.1
  have h2 := dm hc hb.1
  have h3 := dmr hc ha.1 ha.2
  have h4 := dmr hc hb.1 hb.2
  unfold dist zabs
  omega
/-- what a move makes of a standing -/
theorem mvd_spec {N : Int → Int} {s d to : Int} (hw : wf N) (hs : 0 ≤ s ∧ s < 10 * (N 4 * N 5)) (hd : 0 ≤ d ∧ d ≤ 3) (h : 0 ≤ mvd N s d to) :
    okm N s d to ∧ mvd N s d to = nxt N s d to ∧ mvd N s d to / 10 = nb N (s / 10) d ∧ mvd N s d to / 5 % 2 = (if d = 0 then s / 5 % 2 else 1) ∧
    mvd N s d to % 5 = s % 5 + zb (dtr N (s / 10) (nb N (s / 10) d) to) ∧ 0 ≤ mvd N s d to ∧ mvd N s d to < 10 * (N 4 * N 5) := by
  have hok : okm N s d to := by
    by_cases hk : okm N s d to
    · exact hk
    · unfold mvd at h
      rw [zif_f hk] at h
      omega
  have e : mvd N s d to = nxt N s d to := zif_t hok
  have hnb := nb_rng (b := s / 10) hw (by omega) hd
  have hz := zb_rng (dtr N (s / 10) (nb N (s / 10) d) to)
  have hm : s % 5 + zb (dtr N (s / 10) (nb N (s / 10) d) to) ≤ 4 := by
    rcases zb_01 (dtr N (s / 10) (nb N (s / 10) d) to) with z | z
    · omega
    · have hd1 := zb_eq1.mp z
      have := hok.2.2
      have w1 := hw.2.1
      have : ¬ N 1 ≤ s % 5 := fun q => hok.2.2 ⟨hd1, q⟩
      omega
  have ho := hok.1.1
  rw [e]
  refine ⟨hok, rfl, ?_⟩
  unfold nxt
  by_cases e0 : d = 0
  · rw [if_pos e0]
    omega
  · rw [if_neg e0]
    omega
/-- no more moves than this -/
theorem wk_up {N : Int → Int} {to : Int} (hw : wf N) (ht : 0 ≤ to ∧ to < N 4 * N 5) : ∀ (m : Nat) (s : Int), 0 ≤ s ∧ s < 10 * (N 4 * N 5) → 0 < wk N to m s → (m : Int) ≤ dist N (s / 10) to + 2 * max 0 (N 1 - s % 5)
  | 0, s, hs, h => by
    have := (dist_le hw (a := s / 10) (b := to) (by omega) ht).1
    omega
  | m + 1, s, hs, h => by
    rw [wk] at h
    split at h
    · omega
    · rw [zS4] at h
      have key : ∀ d : Int, 0 ≤ d ∧ d ≤ 3 → 0 < wg N to s (wk N to m) d → ((m + 1 : Nat) : Int) ≤ dist N (s / 10) to + 2 * max 0 (N 1 - s % 5) := by
        intro d hd hg
        unfold wg at hg
        split at hg
        · rename_i hm
          obtain ⟨hok, -, h1, -, h3, h4⟩ := mvd_spec hw hs hd hm
          have ih := wk_up hw ht m _ h4 hg
          rw [h1, h3] at ih
          have hdn := dist_nb (d := d) (to := to) hw.2.2.2.1 (by omega : 0 ≤ s / 10) hok.1.1
          have hdt := hok.2.2
          rcases zb_01 (dtr N (s / 10) (nb N (s / 10) d) to) with z | z
          · have hnd := zb_eq0.mp z
            unfold dtr at hnd
            rw [z] at ih
            omega
          · have hd1 := zb_eq1.mp z
            rw [z] at ih
            have : ¬ N 1 ≤ s % 5 := fun q => hdt ⟨hd1, q⟩
            omega
        · omega
      have p0 := key 0 (by omega)
      have p1 := key 1 (by omega)
      have p2 := key 2 (by omega)
      have p3 := key 3 (by omega)
      by_cases q0 : 0 < wg N to s (wk N to m) 0
      · exact p0 q0
      · by_cases q1 : 0 < wg N to s (wk N to m) 1
        · exact p1 q1
        · by_cases q2 : 0 < wg N to s (wk N to m) 2
          · exact p2 q2
          · exact p3 (by omega)
theorem wk_16 {N : Int → Int} {to s : Int} (hw : wf N) (ht : 0 ≤ to ∧ to < N 4 * N 5) {m : Nat} (hs : 0 ≤ s ∧ s < 10 * (N 4 * N 5)) (hm : 16 < m) : wk N to m s = 0 := by
  have h1 := wk_nn N to m s
  by_cases h : 0 < wk N to m s
  · have h2 := wk_up hw ht m s hs h
    have h3 := dist_le hw (a := s / 10) (b := to) (by omega) ht
    have w1 := hw.2.1
    omega
  · omega
/-- a cell that is done -/
def ldn (N : Int → Int) (to s v w : Int) : Prop := (∃ k : Nat, frst N to s k ∧ v = (k : Int) ∧ w = wk N to k s) ∨ ((∀ k : Nat, wk N to k s = 0) ∧ v = -6 ∧ w = 0)
theorem frst_u {N : Int → Int} {to s : Int} {j k : Nat} (h1 : frst N to s j) (h2 : frst N to s k) : j = k := by
  rcases Nat.lt_trichotomy j k with h | h | h
  · have := h2.2 j h; have := h1.1; omega
  · exact h
  · have := h1.2 k h; have := h2.1; omega
theorem ldn_u {N : Int → Int} {to s v w v' w' : Int} (h1 : ldn N to s v w) (h2 : ldn N to s v' w') : v = v' ∧ w = w' := by
  rcases h1 with ⟨k, a1, a2, a3⟩ | ⟨a1, a2, a3⟩ <;> rcases h2 with ⟨j, b1, b2, b3⟩ | ⟨b1, b2, b3⟩
  · have := frst_u a1 b1
    subst this
    exact ⟨a2.trans b2.symm, a3.trans b3.symm⟩
  · have := a1.1; have := b1 k; omega
  · have := b1.1; have := a1 j; omega
  · exact ⟨a2.trans b2.symm, a3.trans b3.symm⟩
noncomputable def fr (N : Int → Int) (to s : Int) : Int := @dite Int (∃ k, frst N to s k) (Classical.propDecidable _) (fun h => ((Classical.choose h : Nat) : Int)) (fun _ => -6)
noncomputable def mn (N : Int → Int) (to s : Int) : Int := @dite Int (∃ k, frst N to s k) (Classical.propDecidable _) (fun h => wk N to (Classical.choose h) s) (fun _ => 0)
theorem wk_0of {N : Int → Int} {to s : Int} (h : ¬ ∃ k, frst N to s k) : ∀ k : Nat, wk N to k s = 0 := by
  intro k
  induction k using Nat.strongRecOn with
  | _ k ih =>
    have h1 := wk_nn N to k s
    by_cases h2 : 0 < wk N to k s
    · exact absurd ⟨k, h2, ih⟩ h
    · omega
theorem ldn_fr (N : Int → Int) (to s : Int) : ldn N to s (fr N to s) (mn N to s) := by
  by_cases h : ∃ k, frst N to s k
  · refine Or.inl ⟨Classical.choose h, Classical.choose_spec h, ?_, ?_⟩
    · unfold fr; exact dif_pos h
    · unfold mn; exact dif_pos h
  · refine Or.inr ⟨wk_0of h, ?_, ?_⟩
    · unfold fr; exact dif_neg h
    · unfold mn; exact dif_neg h
theorem ldn_eq {N : Int → Int} {to s v w : Int} (h : ldn N to s v w) : v = fr N to s ∧ w = mn N to s := ldn_u h (ldn_fr N to s)
theorem fr_rng {N : Int → Int} {to s : Int} (hw : wf N) (ht : 0 ≤ to ∧ to < N 4 * N 5) (hs : 0 ≤ s ∧ s < 10 * (N 4 * N 5)) : (fr N to s = -6 ∨ 0 ≤ fr N to s) ∧ fr N to s ≤ 16 := by
  rcases ldn_fr N to s with ⟨k, a1, a2, -⟩ | ⟨-, a2, -⟩
  · have h : ¬ 16 < k := fun h => by have := a1.1; rw [wk_16 hw ht hs h] at this; omega
    omega
  · omega
