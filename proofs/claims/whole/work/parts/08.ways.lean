/-! ways: how many of just m moves lead from a standing (10 box + 5 turned + detours made) to a box, the first m for which there is one -/
noncomputable def wg (N : Int → Int) (to s : Int) (f : Int → Int) (d : Int) : Int := if 0 ≤ mvd N s d to then f (mvd N s d to) else 0
noncomputable def wk (N : Int → Int) (to : Int) : Nat → Int → Int
  | 0, s => if s / 10 = to then 1 else 0
  | m + 1, s => if s / 10 = to then 0 else zS (wg N to s (wk N to m)) 4
def frst (N : Int → Int) (to s : Int) (k : Nat) : Prop := 0 < wk N to k s ∧ ∀ j : Nat, j < k → wk N to j s = 0
theorem zS4 {f : Int → Int} : zS f 4 = f 0 + f 1 + f 2 + f 3 := by
  show 0 + f 0 + f 1 + f 2 + f 3 = _
  omega
theorem d4 {d : Int} (h : 0 ≤ d ∧ d ≤ 3) : d = 0 ∨ d = 1 ∨ d = 2 ∨ d = 3 := by omega
theorem wk_nn (N : Int → Int) (to : Int) : ∀ (m : Nat) (s : Int), 0 ≤ wk N to m s
  | 0, s => by unfold wk; split <;> omega
  | m + 1, s => by
    unfold wk
    split
    · exact Int.le_refl 0
    · refine zS_nn (fun d _ _ => ?_)
      unfold wg
      split
      · exact wk_nn N to m _
      · exact Int.le_refl 0
theorem wg_nn {N : Int → Int} {to s d : Int} {m : Nat} : 0 ≤ wg N to s (wk N to m) d := by
  unfold wg
  split
  · exact wk_nn N to m _
  · exact Int.le_refl 0
/-- a next standing's number is no greater -/
theorem wk_next {N : Int → Int} {to s d : Int} {m : Nat} (hs : ¬ s / 10 = to) (hd : 0 ≤ d ∧ d ≤ 3) (hm : 0 ≤ mvd N s d to) : wk N to m (mvd N s d to) ≤ wk N to (m + 1) s := by
  have e : wk N to (m + 1) s = zS (wg N to s (wk N to m)) 4 := by rw [wk]; exact if_neg hs
  have e2 : wg N to s (wk N to m) d = wk N to m (mvd N s d to) := if_pos hm
  rw [e, zS4, ← e2]
  have h0 := wg_nn (N := N) (to := to) (s := s) (d := 0) (m := m)
  have h1 := wg_nn (N := N) (to := to) (s := s) (d := 1) (m := m)
  have h2 := wg_nn (N := N) (to := to) (s := s) (d := 2) (m := m)
  have h3 := wg_nn (N := N) (to := to) (s := s) (d := 3) (m := m)
  rcases d4 hd with rfl | rfl | rfl | rfl <;> omega
/-- columns and rows of the box on a side -/
theorem nb_cr {N : Int → Int} {b d : Int} (hc : 2 ≤ N 4 ∧ N 4 ≤ 5) (hb : 0 ≤ b) (h : 0 ≤ nb N b d) :
    (d = 0 ∧ nb N b d % N 4 = b % N 4 + 1 ∧ nb N b d / N 4 = b / N 4) ∨ (d = 1 ∧ nb N b d % N 4 = b % N 4 - 1 ∧ nb N b d / N 4 = b / N 4) ∨
    (d = 2 ∧ nb N b d % N 4 = b % N 4 ∧ nb N b d / N 4 = b / N 4 + 1) ∨ (d ≠ 0 ∧ d ≠ 1 ∧ d ≠ 2 ∧ nb N b d % N 4 = b % N 4 ∧ nb N b d / N 4 = b / N 4 - 1) := by
  have h1 := dm hc hb
  have key : ∀ (x y z : Int), 0 ≤ x → x < N 4 → z = y * N 4 + x → z % N 4 = x ∧ z / N 4 = y := by
    intro x y z hx hx2 hz
    subst hz
    constructor
    · rw [Int.add_comm, Int.add_mul_emod_self_right]
      exact Int.emod_eq_of_lt hx hx2
    · rw [Int.add_comm, Int.add_mul_ediv_right _ _ (by omega), Int.ediv_eq_zero_of_lt hx hx2]
      omega
  have m1 : (b / N 4 + 1) * N 4 = b / N 4 * N 4 + N 4 := by rw [Int.add_mul, Int.one_mul]
  have m2 : (b / N 4 - 1) * N 4 = b / N 4 * N 4 - N 4 := by rw [Int.sub_mul, Int.one_mul]
  unfold nb at h ⊢
  by_cases e0 : d = 0
  · rw [if_pos e0] at h ⊢
    split at h
    · rename_i g
      rw [if_pos g]
      obtain ⟨k1, k2⟩ := key (b % N 4 + 1) (b / N 4) (b + 1) (by omega) (by omega) (by omega)
      exact Or.inl ⟨e0, k1, k2⟩
    · omega
  · rw [if_neg e0] at h ⊢
    by_cases e1 : d = 1
    · rw [if_pos e1] at h ⊢
      split at h
      · rename_i g
        rw [if_pos g]
        obtain ⟨k1, k2⟩ := key (b % N 4 - 1) (b / N 4) (b - 1) (by omega) (by omega) (by omega)
        exact Or.inr (Or.inl ⟨e1, k1, k2⟩)
      · omega
    · rw [if_neg e1] at h ⊢
      by_cases e2 : d = 2
      · rw [if_pos e2] at h ⊢
        split at h
        · rename_i g
          rw [if_pos g]
          obtain ⟨k1, k2⟩ := key (b % N 4) (b / N 4 + 1) (b + N 4) (by omega) (by omega) (by omega)
          exact Or.inr (Or.inr (Or.inl ⟨e2, k1, k2⟩))
        · omega
      · rw [if_neg e2] at h ⊢
        split at h
        · rename_i g
          rw [if_pos g]
          obtain ⟨k1, k2⟩ := key (b % N 4) (b / N 4 - 1) (b - N 4) (by omega) (by omega) (by omega)
          exact Or.inr (Or.inr (Or.inr ⟨e0, e1, e2, k1, k2⟩))
        · omega
/-- a move changes the distance by one -/
theorem dist_nb {N : Int → Int} {b d to : Int} (hc : 2 ≤ N 4 ∧ N 4 ≤ 5) (hb : 0 ≤ b) (h : 0 ≤ nb N b d) : dist N (nb N b d) to = dist N b to + 1 ∨ dist N (nb N b d) to = dist N b to - 1 := by
  unfold dist zabs
  rcases nb_cr hc hb h with ⟨_, h1, h2⟩ | ⟨_, h1, h2⟩ | ⟨_, h1, h2⟩ | ⟨_, _, _, h1, h2⟩ <;> rw [h1, h2] <;> omega
theorem dist_0 {N : Int → Int} {b : Int} : dist N b b = 0 := by
  unfold dist zabs
  omega
theorem dist_le {N : Int → Int} {a b : Int} (hw : wf N) (ha : 0 ≤ a ∧ a < N 4 * N 5) (hb : 0 ≤ b ∧ b < N 4 * N 5) : 0 ≤ dist N a b ∧ dist N a b ≤ 8 := by
  obtain ⟨w0, w1, w2, hc, hr, w6, wl, wp⟩ := hw
  have h1 := dm hc ha.1
  have h2 := dm hc hb.1
  have h3 := dmr hc ha.1 ha.2
  have h4 := dmr hc hb.1 hb.2
  unfold dist zabs
  omega
theorem dist_z {N : Int → Int} {a b : Int} (hc : 2 ≤ N 4 ∧ N 4 ≤ 5) (ha : 0 ≤ a) (hb : 0 ≤ b) (h : dist N a b ≤ 0) : a = b := by
  have h1 := dm hc ha
  have h2 := dm hc hb
  unfold dist zabs at h
  have e1 : a % N 4 = b % N 4 := by omega
  have e2 : a / N 4 = b / N 4 := by omega
  rw [e1, e2] at h1
  omega
/-- what a move makes of a standing -/
theorem mvd_spec {N : Int → Int} {s d to : Int} (hw : wf N) (hs : 0 ≤ s ∧ s < 10 * (N 4 * N 5)) (hd : 0 ≤ d ∧ d ≤ 3) (h : 0 ≤ mvd N s d to) :
    okm N s d to ∧ mvd N s d to = nxt N s d to ∧ mvd N s d to / 10 = nb N (s / 10) d ∧ mvd N s d to / 5 % 2 = (if d = 0 then s / 5 % 2 else 1) ∧
    mvd N s d to % 5 = s % 5 + zb (dtr N (s / 10) (nb N (s / 10) d) to) ∧ 0 ≤ mvd N s d to ∧ mvd N s d to < 10 * (N 4 * N 5) := by
  have hok : okm N s d to := by
    by_cases hk : okm N s d to
    · exact hk
    · unfold mvd at h
      rw [zif_f hk] at h
      omega
  have e : mvd N s d to = nxt N s d to := zif_t hok
  have hnb := nb_rng (b := s / 10) hw (by omega) hd
  have hz := zb_rng (dtr N (s / 10) (nb N (s / 10) d) to)
  have hm : s % 5 + zb (dtr N (s / 10) (nb N (s / 10) d) to) ≤ 4 := by
    rcases zb_01 (dtr N (s / 10) (nb N (s / 10) d) to) with z | z
    · omega
    · have hd1 := zb_eq1.mp z
      have := hok.2.2
      have w1 := hw.2.1
      have : ¬ N 1 ≤ s % 5 := fun q => hok.2.2 ⟨hd1, q⟩
      omega
  have ho := hok.1.1
  rw [e]
  refine ⟨hok, rfl, ?_⟩
  unfold nxt
  by_cases e0 : d = 0
  · rw [if_pos e0]
    omega
  · rw [if_neg e0]
    omega
/-- no more moves than this -/
theorem wk_up {N : Int → Int} {to : Int} (hw : wf N) (ht : 0 ≤ to ∧ to < N 4 * N 5) : ∀ (m : Nat) (s : Int), 0 ≤ s ∧ s < 10 * (N 4 * N 5) → 0 < wk N to m s → (m : Int) ≤ dist N (s / 10) to + 2 * max 0 (N 1 - s % 5)
  | 0, s, hs, h => by
    have := (dist_le hw (a := s / 10) (b := to) (by omega) ht).1
    omega
  | m + 1, s, hs, h => by
    rw [wk] at h
    split at h
    · omega
    · rw [zS4] at h
      have key : ∀ d : Int, 0 ≤ d ∧ d ≤ 3 → 0 < wg N to s (wk N to m) d → ((m + 1 : Nat) : Int) ≤ dist N (s / 10) to + 2 * max 0 (N 1 - s % 5) := by
        intro d hd hg
        unfold wg at hg
        split at hg
        · rename_i hm
          obtain ⟨hok, -, h1, -, h3, h4⟩ := mvd_spec hw hs hd hm
          have ih := wk_up hw ht m _ h4 hg
          rw [h1, h3] at ih
          have hdn := dist_nb (d := d) (to := to) hw.2.2.2.1 (by omega : 0 ≤ s / 10) hok.1.1
          have hdt := hok.2.2
          rcases zb_01 (dtr N (s / 10) (nb N (s / 10) d) to) with z | z
          · have hnd := zb_eq0.mp z
            unfold dtr at hnd
            rw [z] at ih
            omega
          · have hd1 := zb_eq1.mp z
            rw [z] at ih
            have : ¬ N 1 ≤ s % 5 := fun q => hdt ⟨hd1, q⟩
            omega
        · omega
      have p0 := key 0 (by omega)
      have p1 := key 1 (by omega)
      have p2 := key 2 (by omega)
      have p3 := key 3 (by omega)
      by_cases q0 : 0 < wg N to s (wk N to m) 0
      · exact p0 q0
      · by_cases q1 : 0 < wg N to s (wk N to m) 1
        · exact p1 q1
        · by_cases q2 : 0 < wg N to s (wk N to m) 2
          · exact p2 q2
          · exact p3 (by omega)
theorem wk_16 {N : Int → Int} {to s : Int} (hw : wf N) (ht : 0 ≤ to ∧ to < N 4 * N 5) {m : Nat} (hs : 0 ≤ s ∧ s < 10 * (N 4 * N 5)) (hm : 16 < m) : wk N to m s = 0 := by
  have h1 := wk_nn N to m s
  by_cases h : 0 < wk N to m s
  · have h2 := wk_up hw ht m s hs h
    have h3 := dist_le hw (a := s / 10) (b := to) (by omega) ht
    have w1 := hw.2.1
    omega
  · omega
/-- no more ways than this -/
theorem wk_4 {N : Int → Int} {to : Int} (hw : wf N) (ht : 0 ≤ to ∧ to < N 4 * N 5) : ∀ (m : Nat) (s : Int), 0 ≤ s ∧ s < 10 * (N 4 * N 5) → wk N to (m + 1) s ≤ 4 ^ m
  | 0, s, hs => by
    rw [wk]
    split
    · decide
    · rename_i hne
      -- at most one side is where it goes
      have one : ∀ d e : Int, 0 ≤ d ∧ d ≤ 3 → 0 ≤ e ∧ e ≤ 3 → 0 < wg N to s (wk N to 0) d → 0 < wg N to s (wk N to 0) e → d = e := by
        intro d e hd he h1 h2
        have side : ∀ x : Int, 0 ≤ x ∧ x ≤ 3 → 0 < wg N to s (wk N to 0) x → 0 ≤ nb N (s / 10) x ∧ nb N (s / 10) x = to := by
          intro x hx h
          unfold wg at h
          split at h
          · rename_i hm
            obtain ⟨hok, -, h1, -⟩ := mvd_spec hw hs hx hm
            rw [wk, h1] at h
            split at h
            · rename_i q; exact ⟨hok.1.1, q⟩
            · omega
          · omega
        obtain ⟨a1, a2⟩ := side d hd h1
        obtain ⟨b1, b2⟩ := side e he h2
        have c1 := nb_cr hw.2.2.2.1 (by omega : 0 ≤ s / 10) a1
        have c2 := nb_cr hw.2.2.2.1 (by omega : 0 ≤ s / 10) b1
        rw [a2] at c1
        rw [b2] at c2
        omega
      have le1 : ∀ d : Int, wg N to s (wk N to 0) d ≤ 1 := by
        intro d
        unfold wg
        split
        · rw [wk]; split <;> omega
        · omega
      rw [zS4]
      have a01 := one 0 1 (by omega) (by omega)
      have a02 := one 0 2 (by omega) (by omega)
      have a03 := one 0 3 (by omega) (by omega)
      have a12 := one 1 2 (by omega) (by omega)
      have a13 := one 1 3 (by omega) (by omega)
      have a23 := one 2 3 (by omega) (by omega)
      have l0 := le1 0
      have l1 := le1 1
      have l2 := le1 2
      have l3 := le1 3
      have g0 := wg_nn (N := N) (to := to) (s := s) (d := 0) (m := 0)
      have g1 := wg_nn (N := N) (to := to) (s := s) (d := 1) (m := 0)
      have g2 := wg_nn (N := N) (to := to) (s := s) (d := 2) (m := 0)
      have g3 := wg_nn (N := N) (to := to) (s := s) (d := 3) (m := 0)
      show _ ≤ (1 : Int)
      omega
  | m + 1, s, hs => by
    rw [wk]
    have e : (4 : Int) ^ (m + 1) = 4 ^ m * 4 := Int.pow_succ 4 m
    have hp : (0 : Int) < 4 ^ m := Int.pow_pos (by decide)
    rw [e]
    split
    · omega
    · have le : ∀ d : Int, 0 ≤ d ∧ d ≤ 3 → wg N to s (wk N to (m + 1)) d ≤ 4 ^ m := by
        intro d hd
        unfold wg
        split
        · rename_i hm
          obtain ⟨-, -, -, -, -, h4⟩ := mvd_spec hw hs hd hm
          exact wk_4 hw ht m _ h4
        · omega
      rw [zS4]
      have l0 := le 0 (by omega)
      have l1 := le 1 (by omega)
      have l2 := le 2 (by omega)
      have l3 := le 3 (by omega)
      omega
theorem wk_rng {N : Int → Int} {to s : Int} (hw : wf N) (ht : 0 ≤ to ∧ to < N 4 * N 5) (m : Nat) (hs : 0 ≤ s ∧ s < 10 * (N 4 * N 5)) : 0 ≤ wk N to m s ∧ wk N to m s ≤ 1073741824 := by
  refine ⟨wk_nn N to m s, ?_⟩
  by_cases h : 16 < m
  · rw [wk_16 hw ht hs h]; decide
  · cases m with
    | zero => rw [wk]; split <;> omega
    | succ m =>
      have h1 := wk_4 hw ht m s hs
      have h2 : (4 : Int) ^ m ≤ 4 ^ 15 := by
        have : m = 0 ∨ m = 1 ∨ m = 2 ∨ m = 3 ∨ m = 4 ∨ m = 5 ∨ m = 6 ∨ m = 7 ∨ m = 8 ∨ m = 9 ∨ m = 10 ∨ m = 11 ∨ m = 12 ∨ m = 13 ∨ m = 14 ∨ m = 15 := by omega
        rcases this with rfl | rfl | rfl | rfl | rfl | rfl | rfl | rfl | rfl | rfl | rfl | rfl | rfl | rfl | rfl | rfl <;> decide
      have h3 : (4 : Int) ^ 15 = 1073741824 := by decide
      omega
/-- a cell of the two tables when the levels below L are laid -/
def lst (N : Int → Int) (to : Int) (L : Nat) (s v w : Int) : Prop := (∃ k : Nat, k < L ∧ frst N to s k ∧ v = (k : Int) ∧ w = wk N to k s) ∨ ((∀ k : Nat, k < L → wk N to k s = 0) ∧ v = -6 ∧ w = 0)
/-- a cell that is done -/
def ldn (N : Int → Int) (to s v w : Int) : Prop := (∃ k : Nat, frst N to s k ∧ v = (k : Int) ∧ w = wk N to k s) ∨ ((∀ k : Nat, wk N to k s = 0) ∧ v = -6 ∧ w = 0)
theorem frst_u {N : Int → Int} {to s : Int} {j k : Nat} (h1 : frst N to s j) (h2 : frst N to s k) : j = k := by
  rcases Nat.lt_trichotomy j k with h | h | h
  · have := h2.2 j h; have := h1.1; omega
  · exact h
  · have := h1.2 k h; have := h2.1; omega
theorem ldn_u {N : Int → Int} {to s v w v' w' : Int} (h1 : ldn N to s v w) (h2 : ldn N to s v' w') : v = v' ∧ w = w' := by
  rcases h1 with ⟨k, a1, a2, a3⟩ | ⟨a1, a2, a3⟩ <;> rcases h2 with ⟨j, b1, b2, b3⟩ | ⟨b1, b2, b3⟩
  · have := frst_u a1 b1
    subst this
    exact ⟨a2.trans b2.symm, a3.trans b3.symm⟩
  · have := a1.1; have := b1 k; omega
  · have := b1.1; have := a1 j; omega
  · exact ⟨a2.trans b2.symm, a3.trans b3.symm⟩
noncomputable def fr (N : Int → Int) (to s : Int) : Int := @dite Int (∃ k, frst N to s k) (Classical.propDecidable _) (fun h => ((Classical.choose h : Nat) : Int)) (fun _ => -6)
noncomputable def mn (N : Int → Int) (to s : Int) : Int := @dite Int (∃ k, frst N to s k) (Classical.propDecidable _) (fun h => wk N to (Classical.choose h) s) (fun _ => 0)
theorem wk_0of {N : Int → Int} {to s : Int} (h : ¬ ∃ k, frst N to s k) : ∀ k : Nat, wk N to k s = 0 := by
  intro k
  induction k using Nat.strongRecOn with
  | _ k ih =>
    have h1 := wk_nn N to k s
    by_cases h2 : 0 < wk N to k s
    · exact absurd ⟨k, h2, ih⟩ h
    · omega
theorem ldn_fr (N : Int → Int) (to s : Int) : ldn N to s (fr N to s) (mn N to s) := by
  by_cases h : ∃ k, frst N to s k
  · refine Or.inl ⟨Classical.choose h, Classical.choose_spec h, ?_, ?_⟩
    · unfold fr; exact dif_pos h
    · unfold mn; exact dif_pos h
  · refine Or.inr ⟨wk_0of h, ?_, ?_⟩
    · unfold fr; exact dif_neg h
    · unfold mn; exact dif_neg h
theorem ldn_eq {N : Int → Int} {to s v w : Int} (h : ldn N to s v w) : v = fr N to s ∧ w = mn N to s := ldn_u h (ldn_fr N to s)
theorem fr_rng {N : Int → Int} {to s : Int} (hw : wf N) (ht : 0 ≤ to ∧ to < N 4 * N 5) (hs : 0 ≤ s ∧ s < 10 * (N 4 * N 5)) : (fr N to s = -6 ∨ 0 ≤ fr N to s) ∧ fr N to s ≤ 16 := by
  rcases ldn_fr N to s with ⟨k, a1, a2, -⟩ | ⟨-, a2, -⟩
  · have h : ¬ 16 < k := fun h => by have := a1.1; rw [wk_16 hw ht hs h] at this; omega
    omega
  · omega
/-- a level's sum is the number of ways of so many moves -/
theorem wk_sum {N : Int → Int} {to s : Int} {L : Nat} {f m : Int → Int} (hw : wf N) (ht : 0 ≤ to ∧ to < N 4 * N 5) (hs : 0 ≤ s ∧ s < 10 * (N 4 * N 5)) (h0 : ∀ k : Nat, k < L + 1 → wk N to k s = 0)
    (hst : ∀ x : Int, 0 ≤ x ∧ x < 10 * (N 4 * N 5) → lst N to (L + 1) x (f x) (m x) ∨ lst N to (L + 2) x (f x) (m x)) :
    zS (fun d => zif (0 ≤ mvd N s d to ∧ f (mvd N s d to) = (L : Int)) (m (mvd N s d to)) 0) 4 = wk N to (L + 1) s := by
  have hne : ¬ s / 10 = to := by
    intro e
    have := h0 0 (by omega)
    rw [wk, if_pos e] at this
    omega
  have e : wk N to (L + 1) s = zS (wg N to s (wk N to L)) 4 := by rw [wk]; exact if_neg hne
  rw [e]
  refine zS_cong (n := 4) (fun d hd0 hd1 => ?_)
  show zif _ _ _ = wg N to s (wk N to L) d
  unfold wg
  have hd : 0 ≤ d ∧ d ≤ 3 := by omega
  by_cases hm : 0 ≤ mvd N s d to
  · rw [if_pos hm]
    obtain ⟨-, -, -, -, -, h4⟩ := mvd_spec hw hs hd hm
    have low : ∀ j : Nat, j < L → wk N to j (mvd N s d to) = 0 := by
      intro j hj
      have h1 := wk_next (m := j) hne hd hm
      rw [h0 (j + 1) (by omega)] at h1
      have h2 := wk_nn N to j (mvd N s d to)
      omega
    have first : ∀ k : Nat, frst N to (mvd N s d to) k → L ≤ k := by
      intro k hk
      rcases Nat.lt_or_ge k L with q | q
      · have := low k q; have := hk.1; omega
      · exact q
    by_cases hf : f (mvd N s d to) = (L : Int)
    · rw [zif_t ⟨hm, hf⟩]
      rcases hst _ h4 with h | h <;> rcases h with ⟨k, q1, q2, q3, q4⟩ | ⟨q1, q2, q3⟩
      · have : k = L := by omega
        subst this; exact q4
      · omega
      · have : k = L := by omega
        subst this; exact q4
      · omega
    · rw [zif_f (fun z => hf z.2)]
      have h1 := wk_nn N to L (mvd N s d to)
      by_cases h2 : 0 < wk N to L (mvd N s d to)
      · exfalso
        have hfr : frst N to (mvd N s d to) L := ⟨h2, low⟩
        rcases hst _ h4 with h | h <;> rcases h with ⟨k, q1, q2, q3, q4⟩ | ⟨q1, q2, q3⟩
        · have := frst_u hfr q2; omega
        · have := q1 L (by omega); omega
        · have := frst_u hfr q2; omega
        · have := q1 L (by omega); omega
      · omega
  · rw [if_neg hm, zif_f (fun z => hm z.1)]
/-- behind a level that brought none there is none -/
theorem wk_stop {N : Int → Int} {to : Int} {L : Nat} (hw : wf N) (hno : ∀ s : Int, 0 ≤ s ∧ s < 10 * (N 4 * N 5) → ¬ frst N to s L) : ∀ (k : Nat) (s : Int), L ≤ k → 0 ≤ s ∧ s < 10 * (N 4 * N 5) → ¬ frst N to s k := by
  intro k
  induction k with
  | zero =>
    intro s hk hs
    have : L = 0 := by omega
    subst this
    exact hno s hs
  | succ k ih =>
    intro s hk hs h
    rcases Nat.lt_or_ge k L with q | q
    · have : L = k + 1 := by omega
      subst this
      exact hno s hs h
    · have hne : ¬ s / 10 = to := by
        intro e
        have := h.2 0 (by omega)
        rw [wk, if_pos e] at this
        omega
      have hp := h.1
      have e : wk N to (k + 1) s = zS (wg N to s (wk N to k)) 4 := by rw [wk]; exact if_neg hne
      rw [e, zS4] at hp
      have key : ∀ d : Int, 0 ≤ d ∧ d ≤ 3 → 0 < wg N to s (wk N to k) d → False := by
        intro d hd hg
        unfold wg at hg
        split at hg
        · rename_i hm
          obtain ⟨-, -, -, -, -, h4⟩ := mvd_spec hw hs hd hm
          refine ih _ q h4 ⟨hg, fun j hj => ?_⟩
          have h1 := wk_next (m := j) hne hd hm
          rw [h.2 (j + 1) (by omega)] at h1
          have h2 := wk_nn N to j (mvd N s d to)
          omega
        · omega
      have p0 : ¬ 0 < wg N to s (wk N to k) 0 := key 0 (by omega)
      have p1 : ¬ 0 < wg N to s (wk N to k) 1 := key 1 (by omega)
      have p2 : ¬ 0 < wg N to s (wk N to k) 2 := key 2 (by omega)
      have p3 : ¬ 0 < wg N to s (wk N to k) 3 := key 3 (by omega)
      omega
