/-! what the document says, over one row of numbers N (560 of them): 0 RULE, 1 DETOURS, 2 ROOM, 3 tick, 4 columns, 5 rows, 6 packets, 10.. broken links, 60.. moves by box and side, 160.. packets, ten numbers each -/
def zS (f : Int → Int) : Nat → Int
  | 0 => 0
  | n + 1 => zS f n + f n
theorem zS_s {f : Int → Int} {i : Int} (h : 0 ≤ i) : zS f (i + 1).toNat = zS f i.toNat + f i := by
  have e : (i + 1).toNat = i.toNat + 1 := by omega
  rw [e]
  show zS f i.toNat + f ((i.toNat : Nat) : Int) = _
  rw [Int.toNat_of_nonneg h]
theorem zS_cong {f g : Int → Int} : ∀ {n : Nat}, (∀ k : Int, 0 ≤ k → k < (n : Int) → f k = g k) → zS f n = zS g n
  | 0, _ => rfl
  | n + 1, h => by
    show zS f n + f n = zS g n + g n
    rw [zS_cong (n := n) (fun k h0 h1 => h k h0 (by omega)), h n (by omega) (by omega)]
theorem zS_nn {f : Int → Int} : ∀ {n : Nat}, (∀ k : Int, 0 ≤ k → k < (n : Int) → 0 ≤ f k) → 0 ≤ zS f n
  | 0, _ => Int.le_refl 0
  | n + 1, h => by
    have h1 := zS_nn (n := n) (f := f) (fun k h0 h1 => h k h0 (by omega))
    have h2 := h n (by omega) (by omega)
    show 0 ≤ zS f n + f n
    omega
theorem zS_le {f : Int → Int} {c : Int} : ∀ {n : Nat}, (∀ k : Int, 0 ≤ k → k < (n : Int) → f k ≤ c) → zS f n ≤ n * c
  | 0, _ => by show (0 : Int) ≤ ((0 : Nat) : Int) * c; simp
  | n + 1, h => by
    have h1 := zS_le (n := n) (f := f) (c := c) (fun k h0 h1 => h k h0 (by omega))
    have h2 := h n (by omega) (by omega)
    show zS f n + f n ≤ ((n + 1 : Nat) : Int) * c
    have e : ((n + 1 : Nat) : Int) * c = (n : Int) * c + c := by rw [Int.natCast_succ, Int.add_mul, Int.one_mul]
    rw [e]
    omega
/-- the box on a side; -1: none -/
def nb (N : Int → Int) (b d : Int) : Int :=
  if d = 0 then (if b % N 4 + 1 < N 4 then b + 1 else -1)
  else if d = 1 then (if 0 < b % N 4 then b - 1 else -1)
  else if d = 2 then (if b / N 4 + 1 < N 5 then b + N 4 else -1)
  else (if 0 < b / N 4 then b - N 4 else -1)
def nbm (N : Int → Int) (b d : Int) : Int := if nb N b d < 0 then -6 else nb N b d
def lkm (N : Int → Int) (b d : Int) : Int := 10 + 2 * (if d = 0 ∨ d = 2 then b else nbm N b d) + (if d < 2 then 0 else 1)
/-- a link to that side that is whole -/
def opn (N : Int → Int) (b d : Int) : Prop := 0 ≤ nb N b d ∧ N (lkm N b d) = 0
def dist (N : Int → Int) (a b : Int) : Int := zabs (a % N 4 - b % N 4) + zabs (a / N 4 - b / N 4)
def pk (N : Int → Int) (p j : Int) : Int := N (160 + 10 * p + j)
def wf (N : Int → Int) : Prop :=
  (0 ≤ N 0 ∧ N 0 ≤ 1) ∧ (0 ≤ N 1 ∧ N 1 ≤ 4) ∧ (1 ≤ N 2 ∧ N 2 ≤ 4) ∧ (2 ≤ N 4 ∧ N 4 ≤ 5) ∧ (2 ≤ N 5 ∧ N 5 ≤ 5) ∧ (0 ≤ N 6 ∧ N 6 ≤ 40) ∧
  (∀ k : Int, 10 ≤ k → k < 60 → 0 ≤ N k ∧ N k ≤ 1) ∧
  (∀ p : Int, 0 ≤ p → p < N 6 → (0 ≤ pk N p 0 ∧ pk N p 0 < N 4 * N 5) ∧ (0 ≤ pk N p 1 ∧ pk N p 1 < N 4 * N 5) ∧ (0 ≤ pk N p 2 ∧ pk N p 2 ≤ 2) ∧ (0 ≤ pk N p 3 ∧ pk N p 3 < N 4 * N 5) ∧ (0 ≤ pk N p 5 ∧ pk N p 5 ≤ 4) ∧ (0 ≤ pk N p 9 ∧ pk N p 9 ≤ 1))
theorem cr_rng {c r : Int} (hc : 2 ≤ c ∧ c ≤ 5) (hr : 2 ≤ r ∧ r ≤ 5) : 4 ≤ c * r ∧ c * r ≤ 25 := by
  have h : c = 2 ∨ c = 3 ∨ c = 4 ∨ c = 5 := by omega
  rcases h with rfl | rfl | rfl | rfl <;> omega
theorem wf_cr {N : Int → Int} (h : wf N) : 4 ≤ N 4 * N 5 ∧ N 4 * N 5 ≤ 25 := cr_rng h.2.2.2.1 h.2.2.2.2.1
/-- the facts about a box's column and row -/
theorem dm {c b : Int} (hc : 2 ≤ c ∧ c ≤ 5) (hb : 0 ≤ b) : b / c * c + b % c = b ∧ 0 ≤ b % c ∧ b % c < c ∧ 0 ≤ b / c ∧ b / c ≤ b ∧ 0 ≤ b / c * c ∧ (0 < b / c → c ≤ b / c * c) := by
  have h1 := Int.emod_add_mul_ediv b c
  have h2 := Int.emod_nonneg b (by omega : c ≠ 0)
  have h3 := Int.emod_lt_of_pos b (by omega : 0 < c)
  have h4 := Int.ediv_nonneg hb (by omega : 0 ≤ c)
  have h5 := Int.ediv_le_self c hb
  rw [Int.mul_comm c (b / c)] at h1
  have h6 : 0 < b / c → 1 * c ≤ b / c * c := fun h => Int.mul_le_mul_of_nonneg_right (by omega) (by omega)
  have h7 := Int.mul_nonneg h4 (by omega : 0 ≤ c)
  omega
theorem dmr {c r b : Int} (hc : 2 ≤ c ∧ c ≤ 5) (hb : 0 ≤ b) (h : b < c * r) : b / c < r := by
  apply Int.ediv_lt_of_lt_mul (by omega)
  rw [Int.mul_comm]
  exact h
noncomputable def insf (N : Int → Int) (b : Int) : Int → Int := fun p => zb (pk N p 2 = 1 ∧ pk N p 3 = b)
/-- how many packets are inside of a box -/
noncomputable def ins (N : Int → Int) (b : Int) : Int := zS (insf N b) (N 6).toNat
noncomputable def cntf (N : Int → Int) (b t : Int) : Int → Int := fun p => zb (pk N p 2 = t ∧ (b < 0 ∨ pk N p 3 = b))
noncomputable def cnt (N : Int → Int) (b t : Int) : Int := zS (cntf N b t) (N 6).toNat
def sumOf (N : Int → Int) (j : Int) : Int := zS (fun p => pk N p j) (N 6).toNat
def brokenOf (N : Int → Int) : Int := zS (fun k => N (10 + k)) 50
/-- a row of numbers, written over the places from a on -/
def zcp (f g : Int → Int) (a n : Int) : Int → Int := fun j => if a ≤ j ∧ j < a + n then g (j - a) else f j
theorem zcp_s {f g : Int → Int} {a n : Int} (hn : 0 ≤ n) : zu (zcp f g a n) (a + n) (g n) = zcp f g a (n + 1) := by
  funext j
  unfold zu zcp
  by_cases h1 : j = a + n
  · rw [if_pos h1, if_pos (by omega)]
    congr 1
    omega
  · rw [if_neg h1]
    by_cases h2 : a ≤ j ∧ j < a + n
    · rw [if_pos h2, if_pos (by omega)]
    · rw [if_neg h2, if_neg (by omega)]
theorem zcp_0 {f g : Int → Int} {a : Int} : zcp f g a 0 = f := by
  funext j
  unfold zcp
  rw [if_neg (by omega)]
theorem nb_rng {N : Int → Int} {b d : Int} (hw : wf N) (hb : 0 ≤ b ∧ b < N 4 * N 5) (hd : 0 ≤ d ∧ d ≤ 3) : -1 ≤ nb N b d ∧ nb N b d < N 4 * N 5 := by
  obtain ⟨w0, w1, w2, hc, hr, w6, wl, wp⟩ := hw
  have h1 := dm hc hb.1
  have h2 := dmr hc hb.1 hb.2
  have h3 : (b / N 4 + 1) * N 4 ≤ N 5 * N 4 := Int.mul_le_mul_of_nonneg_right (by omega) (by omega)
  rw [Int.add_mul, Int.one_mul, Int.mul_comm (N 5)] at h3
  have h4 : b / N 4 + 1 < N 5 → (b / N 4 + 2) * N 4 ≤ N 5 * N 4 := fun h => Int.mul_le_mul_of_nonneg_right (by omega) (by omega)
  rw [Int.add_mul, Int.mul_comm (N 5)] at h4
  have h5 : 0 < b / N 4 → 1 * N 4 ≤ b / N 4 * N 4 := fun h => Int.mul_le_mul_of_nonneg_right (by omega) (by omega)
  unfold nb
  by_cases e0 : d = 0
  · rw [if_pos e0]; split <;> omega
  · rw [if_neg e0]
    by_cases e1 : d = 1
    · rw [if_pos e1]; split <;> omega
    · rw [if_neg e1]
      by_cases e2 : d = 2
      · rw [if_pos e2]
        split
        · rename_i h; have := h4 h; omega
        · omega
      · rw [if_neg e2]
        split
        · rename_i h; have := h5 h; omega
        · omega
theorem lkm_rng {N : Int → Int} {b d : Int} (hw : wf N) (hb : 0 ≤ b ∧ b < N 4 * N 5) (hd : 0 ≤ d ∧ d ≤ 3) (h : 0 ≤ nb N b d) : 10 ≤ lkm N b d ∧ lkm N b d < 60 := by
  have h1 := nb_rng hw hb hd
  have h2 := wf_cr hw
  unfold lkm nbm
  rw [if_neg (by omega : ¬ nb N b d < 0)]
  (repeat' split) <;> omega
theorem zcp_z {f g : Int → Int} {n : Int} (hn : 0 ≤ n) : zu (zcp f g 0 n) n (g n) = zcp f g 0 (n + 1) := by
  have h := zcp_s (f := f) (g := g) (a := 0) hn
  rw [Int.zero_add] at h
  exact h
theorem zcp_out {f g : Int → Int} {a n j : Int} (h : j < a ∨ a + n ≤ j) : zcp f g a n j = f j := if_neg (by omega)
theorem zcp_in {f g : Int → Int} {a n j : Int} (h : a ≤ j ∧ j < a + n) : zcp f g a n j = g (j - a) := if_pos h
/-- a number by a proposition -/
noncomputable def zif (P : Prop) (a b : Int) : Int := @ite Int P (Classical.propDecidable P) a b
theorem zif_t {P : Prop} {a b : Int} (h : P) : zif P a b = a := if_pos h
theorem zif_f {P : Prop} {a b : Int} (h : ¬ P) : zif P a b = b := if_neg h
def bk (N : Int → Int) (p j v : Int) : Int → Int := zu N (160 + 10 * p + j) v
def stg (N : Int → Int) (p : Int) : Int := 10 * pk N p 3 + 5 * pk N p 9 + pk N p 5
def dtr (N : Int → Int) (a b to : Int) : Prop := dist N a to ≤ dist N b to
def okm (N : Int → Int) (s d to : Int) : Prop := opn N (s / 10) d ∧ ¬ (N 0 = 1 ∧ d = 0 ∧ s / 5 % 2 = 1) ∧ ¬ (dtr N (s / 10) (nb N (s / 10) d) to ∧ N 1 ≤ s % 5)
noncomputable def nxt (N : Int → Int) (s d to : Int) : Int := 10 * nb N (s / 10) d + 5 * (if d = 0 then s / 5 % 2 else 1) + s % 5 + zb (dtr N (s / 10) (nb N (s / 10) d) to)
noncomputable def mvd (N : Int → Int) (s d to : Int) : Int := zif (okm N s d to) (nxt N s d to) (-6)
theorem nbm_nn {N : Int → Int} {b d : Int} (h : 0 ≤ nb N b d) : nbm N b d = nb N b d := if_neg (by omega)
theorem ins_rng {N : Int → Int} {b : Int} (hw : wf N) : 0 ≤ ins N b ∧ ins N b ≤ N 6 := by
  have h6 := hw.2.2.2.2.2.1
  have h1 := zS_nn (f := insf N b) (n := (N 6).toNat) (fun k _ _ => (zb_rng _).1)
  have h2 := zS_le (f := insf N b) (c := 1) (n := (N 6).toNat) (fun k _ _ => (zb_rng _).2)
  unfold ins
  omega
