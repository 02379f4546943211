/-! what the calls answer, over one row -/
def isB (N : Int → Int) (b : Int) : Prop := 0 ≤ b ∧ b < N 4 * N 5
noncomputable def prG (N : Int → Int) (a : Int) : Int → Int := fun b => zb (a ≠ b ∧ 0 ≤ fr N b (10 * a))
noncomputable def prF (N : Int → Int) : Int → Int := fun a => zS (prG N a) (N 4 * N 5).toNat
noncomputable def prs (N : Int → Int) : Int := zS (prF N) (N 4 * N 5).toNat
noncomputable def lwR (N : Int → Int) (a b : Int) : Int := zif (isB N a ∧ isB N b) (fr N b (10 * a)) (-1)
noncomputable def wyR (N : Int → Int) (a b : Int) : Int := zif (isB N a ∧ isB N b) (mn N b (10 * a)) (-1)
def mvOK (N : Int → Int) : Prop := ∀ k : Int, 0 ≤ k → k < 100 → 0 ≤ N (60 + k) ∧ N (60 + k) ≤ 2000000000
def bst (N : Int → Int) : Nat → Int
  | 0 => 0
  | k + 1 => if N (60 + bst N k) < N (60 + ((k : Int) + 1)) then (k : Int) + 1 else bst N k
theorem bst_rng (N : Int → Int) : ∀ k : Nat, 0 ≤ bst N k ∧ bst N k ≤ k
  | 0 => by show (0 : Int) ≤ 0 ∧ (0 : Int) ≤ ((0 : Nat) : Int); omega
  | k + 1 => by
    have h := bst_rng N k
    unfold bst
    split <;> omega
theorem bst_s {N : Int → Int} {k b : Int} (hk : 1 ≤ k) (h : b = bst N (k - 1).toNat) : bst N (k + 1 - 1).toNat = if N (60 + b) < N (60 + k) then k else b := by
  have e : (k + 1 - 1).toNat = (k - 1).toNat + 1 := by omega
  rw [e, h]
  show (if N (60 + bst N (k - 1).toNat) < N (60 + (((k - 1).toNat : Int) + 1)) then (((k - 1).toNat : Int) + 1) else bst N (k - 1).toNat) = _
  rw [show (((k - 1).toNat : Int) + 1) = k by omega]
def bsR (N : Int → Int) (b w : Int) : Int := if w < 0 ∨ 2 < w then -2 else if N (60 + b) = 0 then -6 else if w = 0 then b / 4 else if w = 1 then b % 4 else N (60 + b)
noncomputable def obR (N : Int → Int) (b w : Int) : Int :=
  zif (isB N b) (if 3 ≤ w ∧ w ≤ 6 then (if nb N b (w - 3) < 0 then -6 else zb (opn N b (w - 3))) else if 7 ≤ w ∧ w ≤ 10 then N (60 + 4 * b + w - 7)
    else if w = 0 then cnt N b 1 else if w = 1 then cnt N b 0 else if w = 2 then cnt N b 2 else -2) (-1)
noncomputable def opR (N : Int → Int) (p w : Int) : Int :=
  zif (0 ≤ p ∧ p < N 6) (if w = 10 then fr N (pk N p 1) (stg N p) else if w = 11 then (if pk N p 2 = 2 then -6 else fsN N p) else if w = 12 then zb (stk N p) else if 0 ≤ w ∧ w ≤ 9 then pk N p w else -2) (-1)
noncomputable def coR (N : Int → Int) (u sg w : Int) : Int :=
  if 4 ≤ w ∧ w ≤ 6 then cnt N (-6) (w - 4) else if 7 ≤ w ∧ w ≤ 9 then sumOf N (w - 3) else if 14 ≤ w ∧ w ≤ 16 then N (w - 14)
  else if w = 0 then N 3 else if w = 1 then N 4 * N 5 else if w = 2 then N 4 else if w = 3 then N 6 else if w = 10 then stkC N else if w = 11 then brokenOf N else if w = 12 then sg else if w = 13 then u else -2
theorem cache_forget {N ld f m : Int → Int} : cacheOK N (zcp ld (fun _ => 0) 0 25) f m := by
  intro t h0 h1
  have e : zcp ld (fun _ => 0) 0 25 t = 0 := zcp_in (by omega)
  rw [e]
  exact ⟨Or.inl rfl, fun h => absurd h (by decide)⟩
theorem isF_first {N sd : Int → Int} {to s n : Int} (hl : lsd N to s 4 n sd) (hn : 0 < n) : isF N to s (fun _ => True) (sd 0) := isF_at hl ⟨by omega, hn⟩ trivial (fun j h0 h1 => absurd h1 (by omega))
theorem isF_nil {N sd : Int → Int} {to s n : Int} (hl : lsd N to s 4 n sd) (hn : n ≤ 0) : isF N to s (fun _ => True) (-6) := isF_none hl (fun j h0 h1 => absurd h1 (by omega))
theorem zb_zb {P : Prop} {x : Int} (h : x = zb P) : (x = 0 → ¬ P) ∧ (¬ x = 0 → P) := by
  rw [h]
  exact ⟨fun e => zb_eq0.mp e, fun e => Classical.byContradiction (fun z => e (zb_eq0.mpr z))⟩
