/-! what the calls answer, over one row -/
def isB (N : Int → Int) (b : Int) : Prop := 0 ≤ b ∧ b < N 4 * N 5
noncomputable def prG (N : Int → Int) (a : Int) : Int → Int := fun b => zb (a ≠ b ∧ 0 ≤ fr N b (10 * a))
noncomputable def prF (N : Int → Int) : Int → Int := fun a => zS (prG N a) (N 4 * N 5).toNat
noncomputable def prs (N : Int → Int) : Int := zS (prF N) (N 4 * N 5).toNat
noncomputable def lwR (N : Int → Int) (a b : Int) : Int := zif (isB N a ∧ isB N b) (fr N b (10 * a)) (-1)
noncomputable def wyR (N : Int → Int) (a b : Int) : Int := zif (isB N a ∧ isB N b) (mn N b (10 * a)) (-1)
noncomputable def obR (N : Int → Int) (b w : Int) : Int :=
  zif (isB N b) (if 3 ≤ w ∧ w ≤ 6 then (if nb N b (w - 3) < 0 then -6 else zb (opn N b (w - 3))) else if 7 ≤ w ∧ w ≤ 10 then N (60 + 4 * b + w - 7)
    else if w = 0 then cnt N b 1 else if w = 1 then cnt N b 0 else if w = 2 then cnt N b 2 else -2) (-1)
noncomputable def opR (N : Int → Int) (p w : Int) : Int :=
  zif (0 ≤ p ∧ p < N 6) (if w = 10 then fr N (pk N p 1) (stg N p) else if w = 11 then (if pk N p 2 = 2 then -6 else fsN N p) else if w = 12 then zb (stk N p) else if 0 ≤ w ∧ w ≤ 9 then pk N p w else -2) (-1)
noncomputable def coR (N : Int → Int) (u sg w : Int) : Int :=
  if 4 ≤ w ∧ w ≤ 6 then cnt N (-6) (w - 4) else if 7 ≤ w ∧ w ≤ 9 then sumOf N (w - 3) else if 14 ≤ w ∧ w ≤ 16 then N (w - 14)
  else if w = 0 then N 3 else if w = 1 then N 4 * N 5 else if w = 2 then N 4 else if w = 3 then N 6 else if w = 10 then stkC N else if w = 11 then brokenOf N else if w = 12 then sg else if w = 13 then u else -2
