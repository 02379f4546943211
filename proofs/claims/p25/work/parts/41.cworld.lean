/-! the class's worlds: a state (its own cells, its grid, its packets), routes, a jam, a pad -/
def pkF (N : Int → Int) (j : Int) : Int → Int := fun p => pk N p j
def mvF (N : Int → Int) : Int → Int := fun k => N (60 + k)
def soW (Z : zZ) (a : Nat → Nat) (st iv mf : Int → Int) (tk : Int) : va_W :=
  [(a 0, .inr (5, [.ref (a 1), .ref (a 2), .ref (a 3), .ref (a 14), .ref (a 15), .int (iI tk)])),
   (a 1, .inl (Z.2.1, 3, .inl (fun j : Nat => iI (st j)))),
   (a 14, .inl (Z.2.1, 25, .inl (fun j : Nat => iI (iv j)))),
   (a 15, .inl (Z.2.1, 100, .inl (fun j : Nat => iI (mf j))))]
def gW (_Z : zZ) (a : Nat → Nat) (c r : Int) (b : Int64) : va_W := [(a 2, .inr (0, [.int (iI c), .int (iI r), .long b]))]
def pW (Z : zZ) (a : Nat → Nat) (sn : Int) (p0 p1 p2 p3 p4 p5 p6 p7 p8 p9 : Int → Int) : va_W :=
  [(a 3, .inr (2, [.int (iI sn), .ref (a 4), .ref (a 5), .ref (a 6), .ref (a 7), .ref (a 8), .ref (a 9), .ref (a 10), .ref (a 11), .ref (a 12), .ref (a 13)])),
   (a 4, .inl (Z.2.1, 40, .inl (fun j : Nat => iI (p0 j)))),
   (a 5, .inl (Z.2.1, 40, .inl (fun j : Nat => iI (p1 j)))),
   (a 6, .inl (Z.2.1, 40, .inl (fun j : Nat => iI (p2 j)))),
   (a 7, .inl (Z.2.1, 40, .inl (fun j : Nat => iI (p3 j)))),
   (a 8, .inl (Z.2.1, 40, .inl (fun j : Nat => iI (p4 j)))),
   (a 9, .inl (Z.2.1, 40, .inl (fun j : Nat => iI (p5 j)))),
   (a 10, .inl (Z.2.1, 40, .inl (fun j : Nat => iI (p6 j)))),
   (a 11, .inl (Z.2.1, 40, .inl (fun j : Nat => iI (p7 j)))),
   (a 12, .inl (Z.2.1, 40, .inl (fun j : Nat => iI (p8 j)))),
   (a 13, .inl (Z.2.1, 40, .inl (fun j : Nat => iI (p9 j))))]
def rW (Z : zZ) (a : Nat → Nat) (ef : Int) (op ln nm qu : Int → Int) (qd : Int) : va_W :=
  [(a 0, .inr (4, [.int (iI ef), .ref (a 1), .ref (a 2), .ref (a 3), .ref (a 4), .int (iI qd)])),
   (a 1, .inl (Z.2.1, 100, .inl (fun j : Nat => iI (op j)))),
   (a 2, .inl (Z.2.1, 1250, .inl (fun j : Nat => iI (ln j)))),
   (a 3, .inl (Z.2.1, 50, .inl (fun j : Nat => iI (nm j)))),
   (a 4, .inl (Z.2.1, 50, .inl (fun j : Nat => iI (qu j))))]
def jW (Z : zZ) (a : Nat → Nat) (sk : Int → Int) : va_W :=
  [(a 0, .inr (1, [.ref (a 1)])), (a 1, .inl (Z.2.2.1, 40, .inl (fun j : Nat => iI (sk j))))]
def dW (Z : zZ) (a : Nat → Nat) (sg : Int → Int) (ln od : Int) (k1 f1 s1 : Int → Int) (pl : Int) : va_W :=
  [(a 0, .inr (3, [.ref (a 1), .int (iI ln), .int (iI od), .ref (a 2), .ref (a 3), .ref (a 4), .int (iI pl)])),
   (a 1, .inl (Z.2.2.2.1, 80, .inl (fun j : Nat => iI (sg j)))),
   (a 2, .inl (Z.2.1, 27, .inl (fun j : Nat => iI (k1 j)))),
   (a 3, .inl (Z.2.1, 27, .inl (fun j : Nat => iI (f1 j)))),
   (a 4, .inl (Z.2.1, 27, .inl (fun j : Nat => iI (s1 j))))]
/-! what its leaves answer -/
def lkc (N : Int → Int) (b d : Int) : Int := if nb N b d < 0 then -1 else lkm N b d - 10
def laf (ef : Int) (op ln : Int → Int) (b t d to : Int) : Int := if op (b * 4 + d) = -1 ∨ (ef = 1 ∧ t = 1 ∧ d = 0) then 1000 else ln (to * 50 + ((if d = 0 then t else 1) * 25 + op (b * 4 + d)))
def opp (d : Int) : Int := if d = 0 then 1 else if d = 1 then 0 else if d = 2 then 3 else 2
theorem lkc_v {N : Int → Int} {b d : Int} (hc : 2 ≤ N 4 ∧ N 4 ≤ 5) (hd : 0 ≤ d ∧ d ≤ 3) : lkc N b d = if nb N b d < 0 then -1 else 2 * min b (nb N b d) + (if d < 2 then 0 else 1) := by
  unfold lkc
  by_cases h : nb N b d < 0
  · rw [if_pos h, if_pos h]
  · rw [if_neg h, if_neg h]
    have e : lkm N b d = 10 + 2 * (if d = 0 ∨ d = 2 then b else nb N b d) + (if d < 2 then 0 else 1) := by unfold lkm; rw [nbm_nn (by omega)]
    rw [e]
    have hm : (if d = 0 ∨ d = 2 then b else nb N b d) = min b (nb N b d) := by
      rcases d4 hd with rfl | rfl | rfl | rfl
      · rw [if_pos (by omega)]; unfold nb at h ⊢; rw [if_pos rfl] at h ⊢; split <;> simp_all <;> omega
      · rw [if_neg (by omega)]; unfold nb at h ⊢; rw [if_neg (by omega), if_pos rfl] at h ⊢; split <;> simp_all <;> omega
      · rw [if_pos (by omega)]; unfold nb at h ⊢; rw [if_neg (by omega), if_neg (by omega), if_pos rfl] at h ⊢; split <;> simp_all <;> omega
      · rw [if_neg (by omega)]; unfold nb at h ⊢; rw [if_neg (by omega), if_neg (by omega), if_neg (by omega)] at h ⊢; split <;> simp_all <;> omega
    rw [hm]
    omega
theorem lkc_rng {N : Int → Int} {b d : Int} (hw : wf N) (hb : 0 ≤ b ∧ b < N 4 * N 5) (hd : 0 ≤ d ∧ d ≤ 3) : -1 ≤ lkc N b d ∧ lkc N b d < 50 ∧ (lkc N b d = -1 ↔ nb N b d < 0) ∧ (0 ≤ nb N b d → lkc N b d = lkm N b d - 10) := by
  unfold lkc
  by_cases h : nb N b d < 0
  · rw [if_pos h]; omega
  · rw [if_neg h]
    have := lkm_rng hw hb hd (by omega)
    omega
theorem z_iale {X : zX} {Z : zZ} {R : Room} {cc : ByteArray} {own : String} {nL k n : Nat} {ws : va_W} {pc : Nat} {lv : List (Nat × Value)} {st : List Value} (ok : zOK X Z R cc own nL) (q0 : Nat) {b N : Nat} {f : Int → Int} {e v : Int} (he : ws[q0]? = some (b, .inl (Z.2.1, N, .inl (fun j : Nat => iI (f j))))) (hv : f e = v) (d : decode cc pc = .ok (.iaload, 1)) (hi : 0 ≤ e ∧ e < (N : Int)) (hN : N < 2147483648) (h : zV X k n ws (pc + 1) lv (.int (iI v) :: st)) : zV X k n ws pc lv (.int (iI e) :: .ref b :: st) := by
  subst hv
  exact z_iald ok q0 he d hi hN h
theorem zcg2 {α β γ : Type} (f : α → β → γ) {a a' : α} {b b' : β} (h1 : a = a') (h2 : b = b') : f a b = f a' b' := by
  subst h1
  subst h2
  rfl
