/-! the law: sums -/
theorem cnt_inc {N f : Int → Int} {i v t : Int} (hi : 0 ≤ i) (h : ∀ b : Int, 0 ≤ b → b < 25 → f b = zS (cntf N b t) i.toNat) (hv : v = zb (pk N i 2 = t)) : ∀ b : Int, 0 ≤ b → b < 25 → zu f (pk N i 3) (f (pk N i 3) + v) b = zS (cntf N b t) (i + 1).toNat := by
  intro b b0 b1
  rw [zS_s hi]
  have a := h b b0 b1
  have e : cntf N b t i = if b = pk N i 3 then v else 0 := by
    unfold cntf
    by_cases e : b = pk N i 3
    · rw [if_pos e, hv]; exact zb_cong ⟨fun z => z.1, fun z => ⟨z, Or.inr e.symm⟩⟩
    · rw [if_neg e]; exact zb_f (fun z => by rcases z.2 with q | q; omega; exact e q.symm)
  by_cases e1 : b = pk N i 3
  · rw [if_pos e1] at e
    rw [← e1, zu_s]; omega
  · rw [if_neg e1] at e
    rw [zu_n e1]; omega
theorem zS_x0 {f : Int → Int} {m : Nat} : ∀ {n : Nat}, m ≤ n → (∀ k : Int, (m : Int) ≤ k → k < (n : Int) → f k = 0) → zS f n = zS f m
  | 0, h, _ => by rw [show m = 0 by omega]
  | n + 1, h, hz => by
    by_cases e : m = n + 1
    · rw [e]
    · have h1 := zS_x0 (f := f) (m := m) (n := n) (by omega) (fun k h0 h1 => hz k h0 (by omega))
      have h2 := hz n (by omega) (by omega)
      show zS f n + f n = _
      omega
theorem zS_3 {f g h : Int → Int} : ∀ {n : Nat}, (∀ k : Int, 0 ≤ k → k < (n : Int) → f k + g k + h k = 1) → zS f n + zS g n + zS h n = n
  | 0, _ => rfl
  | n + 1, hh => by
    have h1 := zS_3 (n := n) (f := f) (g := g) (h := h) (fun k h0 h1 => hh k h0 (by omega))
    have h2 := hh n (by omega) (by omega)
    show zS f n + f n + (zS g n + g n) + (zS h n + h n) = ((n + 1 : Nat) : Int)
    omega
theorem cnt_all {N : Int → Int} (hw : wf N) : cnt N (-6) 0 + cnt N (-6) 1 + cnt N (-6) 2 = N 6 := by
  have w6 := hw.2.2.2.2.2.1
  unfold cnt
  have e := zS_3 (f := cntf N (-6) 0) (g := cntf N (-6) 1) (h := cntf N (-6) 2) (n := (N 6).toNat) (fun k k0 k1 => by
    have wpp := (hw.2.2.2.2.2.2.2 k k0 (by omega)).2.2.1
    unfold cntf
    by_cases a : pk N k 2 = 0
    · rw [zb_t ⟨a, Or.inl (by decide)⟩, zb_f (fun z => by have := z.1; omega), zb_f (fun z => by have := z.1; omega)]; rfl
    · by_cases b : pk N k 2 = 1
      · rw [zb_f (fun z => a z.1), zb_t ⟨b, Or.inl (by decide)⟩, zb_f (fun z => by have := z.1; omega)]; rfl
      · rw [zb_f (fun z => a z.1), zb_f (fun z => b z.1), zb_t ⟨by omega, Or.inl (by decide)⟩]; rfl)
  omega
theorem cnt_rng {N : Int → Int} {b t : Int} (hw : wf N) : 0 ≤ cnt N b t ∧ cnt N b t ≤ 40 := by
  have w6 := hw.2.2.2.2.2.1
  have h1 := zS_nn (f := cntf N b t) (n := (N 6).toNat) (fun k _ _ => (zb_rng _).1)
  have h2 := zS_le (f := cntf N b t) (c := 1) (n := (N 6).toNat) (fun k _ _ => (zb_rng _).2)
  unfold cnt
  omega
theorem stkC_rng {N : Int → Int} (hw : wf N) : 0 ≤ stkC N ∧ stkC N ≤ 40 := by
  have w6 := hw.2.2.2.2.2.1
  have h1 := zS_nn (f := fun p => zb (stk N p)) (n := (N 6).toNat) (fun k _ _ => (zb_rng _).1)
  have h2 := zS_le (f := fun p => zb (stk N p)) (c := 1) (n := (N 6).toNat) (fun k _ _ => (zb_rng _).2)
  unfold stkC
  omega
theorem sum_rng {N : Int → Int} {j : Int} (hw : wf N) (h : ∀ p : Int, 0 ≤ p → p < N 6 → 0 ≤ pk N p j ∧ pk N p j ≤ 1000) : 0 ≤ sumOf N j ∧ sumOf N j ≤ 40000 := by
  have w6 := hw.2.2.2.2.2.1
  have h1 := zS_nn (f := fun p => pk N p j) (n := (N 6).toNat) (fun k k0 k1 => (h k k0 (by omega)).1)
  have h2 := zS_le (f := fun p => pk N p j) (c := 1000) (n := (N 6).toNat) (fun k k0 k1 => (h k k0 (by omega)).2)
  unfold sumOf
  omega
def bkF (N : Int → Int) : Int → Int := fun k => N (10 + k)
theorem bk_end {B : Int} {N : Int → Int} (hV : INV B N) : brokenOf N = zS (bkF N) (2 * (N 4 * N 5)).toNat ∧ 0 ≤ brokenOf N ∧ brokenOf N ≤ 50 := by
  have hw := hV.1.1
  have hcr := wf_cr hw
  have e : brokenOf N = zS (bkF N) (2 * (N 4 * N 5)).toNat := zS_x0 (f := bkF N) (by omega) (fun k k0 k1 => by
    by_cases z : N (10 + k) = 0
    · exact z
    · have := (hV.2.2.2.1 k (by omega) (by omega) z).1
      omega)
  have h1 := zS_nn (f := bkF N) (n := 50) (fun k k0 k1 => (hw.2.2.2.2.2.2.1 (10 + k) (by omega) (by omega)).1)
  have h2 := zS_le (f := bkF N) (c := 1) (n := 50) (fun k k0 k1 => (hw.2.2.2.2.2.2.1 (10 + k) (by omega) (by omega)).2)
  have e2 : brokenOf N = zS (bkF N) 50 := rfl
  exact ⟨e, by omega, by omega⟩
theorem mv_end {B : Int} {N : Int → Int} (hV : INV B N) : sumOf N 4 = zS (mvF N) (4 * (N 4 * N 5)).toNat := by
  have hw := hV.1.1
  have hcr := wf_cr hw
  rw [hV.2.2.1.1]
  exact zS_x0 (f := mvF N) (by omega) (fun k k0 k1 => hV.1.2.2.2.1 k (by omega) (by omega) (by omega))
theorem bk_step {B : Int} {N : Int → Int} {b d : Int} (hV : INV B N) (hb : isB N b) (hd : 0 ≤ d ∧ d ≤ 3) : zS (bkF N) (2 * b + (d + 1 + 1) / 2).toNat = zS (bkF N) (2 * b + (d + 1) / 2).toNat + (if lkV N b d = 0 ∧ d % 2 = 0 then 1 else 0) := by
  have hw := hV.1.1
  have hb0 := id hb
  unfold isB at hb0
  have hcr := wf_cr hw
  by_cases e : d % 2 = 0
  · have h2 : ∃ q : Int, d = 2 * q ∧ (q = 0 ∨ q = 1) := ⟨d / 2, by omega, by omega⟩
    obtain ⟨q, rfl, hq⟩ := h2
    rw [show 2 * b + (2 * q + 1 + 1) / 2 = 2 * b + q + 1 by omega, show 2 * b + (2 * q + 1) / 2 = 2 * b + q by omega, zS_s (by omega)]
    have eN := lkm_e (N := N) (b := b) hq
    have key : bkF N (2 * b + q) = if lkV N b (2 * q) = 0 ∧ 2 * q % 2 = 0 then 1 else 0 := by
      unfold bkF
      by_cases g : nb N b (2 * q) < 0
      · have l : lkV N b (2 * q) = -6 := if_pos g
        rw [l, if_neg (fun z => by have := z.1; omega)]
        by_cases z : N (10 + (2 * b + q)) = 0
        · exact z
        · have := (hV.2.2.2.1 (2 * b + q) (by omega) (by omega) z).2
          rw [show (2 * b + q) / 2 = b by omega, show (2 * b + q) % 2 = q by omega] at this
          omega
      · obtain ⟨-, -, l3, -, l5, -⟩ := lk_yes (w := 0) hw hb hd (by omega) (by omega)
        rw [eN] at l5
        by_cases z : lkV N b (2 * q) = 0
        · rw [if_pos ⟨z, e⟩]; omega
        · rw [if_neg (fun y => z y.1)]; omega
    rw [key]
  · rw [show (d + 1 + 1) / 2 = (d + 1) / 2 by omega, if_neg (fun z => e z.2)]
    omega
theorem mv_step {N : Int → Int} {b d : Int} (hb : 0 ≤ b) (hd : 0 ≤ d) : zS (mvF N) (4 * b + (d + 1)).toNat = zS (mvF N) (4 * b + d).toNat + N (60 + 4 * b + d) := by
  rw [show 4 * b + (d + 1) = 4 * b + d + 1 by omega, zS_s (by omega)]
  have : mvF N (4 * b + d) = N (60 + 4 * b + d) := by
    unfold mvF
    rw [show 60 + (4 * b + d) = 60 + 4 * b + d by omega]
  omega
theorem xor_opp {d : Int} (hd : 0 ≤ d ∧ d ≤ 3) : iI d ^^^ iI 1 = iI (opp d) := by
  rcases d4 hd with rfl | rfl | rfl | rfl <;> decide
theorem lkV_sym {N : Int → Int} {b d : Int} (hw : wf N) (hb : isB N b) (hd : 0 ≤ d ∧ d ≤ 3) (h : 0 ≤ nb N b d) : lkV N b d = lkV N (nb N b d) (opp d) := by
  obtain ⟨e1, e2⟩ := nb_sym hw hb hd h
  unfold isB at hb
  unfold lkV
  rw [if_neg (by omega), e1, if_neg (by omega)]
  refine zb_cong ⟨fun z => ⟨by omega, by rw [e2]; exact z.2⟩, fun z => ⟨h, by rw [← e2]; exact z.2⟩⟩
theorem lkV_c {N : Int → Int} {b d : Int} (hw : wf N) (hb : isB N b) (hd : 0 ≤ d ∧ d ≤ 3) : (nb N b d < 0 ∧ lkV N b d = -6) ∨ (0 ≤ nb N b d ∧ (lkV N b d = 0 ∨ lkV N b d = 1)) := by
  by_cases g : nb N b d < 0
  · exact Or.inl ⟨g, if_pos g⟩
  · have := (lk_yes (w := 0) hw hb hd (by omega) (by omega)).2.2.1
    exact Or.inr ⟨by omega, by omega⟩
