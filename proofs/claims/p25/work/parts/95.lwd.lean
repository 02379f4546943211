/-! the law: a mesh like another one; a new object -/
def BAS (N M : Int → Int) (k0 : Int) : Prop := INV 0 M ∧ M 6 = 0 ∧ M 0 = N 0 ∧ M 1 = N 1 ∧ M 4 = N 4 ∧ M 5 = N 5 ∧ ∀ j : Int, 0 ≤ j → j < 50 → M (10 + j) = if j < k0 then N (10 + j) else 0
theorem bas_0 {B : Int} {N : Int → Int} (hV : INV B N) : BAS N (zu (zu (mshN inN (N 4) (N 5)) 0 (N 0)) 1 (N 1)) 0 := by
  obtain ⟨w0, w1, w2, hc, hr, w6, wl, wp⟩ := hV.1.1
  have i6 : inN 6 = 0 := inN_0 (by omega)
  refine ⟨INV_set (INV_set (INV_msh INV_in ⟨hc, hr⟩ (by omega)) (Or.inl ⟨rfl, w0⟩)) (Or.inr (Or.inl ⟨rfl, w1⟩)), ?_, ?_, ?_, ?_, ?_, fun j j0 j1 => ?_⟩
  · rw [zu_n (by decide), zu_n (by decide), msh_v, if_neg (by omega), if_neg (by omega), if_neg (by omega)]; exact i6
  · rw [zu_n (by decide), zu_s]
  · rw [zu_s]
  · rw [zu_n (by decide), zu_n (by decide), msh_v, if_neg (by omega), if_neg (by omega), if_pos rfl]
  · rw [zu_n (by decide), zu_n (by decide), msh_v, if_neg (by omega), if_pos rfl]
  · rw [zu_n (by omega), zu_n (by omega), msh_v, if_pos (by omega), if_neg (by omega)]
theorem lkm_e {N : Int → Int} {b e : Int} (he : e = 0 ∨ e = 1) : lkm N b (2 * e) = 10 + (2 * b + e) := by
  unfold lkm
  rcases he with rfl | rfl
  · rw [if_pos (by omega), if_pos (by omega)]; omega
  · rw [if_pos (by omega), if_neg (by omega)]; omega
theorem bas_y {N M : Int → Int} {b e : Int} (hw : wf N) (h : BAS N M (2 * b + e)) (hb : isB N b) (he : e = 0 ∨ e = 1) (hz : lkV N b (2 * e) = 0) : isB M b ∧ lnkQ M b (2 * e) 0 ∧ lnkR M b (2 * e) 0 = 1 ∧ BAS N (zu M (lkm M b (2 * e)) (1 - 0)) (2 * b + e + 1) := by
  obtain ⟨hI, m6, m0, m1, m4, m5, ml⟩ := h
  have hcr := wf_cr hw
  have hbM : isB M b := by unfold isB at hb ⊢; rw [m4, m5]; exact hb
  have hnb : nb M b (2 * e) = nb N b (2 * e) := nb_45 m4 m5
  have hn : 0 ≤ nb N b (2 * e) := by
    by_cases g : nb N b (2 * e) < 0
    · unfold lkV at hz; rw [if_pos g] at hz; omega
    · omega
  obtain ⟨-, -, -, -, l5, -⟩ := lk_yes (w := 0) hw hb (by omega : 0 ≤ 2 * e ∧ 2 * e ≤ 3) (by omega) hn
  obtain ⟨q1, q2, q3, q4, q5, q6⟩ := lk_yes (w := 0) hI.1.1 hbM (by omega : 0 ≤ 2 * e ∧ 2 * e ≤ 3) (by omega) (by rw [hnb]; exact hn)
  have eM := lkm_e (N := M) (b := b) he
  have eN := lkm_e (N := N) (b := b) he
  unfold isB at hb
  have v0 : M (lkm M b (2 * e)) = 0 := by rw [eM, ml _ (by omega) (by omega), if_neg (by omega)]
  refine ⟨hbM, q1, by omega, INV_lnk hI hbM (by omega) (by rw [hnb]; exact hn) (by omega), by rw [zu_n (by omega)]; exact m6, by rw [zu_n (by omega)]; exact m0, by rw [zu_n (by omega)]; exact m1, by rw [zu_n (by omega)]; exact m4, by rw [zu_n (by omega)]; exact m5, fun j j0 j1 => ?_⟩
  by_cases g : j = 2 * b + e
  · rw [if_pos (by omega), g, ← eN, eM, eN, zu_s]
    rw [eN] at l5
    omega
  · rw [zu_n (by omega), ml j j0 j1]
    by_cases g2 : j < 2 * b + e
    · rw [if_pos g2, if_pos (by omega)]
    · rw [if_neg g2, if_neg (by omega)]
theorem bas_n {B : Int} {N M : Int → Int} {b e : Int} (hV : INV B N) (h : BAS N M (2 * b + e)) (hb : isB N b) (he : e = 0 ∨ e = 1) (hz : ¬ lkV N b (2 * e) = 0) : BAS N M (2 * b + e + 1) := by
  obtain ⟨hI, m6, m0, m1, m4, m5, ml⟩ := h
  have hw := hV.1.1
  have hcr := wf_cr hw
  have eN := lkm_e (N := N) (b := b) he
  have hb0 := id hb
  unfold isB at hb0
  have z : N (10 + (2 * b + e)) = 0 := by
    by_cases g : nb N b (2 * e) < 0
    · by_cases z : N (10 + (2 * b + e)) = 0
      · exact z
      · have := (hV.2.2.2.1 (2 * b + e) (by omega) (by omega) z).2
        rw [show (2 * b + e) / 2 = b by omega, show (2 * b + e) % 2 = e by omega] at this
        omega
    · obtain ⟨-, -, l3, -, l5, -⟩ := lk_yes (w := 0) hw hb (by omega : 0 ≤ 2 * e ∧ 2 * e ≤ 3) (by omega) (by omega)
      rw [eN] at l5
      omega
  refine ⟨hI, m6, m0, m1, m4, m5, fun j j0 j1 => ?_⟩
  rw [ml j j0 j1]
  by_cases g : j = 2 * b + e
  · rw [if_neg (by omega), if_pos (by omega), g, z]
  · by_cases g2 : j < 2 * b + e
    · rw [if_pos g2, if_pos (by omega)]
    · rw [if_neg g2, if_neg (by omega)]
theorem bas_end {B : Int} {N M : Int → Int} (hV : INV B N) (h : BAS N M (2 * (N 4 * N 5))) : same N M := by
  obtain ⟨hI, m6, m0, m1, m4, m5, ml⟩ := h
  intro k k0 k1 k2 k3 k6
  by_cases g : 10 ≤ k
  · have e := ml (k - 10) (by omega) (by omega)
    rw [show 10 + (k - 10) = k by omega] at e
    rw [e]
    by_cases g2 : k - 10 < 2 * (N 4 * N 5)
    · rw [if_pos g2]
    · rw [if_neg g2]
      by_cases z : N k = 0
      · exact z.symm
      · have := (hV.2.2.2.1 (k - 10) (by omega) (by omega) (by rw [show 10 + (k - 10) = k by omega]; exact z)).1
        omega
  · by_cases e0 : k = 0
    · subst e0; exact m0
    · by_cases e1 : k = 1
      · subst e1; exact m1
      · by_cases e4 : k = 4
        · subst e4; exact m4
        · by_cases e5 : k = 5
          · subst e5; exact m5
          · rw [hI.2.2.2.2 k (by omega) (by omega), hV.2.2.2.2 k (by omega) (by omega)]
theorem o_sw {a b c : va_W} : (([] : va_W) ++ (a ++ (b ++ c))).Perm (([] : va_W) ++ (b ++ (a ++ c))) := List.perm_append_comm_assoc a b c
set_option maxRecDepth 20000 in
theorem o_new {X : zX} {Z : zZ} {R : Room} {cc : ByteArray} {own : String} {nL k n : Nat} {ws : va_W} {pc i0 i1 : Nat} {lv : List (Nat × Value)} (ok : zOK X Z R cc own nL) (hnx : zNX X) (hcl : Cond.classLink own i0 RX6 ∈ wsL_law) (d0 : decode cc pc = .ok (.new i0, 3)) (d1 : decode cc (pc + 3) = .ok (.dup, 1)) (hlk : Cond.methodLink own i1 yX6_init ∈ wsL_law) (d2 : decode cc (pc + 3 + 1) = .ok (.invokespecial i1, 3)) (hR : 5 + 1 ≤ R.frames ∧ 8 + (2 + 11) + 122 ≤ R.locals) (hc : k + 1 + 180 ≤ R.cells ∧ n + 10 + 8611 ≤ R.slots)
    (hk : ∀ (ad : zAd) (h : zHd), obI inN h → zV X (k + 1 + 180) (n + 10 + 8611) (obW Z ad inN h ++ ws) (pc + 3 + 1 + 3) lv [.ref (obX ad)]) : zV X k n ws pc lv [] := by
  refine z_new ok zc6 hcl qx_RX6 qn_RX6 [.null, .null, .null, .null, .null, .null, .null, .int (iI 0), .null, .null] (fun j hj => by rcases (show j = 0 ∨ j = 1 ∨ j = 2 ∨ j = 3 ∨ j = 4 ∨ j = 5 ∨ j = 6 ∨ j = 7 ∨ j = 8 ∨ j = 9 by omega) with rfl | rfl | rfl | rfl | rfl | rfl | rfl | rfl | rfl | rfl <;> rfl) d0 (by omega) (by omega) (fun qx => ?_)
  refine z_dup ok d1 rfl ?_
  refine z_callKI ok hnx (wc := [(qx, .inr (6, [.null, .null, .null, .null, .null, .null, .null, .int (iI 0), .null, .null]))]) (fun l => c_X6_init) zm_X6_init rfl qi_X6_init hlk d2 hR hc (Nat.le_of_ble_eq_true rfl) List.perm_append_comm (fun u hp => ?_)
  obtain ⟨x, a, b, a3, b4, c, e, A, E, ⟨ef, op⟩, ln, nm, qu, qd⟩ := u
  obtain ⟨hx0, hok⟩ := hp
  have hx0 : x 0 = qx := hx0
  have hok : rOK inN ef op ln := hok
  subst hx0
  exact hk (x, a, b, a3, b4, c, e, E) ((A, (fun _ => inN), 0), ((ef, op), ln, nm, qu, qd), inN, (fun _ => 0), (0, (fun _ => 0), (fun _ => 0), (fun _ => 0), (fun _ => 0), 0), ((fun _ => 0), 0, 0, (fun _ => 0), (fun _ => 0), (fun _ => 0), 0), (fun _ => inN), (fun _ => 0)) ⟨hok, by decide, fun _ _ _ => Or.inl rfl⟩
