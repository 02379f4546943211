/-! a state's cells behind a change, as those of a row -/
noncomputable abbrev sL (Z : zZ) (a : Nat → Nat) (N : Int → Int) (Lr : List va_W) : List va_W := soW Z a N (ins N) (mvF N) (N 3) :: gW Z a (N 4) (N 5) (bkL N) :: pW Z a (N 6) (pkF N 0) (pkF N 1) (pkF N 2) (pkF N 3) (pkF N 4) (pkF N 5) (pkF N 6) (pkF N 7) (pkF N 8) (pkF N 9) :: Lr
theorem bk_bkL {N : Int → Int} {p j v : Int} (hp : 0 ≤ p) (hj : 0 ≤ j) : bkL N = bkL (bk N p j v) := bk_cong (fun k _ h => (bk_lo hp hj (by omega)).symm)
theorem pkF_b {N : Int → Int} {p j v i q : Int} (hj : 0 ≤ j ∧ j ≤ 9) (hi : 0 ≤ i ∧ i ≤ 9) (h : i ≠ j) : pkF N i q = pk (bk N p j v) q i := by
  rw [pk_bk hj hi, if_neg (fun z => h z.2)]
  rfl
theorem pkF_e {N : Int → Int} {p j v q : Int} (hj : 0 ≤ j ∧ j ≤ 9) : zu (pkF N j) p v q = pk (bk N p j v) q j := by
  rw [pk_bk hj hj]
  unfold zu
  by_cases h : q = p
  · rw [if_pos h, if_pos ⟨h, rfl⟩]
  · rw [if_neg h, if_neg (fun z => h z.1)]; rfl
theorem ins_bk {N : Int → Int} {p j v b : Int} (hj : 0 ≤ j ∧ j ≤ 9) (hp : 0 ≤ p) (h : j ≠ 2 ∧ j ≠ 3) : ins (bk N p j v) b = ins N b := by
  unfold ins
  rw [bk_lo hp hj.1 (by decide)]
  refine zS_cong (fun q h0 h1 => ?_)
  unfold insf
  rw [pk_bk hj (by omega), if_neg (fun z => h.1 z.2.symm), pk_bk hj (by omega), if_neg (fun z => h.2 z.2.symm)]
section ZS
variable {X : zX} {Z : zZ} {R : Room} {cc : ByteArray} {own : String} {nL k n : Nat} {pc : Nat} {lv : List (Nat × Value)} {stk : List Value} {a : Nat → Nat} {N : Int → Int} {p : Int}
theorem z_ci (ok : zOK X Z R cc own nL) (Lr : List va_W) (hp : 0 ≤ p ∧ p < N 6) (h2 : pk N p 2 = 0) (h : zV X k n (zf (sL Z a (bk N p 2 1) Lr)) pc lv stk) : zV X k n (zf (soW Z a N (zu (ins N) (pk N p 3) (ins N (pk N p 3) + 1)) (mvF N) (N 3) :: gW Z a (N 4) (N 5) (bkL N) :: pW Z a (N 6) (pkF N 0) (pkF N 1) (zu (pkF N 2) p 1) (pkF N 3) (pkF N 4) (pkF N 5) (pkF N 6) (pkF N 7) (pkF N 8) (pkF N 9) :: Lr)) pc lv stk := by
  have lo : ∀ i : Int, i < 160 → N i = bk N p 2 1 i := fun i hi => (bk_lo hp.1 (by decide) hi).symm
  refine z_sN ok (bk N p 2 1) Lr (fun j a b => lo j (by omega)) (fun j a b => ?_) (fun j a b => lo _ (by omega)) (lo 3 (by decide)) (lo 4 (by decide)) (lo 5 (by decide)) (bk_bkL hp.1 (by decide)) (lo 6 (by decide)) (fun q _ => pkF_b (by omega) (by omega) (by omega)) (fun q _ => pkF_b (by omega) (by omega) (by omega)) (fun q _ => pkF_e (by omega)) (fun q _ => pkF_b (by omega) (by omega) (by omega)) (fun q _ => pkF_b (by omega) (by omega) (by omega)) (fun q _ => pkF_b (by omega) (by omega) (by omega)) (fun q _ => pkF_b (by omega) (by omega) (by omega)) (fun q _ => pkF_b (by omega) (by omega) (by omega)) (fun q _ => pkF_b (by omega) (by omega) (by omega)) (fun q _ => pkF_b (by omega) (by omega) (by omega)) h
  rw [ins_chg (N := N) (N' := bk N p 2 1) (b := j) (lo 6 (by decide)).symm hp (fun q _ hq => ⟨by rw [pk_bk (by omega) (by omega), if_neg (fun z => hq z.1)], by rw [pk_bk (by omega) (by omega), if_neg (fun z => hq z.1)]⟩)]
  have e1 : insf N j p = 0 := zb_f (fun z => by have := z.1; omega)
  have e2 : insf (bk N p 2 1) j p = zb (pk N p 3 = j) := by
    unfold insf
    rw [pk_bs, pk_bn (by decide)]
    exact zb_cong ⟨fun z => z.2, fun z => ⟨rfl, z⟩⟩
  rw [e1, e2]
  unfold zu
  by_cases hj : j = pk N p 3
  · rw [if_pos hj, zb_t hj.symm, hj]; omega
  · rw [if_neg hj, zb_f (fun z => hj z.symm)]; omega
theorem z_wt (ok : zOK X Z R cc own nL) (Lr : List va_W) {v : Int} (hp : 0 ≤ p) (h : zV X k n (zf (sL Z a (bk N p 6 v) Lr)) pc lv stk) : zV X k n (zf (soW Z a N (ins N) (mvF N) (N 3) :: gW Z a (N 4) (N 5) (bkL N) :: pW Z a (N 6) (pkF N 0) (pkF N 1) (pkF N 2) (pkF N 3) (pkF N 4) (pkF N 5) (zu (pkF N 6) p v) (pkF N 7) (pkF N 8) (pkF N 9) :: Lr)) pc lv stk := by
  have lo : ∀ i : Int, i < 160 → N i = bk N p 6 v i := fun i hi => (bk_lo hp (by decide) hi).symm
  exact z_sN ok (bk N p 6 v) Lr (fun j a b => lo j (by omega)) (fun j a b => (ins_bk (by omega) hp (by omega)).symm) (fun j a b => lo _ (by omega)) (lo 3 (by decide)) (lo 4 (by decide)) (lo 5 (by decide)) (bk_bkL hp (by decide)) (lo 6 (by decide)) (fun q _ => pkF_b (by omega) (by omega) (by omega)) (fun q _ => pkF_b (by omega) (by omega) (by omega)) (fun q _ => pkF_b (by omega) (by omega) (by omega)) (fun q _ => pkF_b (by omega) (by omega) (by omega)) (fun q _ => pkF_b (by omega) (by omega) (by omega)) (fun q _ => pkF_b (by omega) (by omega) (by omega)) (fun q _ => pkF_e (by omega)) (fun q _ => pkF_b (by omega) (by omega) (by omega)) (fun q _ => pkF_b (by omega) (by omega) (by omega)) (fun q _ => pkF_b (by omega) (by omega) (by omega)) h
theorem ins_lo {N N' : Int → Int} {b : Int} (h : ∀ k : Int, 160 ≤ k → N' k = N k) (h6 : N' 6 = N 6) : ins N' b = ins N b := by
  unfold ins
  rw [h6]
  refine zS_cong (fun q h0 h1 => ?_)
  unfold insf pk
  rw [h _ (by omega), h _ (by omega)]
theorem z_tk (ok : zOK X Z R cc own nL) (Lr : List va_W) (h : zV X k n (zf (sL Z a (mvB N 3) Lr)) pc lv stk) : zV X k n (zf (soW Z a N (ins N) (mvF N) (N 3 + 1) :: gW Z a (N 4) (N 5) (bkL N) :: pW Z a (N 6) (pkF N 0) (pkF N 1) (pkF N 2) (pkF N 3) (pkF N 4) (pkF N 5) (pkF N 6) (pkF N 7) (pkF N 8) (pkF N 9) :: Lr)) pc lv stk := by
  have ne : ∀ i : Int, i ≠ 3 → N i = mvB N 3 i := fun i hi => (zu_n hi).symm
  have pe : ∀ j q : Int, 0 ≤ q → 0 ≤ j → pkF N j q = pk (mvB N 3) q j := fun j q hq hj => ne _ (by omega)
  exact z_sN ok (mvB N 3) Lr (fun j a b => ne j (by omega)) (fun j a b => (ins_lo (fun k hk => (ne k (by omega)).symm) (ne 6 (by decide)).symm).symm) (fun j a b => ne _ (by omega)) (zu_s (f := N)).symm (ne 4 (by decide)) (ne 5 (by decide)) (bk_cong (fun k h _ => ne k (by omega))) (ne 6 (by decide)) (fun q hq => pe 0 q hq (by decide)) (fun q hq => pe 1 q hq (by decide)) (fun q hq => pe 2 q hq (by decide)) (fun q hq => pe 3 q hq (by decide)) (fun q hq => pe 4 q hq (by decide)) (fun q hq => pe 5 q hq (by decide)) (fun q hq => pe 6 q hq (by decide)) (fun q hq => pe 7 q hq (by decide)) (fun q hq => pe 8 q hq (by decide)) (fun q hq => pe 9 q hq (by decide)) h
end ZS
theorem rOK_same {N N' op ln : Int → Int} {ef : Int} (hw : wf N) (h : same N N') (hr : rOK N ef op ln) : rOK N' ef op ln := by
  have e0 : N' 0 = N 0 := h 0 (by decide) (by decide) (by decide) (by decide) (by decide)
  have e4 : N' 4 = N 4 := h 4 (by decide) (by decide) (by decide) (by decide) (by decide)
  have e5 : N' 5 = N 5 := h 5 (by decide) (by decide) (by decide) (by decide) (by decide)
  have hcr := wf_cr hw
  have oqe : ∀ b d : Int, 0 ≤ b → b < N 4 * N 5 → 0 ≤ d → d ≤ 3 → oq N' b d = oq N b d := by
    intro b d h0 h1 h2 h3
    unfold oq
    rw [nb_same h, propext (opn_same hw h ⟨h0, h1⟩ ⟨h2, h3⟩)]
  have vse : ∀ x : Int, vsp N' x ↔ vsp N x := fun x => by unfold vsp; rw [e4, e5]
  have wqe : ∀ (to : Int) (m : Nat) (x : Int), vsp N x → wq N' to m x = wq N to m x := by
    intro to m
    induction m with
    | zero => intro x _; rw [wq, wq]
    | succ m ih =>
      intro x hx
      rw [wq, wq]
      split
      · rfl
      · refine zS4g (fun d hd => ?_)
        unfold wqf
        have hx0 := hx.1
        have em : mvq N' x d = mvq N x d := by
          unfold mvq
          rw [propext (opn_same hw h ⟨by omega, hx.2.2⟩ hd), e0]
        have es : scq N' x d = scq N x d := by unfold scq; rw [nb_same h]
        rw [em, es]
        by_cases hm : mvq N x d
        · rw [zif_t hm, zif_t hm]
          exact ih _ (scq_v hw hx hd hm).1
        · rw [zif_f hm, zif_f hm]
  obtain ⟨⟨h1, h2⟩, h3⟩ := hr
  refine ⟨⟨by rw [e0]; exact h1, fun b d a1 a2 a3 a4 => ?_⟩, fun t x a1 a2 a3 => ?_⟩
  · rw [e4, e5] at a2
    rw [oqe b d a1 a2 a3 a4]
    exact h2 b d a1 a2 a3 a4
  · rw [e4, e5] at a2
    have hx := (vse x).mp a3
    rcases h3 t x a1 a2 hx with ⟨g1, g2⟩ | ⟨m, g1, g2, g3, g4⟩
    · exact Or.inl ⟨g1, fun m => by rw [wqe t m x hx]; exact g2 m⟩
    · exact Or.inr ⟨m, g1, g2, by rw [wqe t m x hx]; exact g3, fun j hj => by rw [wqe t j x hx]; exact g4 j hj⟩
/-! a move's row -/
def mvv (N : Int → Int) (p d j x5 : Int) : Int := if j = 3 then nb N (pk N p 3) d else if j = 4 then pk N p 4 + 1 else if j = 5 then x5 else if j = 9 then (if d = 0 then pk N p 9 else 1) else if j = 2 then (if nb N (pk N p 3) d = pk N p 1 then 2 else pk N p 2) else if j = 8 then (if nb N (pk N p 3) d = pk N p 1 then N 3 else pk N p 8) else pk N p j
theorem pk_mvB {N : Int → Int} {i q j : Int} (hi : i < 160) (hq : 0 ≤ q) (hj : 0 ≤ j) : pk (mvB N i) q j = pk N q j := by
  unfold mvB pk
  exact zu_n (by omega)
theorem pk_mvA {N : Int → Int} {p a5 a9 x q j : Int} (hj : 0 ≤ j ∧ j ≤ 9) : pk (mvA N p a5 a9 x) q j = if q = p then (if j = 3 then x else if j = 4 then pk N p 4 + 1 else if j = 5 then a5 else if j = 9 then a9 else pk N q j) else pk N q j := by
  unfold mvA
  rw [pk_bk (by omega) hj, pk_bk (by omega) hj, pk_bk (by omega) hj, pk_bk (by omega) hj]
  by_cases hq : q = p
  · rw [if_pos hq]
    by_cases h3 : j = 3
    · rw [if_pos ⟨hq, h3⟩, if_pos h3]
    · rw [if_neg (fun z => h3 z.2), if_neg h3]
      by_cases h9 : j = 9
      · rw [if_pos ⟨hq, h9⟩, if_neg (by omega), if_neg (by omega), if_pos h9]
      · rw [if_neg (fun z => h9 z.2)]
        by_cases h5 : j = 5
        · rw [if_pos ⟨hq, h5⟩, if_neg (by omega), if_pos h5]
        · rw [if_neg (fun z => h5 z.2)]
          by_cases h4 : j = 4
          · rw [if_pos ⟨hq, h4⟩, if_pos h4]
          · rw [if_neg (fun z => h4 z.2), if_neg h4, if_neg h5, if_neg h9]
  · rw [if_neg hq, if_neg (fun z => hq z.1), if_neg (fun z => hq z.1), if_neg (fun z => hq z.1), if_neg (fun z => hq z.1)]
theorem mvN_pk {N : Int → Int} {p d q j : Int} (hp : 0 ≤ p) (hi : 60 ≤ 60 + 4 * pk N p 3 + d ∧ 60 + 4 * pk N p 3 + d < 160) (hq : 0 ≤ q) (hj : 0 ≤ j ∧ j ≤ 9) : pk (mvN N p d) q j = if q = p then mvv N p d j (pk N p 5 + zb (dtr N (pk N p 3) (nb N (pk N p 3) d) (pk N p 1))) else pk N q j := by
  unfold mvN
  by_cases ht : nb N (pk N p 3) d = pk N p 1
  · rw [if_pos ht]
    unfold mvC
    have e3 : mvB (mvA N p (pk N p 5 + zb (dtr N (pk N p 3) (nb N (pk N p 3) d) (pk N p 1))) (if d = 0 then pk N p 9 else 1) (nb N (pk N p 3) d)) (60 + 4 * pk N p 3 + d) 3 = N 3 := by
      unfold mvB
      rw [zu_n (by omega)]
      exact mvA_lo hp (by decide)
    rw [pk_bk (by omega) hj, pk_bk (by omega) hj, bk_lo hp (by decide) (by decide), e3, pk_mvB hi.2 hq hj.1, pk_mvA hj]
    unfold mvv
    by_cases hqp : q = p
    · rw [if_pos hqp, if_pos hqp, if_pos ht, if_pos ht]
      by_cases h8 : j = 8
      · rw [if_pos ⟨hqp, h8⟩, if_neg (by omega), if_neg (by omega), if_neg (by omega), if_neg (by omega), if_neg (by omega), if_pos h8]
      · rw [if_neg (fun z => h8 z.2)]
        by_cases h2 : j = 2
        · rw [if_pos ⟨hqp, h2⟩, if_neg (by omega), if_neg (by omega), if_neg (by omega), if_neg (by omega), if_pos h2]
        · rw [if_neg (fun z => h2 z.2), if_neg h2, if_neg h8, hqp]
    · rw [if_neg hqp, if_neg (fun z => hqp z.1), if_neg (fun z => hqp z.1), if_neg hqp]
  · rw [if_neg ht, pk_mvB hi.2 hq hj.1, pk_mvA hj]
    unfold mvv
    by_cases hqp : q = p
    · rw [if_pos hqp, if_pos hqp, if_neg ht, if_neg ht, hqp]
      by_cases h2 : j = 2
      · rw [if_neg (by omega), if_neg (by omega), if_neg (by omega), if_neg (by omega), if_neg (by omega), if_neg (by omega), if_neg (by omega), if_neg (by omega), if_pos h2, h2]
      · by_cases h8 : j = 8
        · rw [if_neg (by omega), if_neg (by omega), if_neg (by omega), if_neg (by omega), if_neg (by omega), if_neg (by omega), if_neg (by omega), if_neg (by omega), if_neg h2, if_pos h8, h8]
        · rw [if_neg h2, if_neg h8]
    · rw [if_neg hqp, if_neg hqp]
theorem mvN_lo {N : Int → Int} {p d k : Int} (hp : 0 ≤ p) (hk : k < 160) : mvN N p d k = if k = 60 + 4 * pk N p 3 + d then N k + 1 else N k := by
  have key : ∀ M : Int → Int, (∀ i : Int, i < 160 → M i = N i) → mvB M (60 + 4 * pk N p 3 + d) k = if k = 60 + 4 * pk N p 3 + d then N k + 1 else N k := by
    intro M hM
    unfold mvB
    by_cases e : k = 60 + 4 * pk N p 3 + d
    · rw [if_pos e, ← e, zu_s, hM k hk]
    · rw [if_neg e, zu_n e, hM k hk]
  unfold mvN
  split
  · unfold mvC
    rw [bk_lo hp (by decide) hk, bk_lo hp (by decide) hk]
    exact key _ (fun i hi => mvA_lo hp hi)
  · exact key _ (fun i hi => mvA_lo hp hi)
section ZM
variable {X : zX} {Z : zZ} {R : Room} {cc : ByteArray} {own : String} {nL k n : Nat} {pc : Nat} {lv : List (Nat × Value)} {stk : List Value} {a : Nat → Nat} {N : Int → Int} {p d : Int}
theorem z_mv (ok : zOK X Z R cc own nL) (Lr : List va_W) {iv q2 q8 q5 : Int → Int} (hw : wf N) (hp : 0 ≤ p ∧ p < N 6) (h2 : pk N p 2 = 1) (hd : 0 ≤ d ∧ d ≤ 3) (hnb : 0 ≤ nb N (pk N p 3) d) (h5 : q5 = zu (pkF N 5) p (pk N p 5 + zb (dtr N (pk N p 3) (nb N (pk N p 3) d) (pk N p 1))))
    (hc : (nb N (pk N p 3) d = pk N p 1 ∧ iv = zu (ins N) (pk N p 3) (ins N (pk N p 3) - 1) ∧ q2 = zu (pkF N 2) p 2 ∧ q8 = zu (pkF N 8) p (N 3)) ∨ (¬ nb N (pk N p 3) d = pk N p 1 ∧ iv = zu (zu (ins N) (pk N p 3) (ins N (pk N p 3) - 1)) (nb N (pk N p 3) d) (zu (ins N) (pk N p 3) (ins N (pk N p 3) - 1) (nb N (pk N p 3) d) + 1) ∧ q2 = pkF N 2 ∧ q8 = pkF N 8))
    (h : zV X k n (zf (sL Z a (mvN N p d) Lr)) pc lv stk) : zV X k n (zf (soW Z a N iv (zu (mvF N) (pk N p 3 * 4 + d) (N (60 + (pk N p 3 * 4 + d)) + 1)) (N 3) :: gW Z a (N 4) (N 5) (bkL N) :: pW Z a (N 6) (pkF N 0) (pkF N 1) q2 (zu (pkF N 3) p (nb N (pk N p 3) d)) (zu (pkF N 4) p (pk N p 4 + 1)) q5 (pkF N 6) (pkF N 7) q8 (zu (pkF N 9) p (if d = 0 then pk N p 9 else 1)) :: Lr)) pc lv stk := by
  subst h5
  obtain ⟨q1, q2', q3, q4, q5, q6⟩ := hw.2.2.2.2.2.2.2 p hp.1 hp.2
  have hcr := wf_cr hw
  have hnr := nb_rng hw q4 hd
  have hdn := dist_nb (d := d) (to := pk N p 3) hw.2.2.2.1 q4.1 hnb
  rw [dist_0] at hdn
  have hne : nb N (pk N p 3) d ≠ pk N p 3 := fun e => by rw [e, dist_0] at hdn; omega
  have lo : ∀ i : Int, i < 60 → N i = mvN N p d i := fun i hi => by rw [mvN_lo hp.1 (by omega), if_neg (by omega)]
  have pe : ∀ j q : Int, 0 ≤ j ∧ j ≤ 9 → 0 ≤ q → pk (mvN N p d) q j = if q = p then mvv N p d j (pk N p 5 + zb (dtr N (pk N p 3) (nb N (pk N p 3) d) (pk N p 1))) else pk N q j := fun j q hj hq => mvN_pk hp.1 (by omega) hq hj
  have keep : ∀ j q : Int, 0 ≤ j ∧ j ≤ 9 → 0 ≤ q → mvv N p d j (pk N p 5 + zb (dtr N (pk N p 3) (nb N (pk N p 3) d) (pk N p 1))) = pk N p j → pkF N j q = pk (mvN N p d) q j := by
    intro j q hj hq hm
    rw [pe j q hj hq, hm]
    by_cases e : q = p
    · rw [if_pos e, e]; rfl
    · rw [if_neg e]; rfl
  have chg : ∀ j q v : Int, 0 ≤ j ∧ j ≤ 9 → 0 ≤ q → mvv N p d j (pk N p 5 + zb (dtr N (pk N p 3) (nb N (pk N p 3) d) (pk N p 1))) = v → zu (pkF N j) p v q = pk (mvN N p d) q j := by
    intro j q v hj hq hm
    rw [pe j q hj hq, hm]
    unfold zu
    by_cases e : q = p
    · rw [if_pos e, if_pos e]
    · rw [if_neg e, if_neg e]; rfl
  have i1 : ∀ j : Int, insf N j p = zb (pk N p 3 = j) := fun j => zb_cong ⟨fun z => z.2, fun z => ⟨h2, z⟩⟩
  have p2' : pk (mvN N p d) p 2 = if nb N (pk N p 3) d = pk N p 1 then 2 else pk N p 2 := by rw [pe 2 p (by omega) hp.1, if_pos rfl]; rfl
  have p3' : pk (mvN N p d) p 3 = nb N (pk N p 3) d := by rw [pe 3 p (by omega) hp.1, if_pos rfl]; rfl
  have insE : ∀ j : Int, ins (mvN N p d) j = ins N j - zb (pk N p 3 = j) + insf (mvN N p d) j p := fun j => by
    rw [ins_chg (N := N) (N' := mvN N p d) (lo 6 (by decide)).symm hp (fun q hq0 hq => ⟨by rw [pe 2 q (by omega) hq0, if_neg hq], by rw [pe 3 q (by omega) hq0, if_neg hq]⟩), i1]
  refine z_sN ok (mvN N p d) Lr (fun j a b => lo j (by omega)) (fun j a b => ?_) (fun j a b => ?_) (lo 3 (by decide)) (lo 4 (by decide)) (lo 5 (by decide)) (bk_cong (fun k _ h => lo k h)) (lo 6 (by decide)) (fun q hq => keep 0 q (by omega) hq rfl) (fun q hq => keep 1 q (by omega) hq rfl) (fun q hq => ?_) (fun q hq => chg 3 q _ (by omega) hq rfl) (fun q hq => chg 4 q _ (by omega) hq rfl) (fun q hq => chg 5 q _ (by omega) hq rfl) (fun q hq => keep 6 q (by omega) hq rfl) (fun q hq => keep 7 q (by omega) hq rfl) (fun q hq => ?_) (fun q hq => chg 9 q _ (by omega) hq rfl) h
  · rw [insE j]
    rcases hc with ⟨ht, rfl, -, -⟩ | ⟨ht, rfl, -, -⟩
    · have e : insf (mvN N p d) j p = 0 := zb_f (fun z => by have := z.1; rw [p2', if_pos ht] at this; omega)
      rw [e]
      unfold zu
      by_cases hj : j = pk N p 3
      · rw [if_pos hj, zb_t hj.symm, hj]; omega
      · rw [if_neg hj, zb_f (fun z => hj z.symm)]; omega
    · have e : insf (mvN N p d) j p = zb (nb N (pk N p 3) d = j) := by
        unfold insf
        rw [p2', p3', if_neg ht]
        exact zb_cong ⟨fun z => z.2, fun z => ⟨h2, z⟩⟩
      rw [e]
      unfold zu
      by_cases hj : j = nb N (pk N p 3) d
      · rw [if_pos hj, if_neg hne, zb_f (fun z => hne (hj.symm.trans z.symm)), zb_t hj.symm, hj]; omega
      · rw [if_neg hj, zb_f (P := nb N (pk N p 3) d = j) (fun z => hj z.symm)]
        by_cases hj2 : j = pk N p 3
        · rw [if_pos hj2, zb_t hj2.symm, hj2]; omega
        · rw [if_neg hj2, zb_f (fun z => hj2 z.symm)]; omega
  · rw [mvN_lo hp.1 (by omega)]
    unfold zu
    by_cases hj : j = pk N p 3 * 4 + d
    · rw [if_pos hj, if_pos (by omega), hj]
    · rw [if_neg hj, if_neg (by omega)]; rfl
  · rcases hc with ⟨ht, -, rfl, -⟩ | ⟨ht, -, rfl, -⟩
    · exact chg 2 q _ (by omega) hq (if_pos ht)
    · exact keep 2 q (by omega) hq (if_neg ht)
  · rcases hc with ⟨ht, -, -, rfl⟩ | ⟨ht, -, -, rfl⟩
    · exact chg 8 q _ (by omega) hq (if_pos ht)
    · exact keep 8 q (by omega) hq (if_neg ht)
end ZM
theorem goN_6 (N : Int → Int) (p : Int) : goN N p = -6 ∨ 0 ≤ goN N p := by
  unfold goN gos
  by_cases hx : ∃ r, isF N (pk N p 1) (stg N p) (rmP N p) r
  · rw [dif_pos hx]
    rcases Classical.choose_spec hx with h | h
    · exact Or.inl h.1
    · exact Or.inr h.1
  · rw [dif_neg hx]; exact Or.inl rfl
theorem stp_0y {N : Int → Int} {p : Int} (h : pk N p 2 = 0) (hr : ins N (pk N p 3) < N 2) : bk N p 2 1 = stpN N p := by
  unfold stpN
  rw [if_pos h, zb_t hr]
  exact (zu_id (by show pk (bk N p 2 1) p 6 = _; rw [pk_bn (by decide)]; omega)).symm
theorem stp_0n {N : Int → Int} {p : Int} (h : pk N p 2 = 0) (hr : ¬ ins N (pk N p 3) < N 2) : bk N p 6 (pk N p 6 + 1) = stpN N p := by
  unfold stpN
  rw [if_pos h, zb_f hr]
  have e : bk N p 2 0 = N := zu_id h
  rw [e]
  congr 1
theorem stp_1y {N : Int → Int} {p : Int} (h : pk N p 2 = 1) (hg : 0 ≤ goN N p) : mvN N p (goN N p) = stpN N p := by
  unfold stpN
  rw [if_neg (by omega), if_pos h, if_pos hg]
theorem stp_1n {N : Int → Int} {p : Int} (h : pk N p 2 = 1) (hg : ¬ 0 ≤ goN N p) : bk N p 6 (pk N p 6 + 1) = stpN N p := by
  unfold stpN
  rw [if_neg (by omega), if_pos h, if_neg hg]
theorem stp_2 {N : Int → Int} {p : Int} (h : ¬ pk N p 2 = 0) (h1 : ¬ pk N p 2 = 1) : N = stpN N p := by
  unfold stpN
  rw [if_neg h, if_neg h1]
