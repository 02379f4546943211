/-! the moves that come to a spot; a spot done -/
noncomputable def oq (N : Int → Int) (b d : Int) : Int := zif (opn N b d) (nb N b d) (-1)
def opK (N : Int → Int) (ef : Int) (op : Int → Int) : Prop := (0 ≤ ef ∧ ef ≤ 1 ∧ (ef = 1 ↔ N 0 = 1)) ∧ ∀ b d : Int, 0 ≤ b → b < N 4 * N 5 → 0 ≤ d → d ≤ 3 → op (b * 4 + d) = oq N b d
def Py (N : Int → Int) (y s : Int) : Int → Int → Prop := fun z d => vsp N z ∧ 0 ≤ d ∧ d ≤ 3 ∧ mvq N z d ∧ scq N z d = y ∧ d < s
def Cq (N q : Int → Int) (i : Int) : Int → Int → Prop := fun z d => vsp N z ∧ 0 ≤ d ∧ d ≤ 3 ∧ mvq N z d ∧ ∃ j : Int, 0 ≤ j ∧ j < i ∧ q j = scq N z d
theorem oq_v (N : Int → Int) (b d : Int) : (oq N b d = -1 ∧ ¬ opn N b d) ∨ (opn N b d ∧ oq N b d = nb N b d ∧ 0 ≤ nb N b d) := by
  unfold oq
  by_cases h : opn N b d
  · rw [zif_t h]; exact Or.inr ⟨h, rfl, h.1⟩
  · rw [zif_f h]; exact Or.inl ⟨rfl, h⟩
theorem oq_n {N : Int → Int} {b d v : Int} (h : v = oq N b d) (hv : v = -1) : ¬ opn N b d := by
  rcases oq_v N b d with g | g
  · exact g.2
  · omega
theorem oq_y {N : Int → Int} {b d v : Int} (h : v = oq N b d) (hv : ¬ v = -1) : opn N b d ∧ v = nb N b d ∧ 0 ≤ nb N b d := by
  rcases oq_v N b d with g | g
  · omega
  · exact ⟨g.1, h.trans g.2.1, g.2.2⟩
theorem oq_rng {N : Int → Int} {b d : Int} (hw : wf N) (hb : 0 ≤ b ∧ b < N 4 * N 5) (hd : 0 ≤ d ∧ d ≤ 3) : -1 ≤ oq N b d ∧ oq N b d < 25 := by
  have h1 := nb_rng hw hb hd
  have h2 := wf_cr hw
  rcases oq_v N b d with g | g <;> omega
theorem opp_opp {d : Int} (hd : 0 ≤ d ∧ d ≤ 3) : opp (opp d) = d ∧ 0 ≤ opp d ∧ opp d ≤ 3 := by
  rcases d4 hd with rfl | rfl | rfl | rfl <;> decide
theorem nb_sym {N : Int → Int} {a d : Int} (hw : wf N) (ha : 0 ≤ a ∧ a < N 4 * N 5) (hd : 0 ≤ d ∧ d ≤ 3) (h : 0 ≤ nb N a d) : nb N (nb N a d) (opp d) = a ∧ lkm N (nb N a d) (opp d) = lkm N a d := by
  have hc := hw.2.2.2.1
  have h1 := dm hc ha.1
  have h2 := dmr hc ha.1 ha.2
  have hcr := nb_cr hc ha.1 h
  have hn0 := h
  have e1 : nb N (nb N a d) (opp d) = a := by
    rcases d4 hd with rfl | rfl | rfl | rfl
    · have e : nb N a 0 = a + 1 := by unfold nb at h ⊢; rw [if_pos rfl] at h ⊢; split <;> simp_all
      have o : opp 0 = 1 := rfl
      rw [o]; unfold nb; rw [if_neg (by omega), if_pos rfl]
      rw [show (if (0:Int) = 0 then (if a % N 4 + 1 < N 4 then a + 1 else -1) else if (0:Int) = 1 then (if 0 < a % N 4 then a - 1 else -1) else if (0:Int) = 2 then (if a / N 4 + 1 < N 5 then a + N 4 else -1) else (if 0 < a / N 4 then a - N 4 else -1)) = nb N a 0 from rfl]
      rw [if_pos (by omega)]; omega
    · have e : nb N a 1 = a - 1 := by unfold nb at h ⊢; rw [if_neg (by omega), if_pos rfl] at h ⊢; split <;> simp_all
      have o : opp 1 = 0 := rfl
      rw [o]
      show (if (0:Int) = 0 then (if nb N a 1 % N 4 + 1 < N 4 then nb N a 1 + 1 else -1) else _) = a
      rw [if_pos rfl, if_pos (by omega)]; omega
    · have e : nb N a 2 = a + N 4 := by unfold nb at h ⊢; rw [if_neg (by omega), if_neg (by omega), if_pos rfl] at h ⊢; split <;> simp_all
      have o : opp 2 = 3 := rfl
      rw [o]
      show (if (3:Int) = 0 then _ else if (3:Int) = 1 then _ else if (3:Int) = 2 then _ else (if 0 < nb N a 2 / N 4 then nb N a 2 - N 4 else -1)) = a
      rw [if_neg (by omega), if_neg (by omega), if_neg (by omega), if_pos (by omega)]; omega
    · have e : nb N a 3 = a - N 4 := by unfold nb at h ⊢; rw [if_neg (by omega), if_neg (by omega), if_neg (by omega)] at h ⊢; split <;> simp_all
      have o : opp 3 = 2 := rfl
      rw [o]
      show (if (2:Int) = 0 then _ else if (2:Int) = 1 then _ else if (2:Int) = 2 then (if nb N a 3 / N 4 + 1 < N 5 then nb N a 3 + N 4 else -1) else _) = a
      rw [if_neg (by omega), if_neg (by omega), if_pos rfl, if_pos (by omega)]; omega
  refine ⟨e1, ?_⟩
  have hb1 : 0 ≤ nb N (nb N a d) (opp d) := by rw [e1]; exact ha.1
  unfold lkm
  rw [nbm_nn h, nbm_nn hb1, e1]
  rcases d4 hd with rfl | rfl | rfl | rfl <;> simp [opp]
theorem opn_sym {N : Int → Int} {a d : Int} (hw : wf N) (ha : 0 ≤ a ∧ a < N 4 * N 5) (hd : 0 ≤ d ∧ d ≤ 3) (h : opn N a d) : opn N (nb N a d) (opp d) ∧ nb N (nb N a d) (opp d) = a := by
  obtain ⟨e1, e2⟩ := nb_sym hw ha hd h.1
  refine ⟨⟨by rw [e1]; exact ha.1, by rw [e2]; exact h.2⟩, e1⟩
theorem prd_y {N : Int → Int} {x d v u : Int} (hw : wf N) (hx : 0 ≤ x ∧ x < N 4 * N 5) (hd : 0 ≤ d ∧ d ≤ 3) (ho : opn N x (opp d)) (hv : v = nb N x (opp d)) (hu : 0 ≤ u ∧ u ≤ 1) : vsp N (u * 25 + v) ∧ (u * 25 + v) % 25 = v ∧ (u * 25 + v) / 25 = u ∧ opn N v d ∧ nb N v d = x := by
  obtain ⟨o1, o2, o3⟩ := opp_opp hd
  obtain ⟨s1, s2⟩ := opn_sym hw hx ⟨o2, o3⟩ ho
  have hn := nb_rng hw hx ⟨o2, o3⟩
  have hcr := wf_cr hw
  have h0 := ho.1
  rw [o1, ← hv] at s1 s2
  rw [← hv] at hn h0
  refine ⟨⟨by omega, by omega, by omega⟩, by omega, by omega, s1, s2⟩
theorem prd_c {N : Int → Int} {x d z : Int} (hw : wf N) (hz : vsp N z) (hd : 0 ≤ d ∧ d ≤ 3) (ho : opn N (z % 25) d) (hn : nb N (z % 25) d = x) : opn N x (opp d) ∧ nb N x (opp d) = z % 25 := by
  have hz0 := hz.1
  obtain ⟨s1, s2⟩ := opn_sym hw (a := z % 25) ⟨by omega, hz.2.2⟩ hd ho
  rw [hn] at s1 s2
  exact ⟨s1, s2⟩
theorem scq_eq {N : Int → Int} {z d x t : Int} (hx : 0 ≤ x ∧ x < 25) (ht : 0 ≤ t ∧ t ≤ 1) (hn : 0 ≤ nb N (z % 25) d ∧ nb N (z % 25) d < 25) (hz : 0 ≤ z) (h : scq N z d = t * 25 + x) : nb N (z % 25) d = x ∧ (if d = 0 then z / 25 else 1) = t := by
  unfold scq at h
  split at h <;> omega
theorem Py_in {N : Int → Int} {x t z d s : Int} (hw : wf N) (hx : 0 ≤ x ∧ x < N 4 * N 5) (ht : 0 ≤ t ∧ t ≤ 1) (h : Py N (t * 25 + x) s z d) : vsp N z ∧ 0 ≤ d ∧ d ≤ 3 ∧ opn N x (opp d) ∧ nb N x (opp d) = z % 25 ∧ (if d = 0 then z / 25 else 1) = t ∧ ¬ (N 0 = 1 ∧ d = 0 ∧ z / 25 = 1) ∧ d < s := by
  obtain ⟨h1, h2, h3, h4, h5, h6⟩ := h
  have hcr := wf_cr hw
  obtain ⟨k1, k2, k3, k4, k5⟩ := scq_v hw h1 ⟨h2, h3⟩ h4
  obtain ⟨e1, e2⟩ := scq_eq (x := x) (t := t) ⟨hx.1, by omega⟩ ht ⟨k4, by omega⟩ h1.1 h5
  obtain ⟨p1, p2⟩ := prd_c hw h1 ⟨h2, h3⟩ h4.1 e1
  exact ⟨h1, h2, h3, p1, p2, e2, h4.2, h6⟩
theorem Py_0n {N : Int → Int} {x t : Int} (hw : wf N) (hx : 0 ≤ x ∧ x < N 4 * N 5) (ht : 0 ≤ t ∧ t ≤ 1) (h : ¬ opn N x 1 ∨ (N 0 = 1 ∧ t = 1)) : ∀ z d : Int, Py N (t * 25 + x) 1 z d ↔ False := by
  intro z d
  refine ⟨fun g => ?_, fun g => g.elim⟩
  obtain ⟨g1, g2, g3, g4, g5, g6, g7, g8⟩ := Py_in hw hx ht g
  have : d = 0 := by omega
  subst this
  rw [if_pos rfl] at g6
  rcases h with h | h
  · exact h g4
  · exact g7 ⟨h.1, rfl, by omega⟩
theorem Py_0y {N : Int → Int} {x t v : Int} (hw : wf N) (hx : 0 ≤ x ∧ x < N 4 * N 5) (ht : 0 ≤ t ∧ t ≤ 1) (ho : opn N x 1) (hv : v = nb N x 1) (hr : ¬ (N 0 = 1 ∧ t = 1)) : (vsp N (t * 25 + v) ∧ mvq N (t * 25 + v) 0 ∧ scq N (t * 25 + v) 0 = t * 25 + x) ∧ ∀ z d : Int, Py N (t * 25 + x) 1 z d ↔ (False ∨ (z = t * 25 + v ∧ d = 0)) := by
  obtain ⟨p1, p2, p3, p4, p5⟩ := prd_y (d := 0) hw hx (by omega) ho hv ht
  have m : mvq N (t * 25 + v) 0 := ⟨by rw [p2]; exact p4, fun q => hr ⟨q.1, by omega⟩⟩
  have s : scq N (t * 25 + v) 0 = t * 25 + x := by unfold scq; rw [if_pos rfl, p2, p3, p5]; omega
  refine ⟨⟨p1, m, s⟩, fun z d => ⟨fun g => ?_, fun g => ?_⟩⟩
  · obtain ⟨g1, g2, g3, g4, g5, g6, g7, g8⟩ := Py_in hw hx ht g
    have e : d = 0 := by omega
    subst e
    rw [if_pos rfl] at g6
    have : opp 0 = 1 := rfl
    rw [this] at g5
    exact Or.inr ⟨by omega, rfl⟩
  · rcases g with g | ⟨rfl, rfl⟩
    · exact g.elim
    · exact ⟨p1, by omega, by omega, m, s, by omega⟩
theorem Py_sn {N : Int → Int} {x s : Int} (hw : wf N) (hx : 0 ≤ x ∧ x < N 4 * N 5) (hs : 1 ≤ s ∧ s ≤ 3) (h : ¬ opn N x (opp s)) : ∀ z d : Int, Py N (1 * 25 + x) (s + 1) z d ↔ Py N (1 * 25 + x) s z d := by
  intro z d
  refine ⟨fun g => ?_, fun g => ⟨g.1, g.2.1, g.2.2.1, g.2.2.2.1, g.2.2.2.2.1, by have := g.2.2.2.2.2; omega⟩⟩
  obtain ⟨g1, g2, g3, g4, g5, g6, g7, g8⟩ := Py_in hw hx (by omega) g
  refine ⟨g.1, g.2.1, g.2.2.1, g.2.2.2.1, g.2.2.2.2.1, ?_⟩
  by_cases e : d = s
  · subst e; exact absurd g4 h
  · omega
theorem Py_sy {N : Int → Int} {x s v u : Int} (hw : wf N) (hx : 0 ≤ x ∧ x < N 4 * N 5) (hs : 1 ≤ s ∧ s ≤ 3) (ho : opn N x (opp s)) (hv : v = nb N x (opp s)) (hu : 0 ≤ u ∧ u ≤ 1) : vsp N (u * 25 + v) ∧ mvq N (u * 25 + v) s ∧ scq N (u * 25 + v) s = 1 * 25 + x := by
  obtain ⟨p1, p2, p3, p4, p5⟩ := prd_y (d := s) hw hx (by omega) ho hv hu
  have m : mvq N (u * 25 + v) s := ⟨by rw [p2]; exact p4, fun q => by have := q.2.1; omega⟩
  have e : scq N (u * 25 + v) s = 1 * 25 + x := by unfold scq; rw [if_neg (by omega), p2, p5]; omega
  exact ⟨p1, m, e⟩
theorem Py_s2 {N : Int → Int} {x s v : Int} (hw : wf N) (hx : 0 ≤ x ∧ x < N 4 * N 5) (hs : 1 ≤ s ∧ s ≤ 3) (ho : opn N x (opp s)) (hv : v = nb N x (opp s)) : ∀ z d : Int, Py N (1 * 25 + x) (s + 1) z d ↔ ((Py N (1 * 25 + x) s z d ∨ (z = 0 * 25 + v ∧ d = s)) ∨ (z = 1 * 25 + v ∧ d = s)) := by
  have y0 := Py_sy (u := 0) hw hx hs ho hv (by omega)
  have y1 := Py_sy (u := 1) hw hx hs ho hv (by omega)
  intro z d
  refine ⟨fun g => ?_, fun g => ?_⟩
  · obtain ⟨g1, g2, g3, g4, g5, g6, g7, g8⟩ := Py_in hw hx (by omega) g
    by_cases e : d = s
    · subst e
      have := g1.1
      have := g1.2.1
      have hz : z / 25 = 0 ∨ z / 25 = 1 := by omega
      rcases hz with h | h
      · exact Or.inl (Or.inr ⟨by omega, rfl⟩)
      · exact Or.inr ⟨by omega, rfl⟩
    · exact Or.inl (Or.inl ⟨g.1, g.2.1, g.2.2.1, g.2.2.2.1, g.2.2.2.2.1, by omega⟩)
  · rcases g with (g | ⟨rfl, rfl⟩) | ⟨rfl, rfl⟩
    · exact ⟨g.1, g.2.1, g.2.2.1, g.2.2.2.1, g.2.2.2.2.1, by have := g.2.2.2.2.2; omega⟩
    · exact ⟨y0.1, by omega, hs.2, y0.2.1, y0.2.2, by omega⟩
    · exact ⟨y1.1, by omega, hs.2, y1.2.1, y1.2.2, by omega⟩
theorem Py_4 {N : Int → Int} {x t s : Int} (hw : wf N) (hx : 0 ≤ x ∧ x < N 4 * N 5) (ht : 0 ≤ t ∧ t ≤ 1) (hs : 1 ≤ s ∧ s ≤ 4) (h : s = 4 ∨ ¬ t = 1) : ∀ z d : Int, Py N (t * 25 + x) 4 z d ↔ Py N (t * 25 + x) s z d := by
  intro z d
  refine ⟨fun g => ?_, fun g => ⟨g.1, g.2.1, g.2.2.1, g.2.2.2.1, g.2.2.2.2.1, by have := g.2.2.2.2.2; omega⟩⟩
  obtain ⟨g1, g2, g3, g4, g5, g6, g7, g8⟩ := Py_in hw hx ht g
  refine ⟨g.1, g.2.1, g.2.2.1, g.2.2.2.1, g.2.2.2.2.1, ?_⟩
  by_cases e : d = 0
  · omega
  · rw [if_neg e] at g6; omega
theorem prg_0 {N ln nm qu : Int → Int} {to L qd : Int} {C : Int → Int → Prop} (h : bfs N to C L (lof ln to) nm qu qd) : prg N to C (fun _ _ => False) L ln nm qu qd ln nm qu qd :=
  ⟨bfs_cong h (fun x d => ⟨fun g => by rcases g with g | g; exact g; exact g.elim, Or.inl⟩), Int.le_refl _, fun _ _ _ => rfl, fun _ _ _ _ => rfl, fun _ _ _ => rfl, fun _ _ => rfl⟩
theorem bfs_qd {N ln nm qu : Int → Int} {to L qd : Int} {C : Int → Int → Prop} (h : bfs N to C L ln nm qu qd) : 0 ≤ qd ∧ qd ≤ 50 := by
  obtain ⟨-, -, -, -, -, -, -, h8, h9⟩ := h
  have e2 := zS_le (f := fun x => zb (ln x ≠ 1000)) (c := 1) (n := 50) (fun k _ _ => (zb_rng _).2)
  omega
theorem prg_f {N ln0 nm0 qu0 ln nm qu : Int → Int} {to L qd0 qd : Int} {C P : Int → Int → Prop} (hL : 0 ≤ L ∧ L < 100) (h : prg N to C P L ln0 nm0 qu0 qd0 ln nm qu qd) : (0 ≤ qd ∧ qd ≤ 50) ∧ ∀ x : Int, 0 ≤ x → x < 50 → 0 ≤ ln (to * 50 + x) ∧ ln (to * 50 + x) ≤ 1000 := by
  refine ⟨bfs_qd h.1, fun x h0 h1 => ?_⟩
  have := bfs_rng h.1 ⟨h0, h1⟩
  have e : lof ln to x = ln (to * 50 + x) := rfl
  rw [e] at this
  omega
/-- from one spot of the queue to the next -/
theorem prg_next {N l n q l' n' q' : Int → Int} {to L i d d' : Int} (hw : wf N) (hi : 0 ≤ i ∧ i < d) (hne : lof l to (q i) ≠ 1000) (h : prg N to (Cq N q i) (Py N (q i) 4) L l n q d l' n' q' d') : bfs N to (Cq N q' (i + 1)) L (lof l' to) n' q' d' ∧ i + 1 ≤ d' ∧ (i + 1 < d' → lof l to (q i) ≤ lof l' to (q' (i + 1))) := by
  obtain ⟨hb, h2, h3, h4, h5, h6⟩ := h
  have hb0 := hb
  have hv := hb.2.1 i hi.1 (by omega)
  rw [h3 i hi.1 hi.2] at hv
  refine ⟨bfs_cong hb (fun x e => ⟨fun g => ?_, fun g => ?_⟩), by omega, fun hlt => ?_⟩
  · obtain ⟨g1, g2, g3, g4, j, g5, g6, g7⟩ := g
    by_cases hj : j = i
    · subst hj
      rw [h3 j g5 hi.2] at g7
      exact Or.inr ⟨g1, g2, g3, g4, g7.symm, by omega⟩
    · rw [h3 j g5 (by omega)] at g7
      exact Or.inl ⟨g1, g2, g3, g4, j, g5, by omega, g7⟩
  · rcases g with ⟨g1, g2, g3, g4, j, g5, g6, g7⟩ | ⟨g1, g2, g3, g4, g5, g6⟩
    · exact ⟨g1, g2, g3, g4, j, g5, by omega, by rw [h3 j g5 (by omega)]; exact g7⟩
    · exact ⟨g1, g2, g3, g4, i, hi.1, by omega, by rw [h3 i hi.1 hi.2]; exact g5.symm⟩
  · have hs := (hb0.2.2.1 i (i + 1) hi.1 (by omega) hlt).2
    rw [h3 i hi.1 hi.2] at hs
    rw [h4 (q i) hv.1.1 hv.1.2.1 hne] at hs
    exact hs
theorem bfs_mono {N ln nm qu : Int → Int} {to L L' qd : Int} {C : Int → Int → Prop} (h : bfs N to C L ln nm qu qd) (hL : L ≤ L') : bfs N to C L' ln nm qu qd := by
  obtain ⟨h1, h2, h3, h4, h5, h6, h7, h8⟩ := h
  refine ⟨h1, fun j a b => ?_, h3, fun x d c => ?_, h5, h6, h7, h8⟩
  · obtain ⟨g1, g2, g3, g4⟩ := h2 j a b
    exact ⟨g1, g2, by omega, g4⟩
  · obtain ⟨g1, g2, g3, g4, g5, g6⟩ := h4 x d c
    exact ⟨g1, g2, g3, g4, g5, by omega⟩
/-- the beginning of a search -/
theorem bfs_init {N ln nm qu l1 n1 q1 l2 n2 q2 l3 n3 q3 : Int → Int} {to d1 d2 d3 : Int} (hw : wf N) (ht : 0 ≤ to ∧ to < N 4 * N 5) (hl : l1 = zcp ln (fun _ => 1000) (to * 50) 50) (hn : n1 = zcp nm (fun _ => 0) 0 50) (hd : d1 = 0)
    (r1 : rch to (0 * 25 + to) 0 1 l1 n1 q1 d1 l2 n2 q2 d2) (r2 : rch to (1 * 25 + to) 0 1 l2 n2 q2 d2 l3 n3 q3 d3) : bfs N to (Cq N q3 0) 0 (lof l3 to) n3 q3 d3 ∧ ∀ i : Int, i < to * 50 ∨ to * 50 + 50 ≤ i → l3 i = ln i := by
  have hcr := wf_cr hw
  have e1 : ∀ x : Int, 0 ≤ x → x < 50 → l1 (to * 50 + x) = 1000 := fun x a b => by rw [hl, zcp_in (by omega)]
  have en : ∀ x : Int, 0 ≤ x → x < 50 → n1 x = 0 := fun x a b => by rw [hn, zcp_in (by omega)]
  have eo : ∀ i : Int, i < to * 50 ∨ to * 50 + 50 ≤ i → l1 i = ln i := fun i h => by rw [hl, zcp_out h]
  obtain ⟨ra, rb⟩ := r1
  have ka := e1 (0 * 25 + to) (by omega) (by omega)
  rcases ra with ⟨-, a2, rfl, rfl, rfl⟩ | ⟨a1, -⟩
  · rcases rb with ⟨-, rfl⟩ | ⟨b1, -⟩
    · obtain ⟨ra, rb⟩ := r2
      have kb : zu l1 (to * 50 + (0 * 25 + to)) 0 (to * 50 + (1 * 25 + to)) = 1000 := by rw [zu_n (by omega)]; exact e1 _ (by omega) (by omega)
      rcases ra with ⟨-, a2, rfl, rfl, rfl⟩ | ⟨a1, -⟩
      · rcases rb with ⟨-, rfl⟩ | ⟨b1, -⟩
        · have ll : ∀ x : Int, 0 ≤ x → x < 50 → lof (zu (zu l1 (to * 50 + (0 * 25 + to)) 0) (to * 50 + (1 * 25 + to)) 0) to x = if x = to ∨ x = 25 + to then 0 else 1000 := by
            intro x a b
            rw [lof_zu, lof_zu]
            unfold zu lof
            by_cases h1 : x = 1 * 25 + to
            · rw [if_pos h1, if_pos (by omega)]
            · rw [if_neg h1]
              by_cases h2 : x = 0 * 25 + to
              · rw [if_pos h2, if_pos (by omega)]
              · rw [if_neg h2, if_neg (by omega)]; exact e1 x a b
          have nn : ∀ x : Int, 0 ≤ x → x < 50 → zu (zu n1 (0 * 25 + to) (n1 (0 * 25 + to) + 1)) (1 * 25 + to) (zu n1 (0 * 25 + to) (n1 (0 * 25 + to) + 1) (1 * 25 + to) + 1) x = if x = to ∨ x = 25 + to then 1 else 0 := by
            intro x a b
            unfold zu
            by_cases h1 : x = 1 * 25 + to
            · rw [if_pos h1, if_neg (by omega), en _ (by omega) (by omega), if_pos (by omega)]; rfl
            · rw [if_neg h1]
              by_cases h2 : x = 0 * 25 + to
              · rw [if_pos h2, en _ (by omega) (by omega), if_pos (by omega)]; rfl
              · rw [if_neg h2, if_neg (by omega)]; exact en x a b
          have qq : ∀ j : Int, 0 ≤ j → j < d1 + 1 + 1 → zu (zu q1 d1 (0 * 25 + to)) (d1 + 1) (1 * 25 + to) j = if j = 0 then to else 25 + to := by
            intro j a b
            subst hd
            unfold zu
            by_cases h1 : j = 0 + 1
            · rw [if_pos h1, if_neg (by omega)]; omega
            · rw [if_neg h1, if_pos (by omega), if_pos (by omega)]; omega
          have noC : ∀ x d : Int, ¬ Cq N (zu (zu q1 d1 (0 * 25 + to)) (d1 + 1) (1 * 25 + to)) 0 x d := fun x d h => by obtain ⟨-, -, -, -, j, g1, g2, -⟩ := h; omega
          refine ⟨⟨fun x a b => ?_, fun j a b => ?_, fun j k a b c => ?_, fun x d h => absurd h (noC x d), fun x hx h1 h2 => ?_, fun x hx => ?_, fun x hx h => ?_, by omega, ?_⟩, fun i hi => ?_⟩
          · rw [ll x a b]
            by_cases h : x = to ∨ x = 25 + to
            · refine Or.inr ⟨⟨a, b, by omega⟩, (if x = to then 0 else 1), by split <;> omega, by split <;> omega, ?_⟩
              rw [qq _ (by split <;> omega) (by split <;> omega)]
              by_cases h2 : x = to
              · rw [if_pos h2, if_pos rfl]; exact h2.symm
              · rw [if_neg h2, if_neg (by decide)]; omega
            · exact Or.inl (if_neg h)
          · obtain ⟨w, ew, hw2⟩ : ∃ w, w = (if j = 0 then to else 25 + to) ∧ (w = to ∨ w = 25 + to) := ⟨_, rfl, by split <;> simp⟩
            rw [qq j a b, ← ew, ll w (by omega) (by omega), if_pos hw2]
            exact ⟨⟨by omega, by omega, by omega⟩, Int.le_refl 0, by decide, a⟩
          · have hj : j = 0 := by subst hd; omega
            rw [qq j a (by omega), qq k (by omega) c, if_pos hj, if_neg (by omega : ¬ k = 0), ll to (by omega) (by omega), ll (25 + to) (by omega) (by omega), if_pos (Or.inl rfl), if_pos (Or.inr rfl)]
            exact ⟨by omega, Int.le_refl 0⟩
          · rw [ll x hx.1 hx.2.1] at h1
            have hxx := hx.1
            by_cases h : x = to ∨ x = 25 + to
            · omega
            · rw [if_neg h] at h1; exact absurd rfl h1
          · rw [nn x hx.1 hx.2.1]
            have hxx := hx.1
            have hx2 := hx.2.1
            by_cases h : x % 25 = to
            · rw [if_pos h, if_pos (by omega)]
            · rw [if_neg h, if_neg (by omega), zS4]
              have k : ∀ d : Int, nmf N (lof (zu (zu l1 (to * 50 + (0 * 25 + to)) 0) (to * 50 + (1 * 25 + to)) 0) to) (zu (zu n1 (0 * 25 + to) (n1 (0 * 25 + to) + 1)) (1 * 25 + to) (zu n1 (0 * 25 + to) (n1 (0 * 25 + to) + 1) (1 * 25 + to) + 1)) (Cq N (zu (zu q1 d1 (0 * 25 + to)) (d1 + 1) (1 * 25 + to)) 0) x d = 0 := fun d => zif_f (fun w => noC x d w.1)
              rw [k 0, k 1, k 2, k 3]; rfl
          · have hxx := hx.1
            have hx2 := hx.2.1
            rw [ll x hx.1 hx.2.1, if_pos (by omega)]
          · have e5 : zS (fun x => zb (lof (zu (zu l1 (to * 50 + (0 * 25 + to)) 0) (to * 50 + (1 * 25 + to)) 0) to x ≠ 1000)) 50 = zS (zu (zu (fun _ => 0) to 1) (25 + to) 1) 50 := by
              refine zS_cong (n := 50) (fun x a b => ?_)
              rw [ll x a (by omega)]
              unfold zu
              by_cases h1 : x = 25 + to
              · rw [if_pos h1, if_pos (by omega)]; exact zb_t (by decide)
              · rw [if_neg h1]
                by_cases h2 : x = to
                · rw [if_pos h2, if_pos (by omega)]; exact zb_t (by decide)
                · rw [if_neg h2, if_neg (by omega)]; exact zb_f (fun z => z rfl)
            rw [e5, zS_zu (by omega) (by omega), zS_zu (by omega) (by omega), zu_n (by omega), hd]
            have e6 : zS (fun _ => 0) 50 = 0 := by decide
            omega
          · rw [zu_n (by omega), zu_n (by omega)]; exact eo i hi
        · omega
      · exact absurd ⟨kb, by omega⟩ a1
    · omega
  · exact absurd ⟨ka, by omega⟩ a1
/-- the end of a search: every spot of the queue has been looked at -/
theorem bfs_end {N ln nm qu : Int → Int} {to L qd : Int} (hw : wf N) (h : bfs N to (Cq N qu qd) L ln nm qu qd) : ∀ x : Int, vsp N x → lqo N to x (ln x) ∧ (ln x ≠ 1000 → nm x = wq N to (ln x).toNat x) := by
  have hq := bfs_qd h
  obtain ⟨h1, h2, h3, h4, h5, h6, h7, -, -⟩ := id h
  have rg : ∀ x : Int, vsp N x → ln x = 1000 ∨ (0 ≤ ln x ∧ ln x < 50) := by
    intro x hx
    rcases h1 x hx.1 hx.2.1 with g | ⟨g1, j, g2, g3, g4⟩
    · exact Or.inl g
    · have := h2 j g2 g3
      rw [g4] at this
      exact Or.inr ⟨this.2.1, by omega⟩
  have inC : ∀ x d : Int, vsp N x → 0 ≤ d → d ≤ 3 → mvq N x d → ln (scq N x d) ≠ 1000 → Cq N qu qd x d := by
    intro x d hx d0 d1 hm hl
    have hv := (scq_v hw hx ⟨d0, d1⟩ hm).1
    rcases h1 _ hv.1 hv.2.1 with g | ⟨g1, j, g2, g3, g4⟩
    · exact absurd g hl
    · exact ⟨hx, d0, d1, hm, j, g2, g3, g4⟩
  have far : ∀ (m : Nat) (x : Int), vsp N x → ln x = 1000 → wq N to m x = 0 := by
    intro m
    induction m with
    | zero =>
      intro x hx hl
      rw [wq, if_neg]
      intro e
      have := h7 x hx e
      omega
    | succ m ih =>
      intro x hx hl
      rw [wq]
      split
      · rfl
      · have key : ∀ d : Int, 0 ≤ d ∧ d ≤ 3 → wqf N x (wq N to m) d = 0 := by
          intro d hd
          unfold wqf
          by_cases hm : mvq N x d
          · rw [zif_t hm]
            have hv := (scq_v hw hx hd hm).1
            refine ih _ hv ?_
            rcases rg _ hv with g | g
            · exact g
            · have := (h4 x d (inC x d hx hd.1 hd.2 hm (by omega))).2.2.2.2.1
              omega
          · rw [zif_f hm]
        rw [zS4, key 0 (by omega), key 1 (by omega), key 2 (by omega), key 3 (by omega)]; rfl
  have key : ∀ (m : Nat) (x : Int), m < 1000 → vsp N x → (ln x = (m : Int) → wq N to m x = nm x ∧ 0 < nm x) ∧ ((m : Int) < ln x → wq N to m x = 0) := by
    intro m
    induction m with
    | zero =>
      intro x hm hx
      refine ⟨fun hl => ?_, fun hl => ?_⟩
      · have hto : x % 25 = to := by
          by_cases e : x % 25 = to
          · exact e
          · obtain ⟨d, g1, g2⟩ := h5 x hx (by omega) e
            obtain ⟨-, d0, d1, hmv, -, -⟩ := h4 x d g1
            have := rg _ (scq_v hw hx ⟨d0, d1⟩ hmv).1
            omega
        rw [wq, if_pos hto, h6 x hx, if_pos hto]
        exact ⟨rfl, by decide⟩
      · rw [wq, if_neg]
        intro e
        have := h7 x hx e
        omega
    | succ m ih =>
      intro x hm hx
      refine ⟨fun hl => ?_, fun hl => ?_⟩
      · have hto : ¬ x % 25 = to := fun e => by have := h7 x hx e; omega
        have terms : ∀ d : Int, 0 ≤ d ∧ d ≤ 3 → wqf N x (wq N to m) d = nmf N ln nm (Cq N qu qd) x d := by
          intro d hd
          unfold wqf nmf
          by_cases hmv : mvq N x d
          · rw [zif_t hmv]
            have hv := (scq_v hw hx hd hmv).1
            have ihd := ih (scq N x d) (by omega) hv
            by_cases hl2 : ln (scq N x d) = (m : Int)
            · rw [zif_t ⟨inC x d hx hd.1 hd.2 hmv (by omega), by omega⟩]
              exact (ihd.1 hl2).1
            · rw [zif_f (fun w => hl2 (by have := w.2; omega))]
              apply ihd.2
              rcases rg _ hv with g | g
              · omega
              · have := (h4 x d (inC x d hx hd.1 hd.2 hmv (by omega))).2.2.2.2.1
                omega
          · rw [zif_f hmv, zif_f (fun w => hmv w.1.2.2.2.1)]
        have e1 : nm x = zS (nmf N ln nm (Cq N qu qd) x) 4 := by rw [h6 x hx, if_neg hto]
        have e2 : wq N to (m + 1) x = zS (wqf N x (wq N to m)) 4 := by rw [wq, if_neg hto]
        refine ⟨by rw [e1, e2]; exact zS4g terms, ?_⟩
        obtain ⟨d, g1, g2⟩ := h5 x hx (by omega) hto
        obtain ⟨-, d0, d1, hmv, -, -⟩ := h4 x d g1
        have hv := (scq_v hw hx ⟨d0, d1⟩ hmv).1
        have hp := ((ih (scq N x d) (by omega) hv).1 (by omega)).2
        have t : nmf N ln nm (Cq N qu qd) x d = nm (scq N x d) := zif_t ⟨g1, g2⟩
        have nn : ∀ e : Int, 0 ≤ e ∧ e ≤ 3 → 0 ≤ nmf N ln nm (Cq N qu qd) x e := by
          intro e he
          rw [← terms e he]
          unfold wqf
          by_cases q : mvq N x e
          · rw [zif_t q]; exact wq_nn N to m _
          · rw [zif_f q]; exact Int.le_refl 0
        have n0 := nn 0 (by omega)
        have n1 := nn 1 (by omega)
        have n2 := nn 2 (by omega)
        have n3 := nn 3 (by omega)
        rw [e1, zS4]
        rcases d4 ⟨d0, d1⟩ with rfl | rfl | rfl | rfl <;> omega
      · rw [wq]
        split
        · rfl
        · have k : ∀ d : Int, 0 ≤ d ∧ d ≤ 3 → wqf N x (wq N to m) d = 0 := by
            intro d hd
            unfold wqf
            by_cases hmv : mvq N x d
            · rw [zif_t hmv]
              have hv := (scq_v hw hx hd hmv).1
              refine (ih _ (by omega) hv).2 ?_
              rcases rg _ hv with g | g
              · omega
              · have := (h4 x d (inC x d hx hd.1 hd.2 hmv (by omega))).2.2.2.2.1
                omega
            · rw [zif_f hmv]
          rw [zS4, k 0 (by omega), k 1 (by omega), k 2 (by omega), k 3 (by omega)]; rfl
  intro x hx
  rcases rg x hx with g | g
  · exact ⟨Or.inl ⟨g, fun m => far m x hx g⟩, fun e => absurd g e⟩
  · obtain ⟨m, hm⟩ : ∃ m : Nat, ln x = (m : Int) := ⟨(ln x).toNat, by omega⟩
    have km := (key m x (by omega) hx).1 hm
    refine ⟨Or.inr ⟨m, hm, by omega, by rw [km.1]; exact km.2, fun j hj => (key j x (by omega) hx).2 (by omega)⟩, fun _ => ?_⟩
    rw [hm, Int.toNat_natCast]
    exact km.1.symm
theorem Py_snt {N : Int → Int} {x s t : Int} (h1 : t = 1) (hw : wf N) (hx : 0 ≤ x ∧ x < N 4 * N 5) (hs : 1 ≤ s ∧ s ≤ 3) (h : ¬ opn N x (opp s)) : ∀ z d : Int, Py N (t * 25 + x) (s + 1) z d ↔ Py N (t * 25 + x) s z d := by
  subst h1
  exact Py_sn hw hx hs h
theorem Py_syt {N : Int → Int} {x s v u t : Int} (h1 : t = 1) (hw : wf N) (hx : 0 ≤ x ∧ x < N 4 * N 5) (hs : 1 ≤ s ∧ s ≤ 3) (ho : opn N x (opp s)) (hv : v = nb N x (opp s)) (hu : 0 ≤ u ∧ u ≤ 1) : vsp N (u * 25 + v) ∧ mvq N (u * 25 + v) s ∧ scq N (u * 25 + v) s = t * 25 + x := by
  subst h1
  exact Py_sy hw hx hs ho hv hu
theorem Py_s2t {N : Int → Int} {x s v t : Int} (h1 : t = 1) (hw : wf N) (hx : 0 ≤ x ∧ x < N 4 * N 5) (hs : 1 ≤ s ∧ s ≤ 3) (ho : opn N x (opp s)) (hv : v = nb N x (opp s)) : ∀ z d : Int, Py N (t * 25 + x) (s + 1) z d ↔ ((Py N (t * 25 + x) s z d ∨ (z = 0 * 25 + v ∧ d = s)) ∨ (z = 1 * 25 + v ∧ d = s)) := by
  subst h1
  exact Py_s2 hw hx hs ho hv
