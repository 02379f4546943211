/-! for the calls of the class -/
theorem wf_set {N : Int → Int} {i v : Int} (hw : wf N) (h : okS i v) : wf (zu N i v) := by
  obtain ⟨w0, w1, w2, hc, hr, w6, wl, wp⟩ := hw
  have hi : 0 ≤ i ∧ i ≤ 2 := by unfold okS at h; omega
  have lo : ∀ k : Int, 3 ≤ k → zu N i v k = N k := fun k hk => zu_n (by omega)
  have pkx : ∀ x j : Int, 0 ≤ x → 0 ≤ j → pk (zu N i v) x j = pk N x j := fun x j hx hj => zu_n (by omega)
  unfold wf
  rw [lo 4 (by omega), lo 5 (by omega), lo 6 (by omega)]
  refine ⟨?_, ?_, ?_, hc, hr, w6, fun k h1 h2 => by rw [lo k (by omega)]; exact wl k h1 h2, fun x h1 h2 => ?_⟩
  · unfold okS at h; unfold zu; split <;> omega
  · unfold okS at h; unfold zu; split <;> omega
  · unfold okS at h; unfold zu; split <;> omega
  · have hx := wp x h1 h2
    rw [pkx x 0 h1 (by omega), pkx x 1 h1 (by omega), pkx x 2 h1 (by omega), pkx x 3 h1 (by omega), pkx x 5 h1 (by omega), pkx x 9 h1 (by omega)]
    exact hx
theorem msh_v {N : Int → Int} {c r j : Int} : mshN N c r j = if 10 ≤ j ∧ j < 60 then 0 else if j = 5 then r else if j = 4 then c else N j := by
  by_cases h : 10 ≤ j ∧ j < 60
  · rw [if_pos h]; exact zcp_in (by omega)
  · rw [if_neg h]
    have e : mshN N c r j = zu (zu N 4 c) 5 r j := zcp_out (by omega)
    rw [e]; rfl
theorem wf_msh {N : Int → Int} {c r : Int} (hw : wf N) (h6 : N 6 ≤ 0) (hl : okL c r) : wf (mshN N c r) := by
  obtain ⟨w0, w1, w2, hc, hr, w6, wl, wp⟩ := hw
  unfold wf
  have lo : ∀ k : Int, 0 ≤ k → k < 10 → k ≠ 4 → k ≠ 5 → mshN N c r k = N k := fun k h0 h1 h2 h3 => by rw [msh_v, if_neg (by omega), if_neg h3, if_neg h2]
  rw [lo 0 (by omega) (by omega) (by omega) (by omega), lo 1 (by omega) (by omega) (by omega) (by omega), lo 2 (by omega) (by omega) (by omega) (by omega), lo 6 (by omega) (by omega) (by omega) (by omega)]
  have e4 : mshN N c r 4 = c := by rw [msh_v, if_neg (by omega), if_neg (by omega), if_pos rfl]
  have e5 : mshN N c r 5 = r := by rw [msh_v, if_neg (by omega), if_pos rfl]
  rw [e4, e5]
  exact ⟨w0, w1, w2, hl.1, hl.2, w6, fun k h1 h2 => by rw [msh_v, if_pos ⟨h1, h2⟩]; decide, fun p h0 h1 => absurd h1 (by omega)⟩
theorem wys {N op ln : Int → Int} {ef a b : Int} (hw : wf N) (hok : rOK N ef op ln) (ha : isB N a) (hb : isB N b) : (fr N b (10 * a) = -6 → mn N b (10 * a) = 0) ∧ (fr N b (10 * a) ≠ -6 → ln (b * 50 + a) ≠ 1000 ∧ mn N b (10 * a) = wq N b (ln (b * 50 + a)).toNat a) := by
  have hcr := wf_cr hw
  have hf := (wl_fr hw hok ha hb).1
  unfold isB at ha hb
  have hd := dist_le hw ha hb
  have w1 := hw.2.1
  rw [show b * 50 + (0 * 25 + a) = b * 50 + a by omega] at hf
  refine ⟨fun h => ?_, fun h => ?_⟩
  · rcases ldn_fr N b (10 * a) with ⟨k, _, e, _⟩ | ⟨_, _, e⟩
    · omega
    · exact e
  · have hv : vsp N a := ⟨by omega, by omega, by omega⟩
    rcases hok.2 b a hb.1 hb.2 hv with ⟨e, _⟩ | ⟨m, e, hm, h1, h2⟩
    · rw [e, if_neg (by omega)] at hf; exact absurd hf h
    · have hs : spo (10 * a) = a := by unfold spo; omega
      have hc : (m : Int) ≤ dist N (10 * a / 10) b + 2 * max 0 (N 1 - 10 * a % 5) := by
        rw [show 10 * a / 10 = a by omega, show 10 * a % 5 = 0 by omega]
        rw [e] at hf
        by_cases g : (m : Int) ≤ dist N a b + 2 * N 1
        · omega
        · rw [if_neg g] at hf; exact absurd hf h
      refine ⟨by omega, ?_⟩
      rw [e, Int.toNat_natCast]
      have := lqo_mn (m := m) hw hb (s := 10 * a) (by omega) (by rw [hs]; exact h1) (by rw [hs]; exact h2) hc
      rw [this, hs]
theorem lkE_0 {N : Int → Int} {b d w : Int} : (lkE N b d w = 0 ↔ lnkQ N b d w) ∧ (¬ lkE N b d w = 0 → lkE N b d w < 0 ∧ lkE N b d w = lnkR N b d w) := by
  unfold lkE lnkR lnkQ
  by_cases h1 : badK N b d
  · rw [zif_t h1, zif_f (fun z => z.1 h1)]
    refine ⟨⟨fun z => absurd z (by decide), fun z => absurd h1 z.1⟩, fun _ => ⟨by decide, by rw [zif_t h1]⟩⟩
  · rw [zif_f h1]
    by_cases h2 : (0 ≤ d ∧ d ≤ 3) ∧ 0 ≤ w ∧ w ≤ 1
    · rw [zif_t h2, zif_t ⟨h1, h2⟩]
      exact ⟨⟨fun _ => ⟨h1, h2⟩, fun _ => rfl⟩, fun z => absurd rfl z⟩
    · rw [zif_f h2, zif_f (fun z => h2 z.2)]
      exact ⟨⟨fun z => absurd z (by decide), fun z => absurd z.2 h2⟩, fun _ => ⟨by decide, by rw [zif_f h1]⟩⟩
theorem bad_not {N : Int → Int} {b d : Int} (hd : 0 ≤ d ∧ d ≤ 3) (h : ¬ badK N b d) : isB N b ∧ 0 ≤ nb N b d := by
  unfold badK at h
  have hb : isB N b := Classical.byContradiction (fun z => h (Or.inl z))
  refine ⟨hb, ?_⟩
  have : ¬ nb N b d < 0 := fun z => h (Or.inr ⟨hd.1, hd.2, z⟩)
  omega
theorem bst_ext {N : Int → Int} {n : Nat} (hm : mvOK N) (hz : ∀ k : Int, (n : Int) < k → k < 100 → N (60 + k) = 0) : ∀ m : Nat, n ≤ m → m ≤ 99 → bst N m = bst N n
  | 0, h, _ => by rw [show n = 0 by omega]
  | m + 1, h, h9 => by
    by_cases e : n = m + 1
    · rw [e]
    · have ih := bst_ext hm hz m (by omega) (by omega)
      have hr := bst_rng N n
      have h1 := hm (bst N n) (by omega) (by omega)
      have h2 := hz ((m : Int) + 1) (by omega) (by omega)
      show (if N (60 + bst N m) < N (60 + ((m : Int) + 1)) then ((m : Int) + 1) else bst N m) = _
      rw [ih, if_neg (by rw [h2]; omega)]
theorem pcN_rng (a : Int) : 0 ≤ pcN a ∧ pcN a ≤ 8 := by
  by_cases h : ∃ n, pcK a n
  · obtain ⟨n, hn⟩ := h
    rw [pcN_yes hn]
    have := hn.1
    have := hn.2.1
    omega
  · rw [pcN_no (fun n hn => h ⟨n, hn⟩)]
    decide
theorem wlF_pr {N : Int → Int} : ∀ n : Nat, 0 ≤ (wlF N n).1 → (wlF N n).2 = prB N (wlF N n).1
  | 0, h => absurd (show (0 : Int) ≤ -1 from h) (by decide)
  | n + 1, h => by
    have ih := wlF_pr (N := N) n
    have e : wlF N (n + 1) = wlS N n (wlF N n) := rfl
    rw [e] at h ⊢
    by_cases ho : opn N ((n : Int) / 2) (2 * ((n : Int) % 2))
    · rw [wlS_yes ho] at h ⊢
      by_cases hc : (wlF N n).1 < 0 ∨ prB N n < (wlF N n).2
      · rw [if_pos hc]
      · rw [if_neg hc] at h ⊢; exact ih h
    · rw [wlS_no ho] at h ⊢; exact ih h
theorem ord_s1 {N : Int → Int} {k a b : Int} (hk : k = 115) (h : sndE N a b = 0) : ordR N k a b = N 6 ∧ ordM N k a b = sndN N a b := by
  unfold ordR ordM sndR sndM; rw [if_pos hk, if_pos hk, zif_t h, zff_t h]; exact ⟨rfl, rfl⟩
theorem ord_s0 {N : Int → Int} {k a b : Int} (hk : k = 115) (h : ¬ sndE N a b = 0) : ordR N k a b < 0 ∧ ordM N k a b = N := by
  have hc := sndE_cases N a b
  unfold ordR ordM sndR sndM; rw [if_pos hk, if_pos hk, zif_f h, zff_f h]; exact ⟨by omega, rfl⟩
theorem ord_l1 {N : Int → Int} {k a b w : Int} (hk : (k = 98 ∧ w = 0) ∨ (k = 109 ∧ w = 1)) (h : lnkQ N a b w) : ordR N k a b = 1 - N (lkm N a b) ∧ ordM N k a b = zu N (lkm N a b) (1 - w) := by
  unfold ordR ordM
  rcases hk with ⟨hk, rfl⟩ | ⟨hk, rfl⟩
  · rw [if_neg (show ¬ k = 115 by omega), if_neg (show ¬ k = 115 by omega), if_pos hk, if_pos hk]
    unfold lnkR lnkM; rw [zif_t h, zff_t h]; exact ⟨rfl, rfl⟩
  · rw [if_neg (show ¬ k = 115 by omega), if_neg (show ¬ k = 115 by omega), if_neg (show ¬ k = 98 by omega), if_neg (show ¬ k = 98 by omega), if_pos hk, if_pos hk]
    unfold lnkR lnkM; rw [zif_t h, zff_t h]; exact ⟨rfl, rfl⟩
theorem lnkR_neg {N : Int → Int} {a b w : Int} (h : ¬ lnkQ N a b w) : lnkR N a b w < 0 := by
  unfold lnkR; rw [zif_f h]
  by_cases e : badK N a b
  · rw [zif_t e]; decide
  · rw [zif_f e]; decide
theorem ord_l0 {N : Int → Int} {k a b w : Int} (hk : (k = 98 ∧ w = 0) ∨ (k = 109 ∧ w = 1)) (h : ¬ lnkQ N a b w) : ordR N k a b < 0 ∧ ordM N k a b = N := by
  have hn := lnkR_neg h
  unfold ordR ordM
  rcases hk with ⟨hk, rfl⟩ | ⟨hk, rfl⟩
  · rw [if_neg (show ¬ k = 115 by omega), if_neg (show ¬ k = 115 by omega), if_pos hk, if_pos hk]
    unfold lnkM; rw [zff_f h]; exact ⟨hn, rfl⟩
  · rw [if_neg (show ¬ k = 115 by omega), if_neg (show ¬ k = 115 by omega), if_neg (show ¬ k = 98 by omega), if_neg (show ¬ k = 98 by omega), if_pos hk, if_pos hk]
    unfold lnkM; rw [zff_f h]; exact ⟨hn, rfl⟩
theorem ord_t1 {N : Int → Int} {k a b : Int} (hk : k = 116) (h : 1 ≤ a ∧ a ≤ 300) : ordR N k a b = N 3 + a ∧ ordM N k a b = tkN N a.toNat := by
  unfold ordR ordM
  rw [if_neg (show ¬ k = 115 by omega), if_neg (show ¬ k = 115 by omega), if_neg (show ¬ k = 98 by omega), if_neg (show ¬ k = 98 by omega), if_neg (show ¬ k = 109 by omega), if_neg (show ¬ k = 109 by omega)]
  unfold tckR tckM; rw [zif_t h, zff_t h]; exact ⟨rfl, rfl⟩
theorem ord_t0 {N : Int → Int} {k a b : Int} (hk : k = 116) (h : ¬ (1 ≤ a ∧ a ≤ 300)) : ordR N k a b < 0 ∧ ordM N k a b = N := by
  unfold ordR ordM
  rw [if_neg (show ¬ k = 115 by omega), if_neg (show ¬ k = 115 by omega), if_neg (show ¬ k = 98 by omega), if_neg (show ¬ k = 98 by omega), if_neg (show ¬ k = 109 by omega), if_neg (show ¬ k = 109 by omega)]
  unfold tckR tckM; rw [zif_f h, zff_f h]; exact ⟨by decide, rfl⟩
theorem ords_at3 {P k3 f3 s3 : Int → Int} {ln r j : Int} (hpd : padOK P ln) (h : ordsOK P ln r k3 f3 s3) (h0 : 0 ≤ j) (h1 : j < r) (N : Int → Int) :
    (k3 j = 115 ∨ k3 j = 98 ∨ k3 j = 109 ∨ k3 j = 116) ∧ (0 ≤ f3 j ∧ f3 j ≤ 99) ∧ (¬ k3 j = 116 → -2147483648 ≤ s3 j ∧ s3 j < 2147483648) ∧
    ordR N (k3 j) (f3 j) (s3 j) = ordR N (oK P ln j) (oF P ln j) (oS P ln j) ∧ ordM N (k3 j) (f3 j) (s3 j) = ordM N (oK P ln j) (oF P ln j) (oS P ln j) := by
  let od : Int → Int := fun x => if x % 3 = 0 then k3 (x / 3) else if x % 3 = 1 then f3 (x / 3) else s3 (x / 3)
  have e0 : ∀ j : Int, od (3 * j) = k3 j := fun j => by
    show (if 3 * j % 3 = 0 then k3 (3 * j / 3) else if 3 * j % 3 = 1 then f3 (3 * j / 3) else s3 (3 * j / 3)) = _
    rw [if_pos (by omega), show 3 * j / 3 = j by omega]
  have e1 : ∀ j : Int, od (3 * j + 1) = f3 j := fun j => by
    show (if (3 * j + 1) % 3 = 0 then k3 ((3 * j + 1) / 3) else if (3 * j + 1) % 3 = 1 then f3 ((3 * j + 1) / 3) else s3 ((3 * j + 1) / 3)) = _
    rw [if_neg (by omega), if_pos (by omega), show (3 * j + 1) / 3 = j by omega]
  have e2 : ∀ j : Int, od (3 * j + 2) = s3 j := fun j => by
    show (if (3 * j + 2) % 3 = 0 then k3 ((3 * j + 2) / 3) else if (3 * j + 2) % 3 = 1 then f3 ((3 * j + 2) / 3) else s3 ((3 * j + 2) / 3)) = _
    rw [if_neg (by omega), if_neg (by omega), show (3 * j + 2) / 3 = j by omega]
  have hh : ordsOK P ln r (ord0 od) (ord1 od) (ord2 od) := by
    have a0 : ord0 od = k3 := funext e0
    have a1 : ord1 od = f3 := funext e1
    have a2 : ord2 od = s3 := funext e2
    rw [a0, a1, a2]; exact h
  have := ords_at hpd hh h0 h1 N
  rw [e0, e1, e2] at this
  exact this
theorem lkE_c (N : Int → Int) (b d w : Int) : lkE N b d w = 0 ∨ lkE N b d w = -1 ∨ lkE N b d w = -2 := by
  unfold lkE
  by_cases h1 : badK N b d
  · rw [zif_t h1]; exact Or.inr (Or.inl rfl)
  · rw [zif_f h1]
    by_cases h2 : (0 ≤ d ∧ d ≤ 3) ∧ 0 ≤ w ∧ w ≤ 1
    · rw [zif_t h2]; exact Or.inl rfl
    · rw [zif_f h2]; exact Or.inr (Or.inr rfl)
