/-! one way noted, in the program's rows and in the search -/
def rch (to x len wy : Int) (ln nm qu : Int → Int) (qd : Int) (ln' nm' qu' : Int → Int) (qd' : Int) : Prop :=
  ((ln (to * 50 + x) = 1000 ∧ qd < 50 ∧ ln' = zu ln (to * 50 + x) len ∧ qu' = zu qu qd x ∧ qd' = qd + 1) ∨ (¬ (ln (to * 50 + x) = 1000 ∧ qd < 50) ∧ ln' = ln ∧ qu' = qu ∧ qd' = qd)) ∧
  ((len ≤ ln (to * 50 + x) ∧ nm' = zu nm x (nm x + wy)) ∨ (ln (to * 50 + x) < len ∧ nm' = nm))
def lof (ln : Int → Int) (to : Int) : Int → Int := fun x => ln (to * 50 + x)
theorem lof_zu {ln : Int → Int} {to x v : Int} : lof (zu ln (to * 50 + x) v) to = zu (lof ln to) x v := by
  funext z
  unfold lof zu
  by_cases h : z = x
  · rw [if_pos h, if_pos (by omega)]
  · rw [if_neg h, if_neg (by omega)]
def prg (N : Int → Int) (to : Int) (C P : Int → Int → Prop) (L : Int) (ln0 nm0 qu0 : Int → Int) (qd0 : Int) (ln nm qu : Int → Int) (qd : Int) : Prop :=
  bfs N to (fun x d => C x d ∨ P x d) L (lof ln to) nm qu qd ∧ qd0 ≤ qd ∧ (∀ j : Int, 0 ≤ j → j < qd0 → qu j = qu0 j) ∧ (∀ z : Int, 0 ≤ z → z < 50 → lof ln0 to z ≠ 1000 → lof ln to z = lof ln0 to z) ∧
  (∀ z : Int, vsp N z → lof ln0 to z ≤ L → nm z = nm0 z) ∧ (∀ i : Int, i < to * 50 ∨ to * 50 + 50 ≤ i → ln i = ln0 i)
theorem bfs_rng {N ln nm qu : Int → Int} {to L qd x : Int} {C : Int → Int → Prop} (h : bfs N to C L ln nm qu qd) (hx : 0 ≤ x ∧ x < 50) : ln x = 1000 ∨ (0 ≤ ln x ∧ ln x ≤ L + 1) := by
  rcases h.1 x hx.1 hx.2 with h1 | ⟨h1, j, h2, h3, h4⟩
  · exact Or.inl h1
  · have := h.2.1 j h2 h3
    rw [h4] at this
    exact Or.inr ⟨this.2.1, this.2.2.1⟩
theorem zS4g {f g : Int → Int} (h : ∀ d : Int, 0 ≤ d ∧ d ≤ 3 → f d = g d) : zS f 4 = zS g 4 := zS_cong (n := 4) (fun d h0 h1 => h d ⟨h0, by omega⟩)
theorem bfs_cong {N ln nm qu : Int → Int} {to L qd : Int} {C C' : Int → Int → Prop} (h : bfs N to C L ln nm qu qd) (hc : ∀ x d : Int, C' x d ↔ C x d) : bfs N to C' L ln nm qu qd := by
  have e : C' = C := by
    funext x d
    exact propext (hc x d)
  rw [e]
  exact h
theorem bfs_reach {N ln nm qu : Int → Int} {to L qd x d0 y : Int} {C C' : Int → Int → Prop} (h : bfs N to C L ln nm qu qd) (hL : 0 ≤ L ∧ L < 100) (hy : vsp N y ∧ ln y = L) (hx : vsp N x) (hd : 0 ≤ d0 ∧ d0 ≤ 3) (hm : mvq N x d0) (hs : scq N x d0 = y) (hn : ¬ C x d0) (hC : ∀ z d : Int, C' z d ↔ C z d ∨ (z = x ∧ d = d0)) :
    (ln x = 1000 → bfs N to C' L (zu ln x (L + 1)) (zu nm x (nm x + nm y)) (zu qu qd x) (qd + 1)) ∧ (ln x ≠ 1000 → L + 1 ≤ ln x → bfs N to C' L ln (zu nm x (nm x + nm y)) qu qd) ∧ (ln x < L + 1 → bfs N to C' L ln nm qu qd) := by
  have hx50 : 0 ≤ x ∧ x < 50 := ⟨hx.1, hx.2.1⟩
  obtain ⟨h1, h2, h3, h4, h5, h6, h7, h8, h9⟩ := id h
  refine ⟨fun hl => ?_, fun hl hl2 => ?_, fun hl => ?_⟩
  · -- a new spot
    have hto : x % 25 ≠ to := fun e => by have := h7 x hx e; omega
    have noC : ∀ d : Int, ¬ C x d := fun d hc => by have := (h4 x d hc).2.2.2.2; omega
    have hq50 := bfs_q50 h hx50 hl
    have hyx : y ≠ x := fun e => by have := hy.2; rw [e] at this; omega
    have notin : ∀ j : Int, 0 ≤ j → j < qd → qu j ≠ x := fun j a b e => by have := (h2 j a b).2.2.1; rw [e] at this; omega
    have scn : ∀ z d : Int, C z d → scq N z d ≠ x := fun z d hc e => by have := (h4 z d hc).2.2.2.2.2; rw [e] at this; omega
    refine ⟨fun z z0 z1 => ?_, fun j a b => ?_, fun j k a b c => ?_, fun z d hc => ?_, fun z hz z1 z2 => ?_, fun z hz => ?_, fun z hz z1 => ?_, by omega, ?_⟩
    · by_cases e : z = x
      · subst e
        exact Or.inr ⟨hx, qd, h8, by omega, zu_s⟩
      · rw [zu_n e]
        rcases h1 z z0 z1 with g | ⟨g1, j, g2, g3, g4⟩
        · exact Or.inl g
        · exact Or.inr ⟨g1, j, g2, by omega, by rw [zu_n (by omega)]; exact g4⟩
    · by_cases e : j = qd
      · subst e
        have hlast : L + 1 ≤ j := by
          obtain ⟨j0, k1, k2, k3⟩ : ∃ j0, 0 ≤ j0 ∧ j0 < j ∧ qu j0 = y := by
            rcases h1 y hy.1.1 hy.1.2.1 with g | ⟨g1, j0, g2, g3, g4⟩
            · have := hy.2; omega
            · exact ⟨j0, g2, g3, g4⟩
          have := (h2 j0 k1 k2).2.2.2
          rw [k3, hy.2] at this
          omega
        rw [zu_s, zu_s]
        exact ⟨hx, by omega, by omega, hlast⟩
      · have g := h2 j a (by omega)
        rw [zu_n e, zu_n (notin j a (by omega))]
        exact g
    · by_cases e : k = qd
      · subst e
        rw [zu_s, zu_n (by omega : j ≠ k), zu_s, zu_n (notin j a (by omega))]
        have g := h2 j a (by omega)
        exact ⟨notin j a (by omega), g.2.2.1⟩
      · rw [zu_n e, zu_n (by omega : j ≠ qd), zu_n (notin j a (by omega)), zu_n (notin k (by omega) (by omega))]
        exact h3 j k a b (by omega)
    · rcases (hC z d).mp hc with g | ⟨rfl, rfl⟩
      · obtain ⟨g1, g2, g3, g4, g5, g6⟩ := h4 z d g
        have zx : z ≠ x := fun e => by subst e; exact noC d g
        rw [zu_n zx, zu_n (scn z d g)]
        exact ⟨g1, g2, g3, g4, g5, g6⟩
      · rw [hs, zu_s, zu_n hyx]
        exact ⟨hx, hd.1, hd.2, hm, by have := hy.2; omega, by have := hy.2; omega⟩
    · by_cases e : z = x
      · subst e
        exact ⟨d0, (hC z d0).mpr (Or.inr ⟨rfl, rfl⟩), by rw [hs, zu_s, zu_n hyx, hy.2]⟩
      · rw [zu_n e] at z1
        obtain ⟨d, g1, g2⟩ := h5 z hz z1 z2
        exact ⟨d, (hC z d).mpr (Or.inl g1), by rw [zu_n (scn z d g1), zu_n e]; exact g2⟩
    · by_cases e : z = x
      · subst e
        rw [zu_s, if_neg hto]
        have e0 : nm z = 0 := by
          rw [h6 z hz, if_neg hto, zS4]
          have k : ∀ d : Int, nmf N ln nm C z d = 0 := fun d => zif_f (fun q => noC d q.1)
          rw [k 0, k 1, k 2, k 3]; rfl
        rw [e0]
        have ed : ∀ d : Int, 0 ≤ d ∧ d ≤ 3 → nmf N (zu ln z (L + 1)) (zu nm z (0 + nm y)) C' z d = zu (fun _ => 0) d0 (nm y) d := by
          intro d hd'
          unfold nmf
          by_cases e2 : d = d0
          · subst e2
            rw [zu_s (f := fun _ => (0 : Int)), zif_t ⟨(hC z d).mpr (Or.inr ⟨rfl, rfl⟩), by rw [hs, zu_s, zu_n hyx, hy.2]⟩, hs, zu_n hyx]
          · rw [zu_n (f := fun _ => (0 : Int)) e2, zif_f (fun q => by rcases (hC z d).mp q.1 with g | g; exact noC d g; exact e2 g.2)]
        rw [zS4g ed, zS_zu hd.1 (by omega), zS4]
        omega
      · rw [zu_n e, h6 z hz]
        split
        · rfl
        · refine zS4g (fun d _ => ?_)
          unfold nmf
          by_cases g : C z d
          · have cc : C' z d ↔ C z d := ⟨fun _ => g, fun _ => (hC z d).mpr (Or.inl g)⟩
            rw [zu_n (scn z d g), zu_n e, zu_n (scn z d g)]
            by_cases q : ln (scq N z d) + 1 = ln z
            · rw [zif_t ⟨g, q⟩, zif_t ⟨cc.mpr g, q⟩]
            · rw [zif_f (fun w => q w.2), zif_f (fun w => q w.2)]
          · rw [zif_f (fun w => g w.1), zif_f (fun w => by rcases (hC z d).mp w.1 with v | v; exact g v; exact e v.1)]
    · by_cases e : z = x
      · subst e; exact absurd z1 hto
      · rw [zu_n e]; exact h7 z hz z1
    · have e1 := zS_zu (f := fun x => zb (ln x ≠ 1000)) (i := x) (v := 1) (n := 50) hx50.1 hx50.2
      have e3 : zb (ln x ≠ 1000) = 0 := zb_f (fun z => z hl)
      simp only [e3] at e1
      have e4 : zS (fun z => zb (zu ln x (L + 1) z ≠ 1000)) 50 = zS (zu (fun x => zb (ln x ≠ 1000)) x 1) 50 := by
        refine zS_cong (n := 50) (fun z _ _ => ?_)
        by_cases e : z = x
        · subst e
          rw [zu_s (f := fun x => zb (ln x ≠ 1000)), zu_s]
          exact zb_t (by omega)
        · rw [zu_n (f := fun x => zb (ln x ≠ 1000)) e, zu_n e]
      rw [e4]
      omega
  · -- one more way
    have hle : ln x = L + 1 := by
      rcases bfs_rng h hx50 with g | g
      · exact absurd g hl
      · omega
    have hto : x % 25 ≠ to := fun e => by have := h7 x hx e; omega
    have hyx : y ≠ x := fun e => by have := hy.2; rw [e] at this; omega
    have scn : ∀ z d : Int, C z d → scq N z d ≠ x := fun z d hc e => by have := (h4 z d hc).2.2.2.2.2; rw [e] at this; omega
    refine ⟨h1, h2, h3, fun z d hc => ?_, fun z hz z1 z2 => ?_, fun z hz => ?_, h7, h8, h9⟩
    · rcases (hC z d).mp hc with g | ⟨rfl, rfl⟩
      · exact h4 z d g
      · rw [hs]
        exact ⟨hx, hd.1, hd.2, hm, by have := hy.2; omega, by have := hy.2; omega⟩
    · obtain ⟨d, g1, g2⟩ := h5 z hz z1 z2
      exact ⟨d, (hC z d).mpr (Or.inl g1), g2⟩
    · by_cases e : z = x
      · subst e
        rw [zu_s, if_neg hto, h6 z hz, if_neg hto]
        have ed : ∀ d : Int, 0 ≤ d ∧ d ≤ 3 → nmf N ln (zu nm z (zS (nmf N ln nm C z) 4 + nm y)) C' z d = zu (nmf N ln nm C z) d0 (nm y) d := by
          intro d hd'
          by_cases e2 : d = d0
          · subst e2
            unfold nmf
            rw [zu_s (f := fun d => zif (C z d ∧ ln (scq N z d) + 1 = ln z) (nm (scq N z d)) 0), zif_t ⟨(hC z d).mpr (Or.inr ⟨rfl, rfl⟩), by rw [hs, hy.2]; omega⟩, hs, zu_n hyx]
          · rw [zu_n (f := nmf N ln nm C z) e2]
            unfold nmf
            by_cases g : C z d
            · have cc : C' z d := (hC z d).mpr (Or.inl g)
              rw [zu_n (scn z d g)]
              by_cases q : ln (scq N z d) + 1 = ln z
              · rw [zif_t ⟨cc, q⟩, zif_t ⟨g, q⟩]
              · rw [zif_f (fun w => q w.2), zif_f (fun w => q w.2)]
            · rw [zif_f (fun w => by rcases (hC z d).mp w.1 with v | v; exact g v; exact e2 v.2), zif_f (fun w => g w.1)]
        rw [zS4g ed, zS_zu hd.1 (by omega)]
        have e0 : nmf N ln nm C z d0 = 0 := zif_f (fun w => hn w.1)
        rw [e0]
        omega
      · rw [zu_n e, h6 z hz]
        split
        · rfl
        · refine zS4g (fun d _ => ?_)
          unfold nmf
          by_cases g : C z d
          · have cc : C' z d := (hC z d).mpr (Or.inl g)
            rw [zu_n (scn z d g)]
            by_cases q : ln (scq N z d) + 1 = ln z
            · rw [zif_t ⟨g, q⟩, zif_t ⟨cc, q⟩]
            · rw [zif_f (fun w => q w.2), zif_f (fun w => q w.2)]
          · rw [zif_f (fun w => g w.1), zif_f (fun w => by rcases (hC z d).mp w.1 with v | v; exact g v; exact e v.1)]
  · -- one that is nearer already
    refine ⟨h1, h2, h3, fun z d hc => ?_, fun z hz z1 z2 => ?_, fun z hz => ?_, h7, h8, h9⟩
    · rcases (hC z d).mp hc with g | ⟨rfl, rfl⟩
      · exact h4 z d g
      · rw [hs]
        exact ⟨hx, hd.1, hd.2, hm, by have := hy.2; omega, by have := hy.2; omega⟩
    · obtain ⟨d, g1, g2⟩ := h5 z hz z1 z2
      exact ⟨d, (hC z d).mpr (Or.inl g1), g2⟩
    · rw [h6 z hz]
      split
      · rfl
      · refine zS4g (fun d _ => ?_)
        unfold nmf
        by_cases q : ln (scq N z d) + 1 = ln z
        · by_cases g : C z d
          · rw [zif_t ⟨g, q⟩, zif_t ⟨(hC z d).mpr (Or.inl g), q⟩]
          · rw [zif_f (fun w => g w.1), zif_f (fun w => by
              rcases (hC z d).mp w.1 with v | v
              · exact g v
              · obtain ⟨rfl, rfl⟩ := v
                rw [hs, hy.2] at q
                omega)]
        · rw [zif_f (fun w => q w.2), zif_f (fun w => q w.2)]
theorem prg_reach {N ln0 nm0 qu0 ln nm qu ln' nm' qu' : Int → Int} {to L qd0 qd qd' x d0 y wy : Int} {C P P' : Int → Int → Prop} (h : prg N to C P L ln0 nm0 qu0 qd0 ln nm qu qd) (hL : 0 ≤ L ∧ L < 100) (hy : vsp N y ∧ lof ln0 to y = L) (hx : vsp N x) (hd : 0 ≤ d0 ∧ d0 ≤ 3) (hm : mvq N x d0) (hs : scq N x d0 = y) (hn : ¬ (C x d0 ∨ P x d0)) (hP : ∀ z d : Int, P' z d ↔ P z d ∨ (z = x ∧ d = d0)) (hw : wy = nm y) (hr : rch to x (L + 1) wy ln nm qu qd ln' nm' qu' qd') :
    prg N to C P' L ln0 nm0 qu0 qd0 ln' nm' qu' qd' := by
  obtain ⟨hb, g2, g3, g4, g5, g6⟩ := h
  have hyl : lof ln to y = L := by rw [g4 y hy.1.1 hy.1.2.1 (by have := hy.2; omega)]; exact hy.2
  obtain ⟨r1, r2, r3⟩ := bfs_reach (C' := fun z d => C z d ∨ P' z d) hb hL ⟨hy.1, hyl⟩ hx hd hm hs hn (fun z d => by rw [hP z d]; exact ⟨fun q => by rcases q with a | a | a; exact Or.inl (Or.inl a); exact Or.inl (Or.inr a); exact Or.inr a, fun q => by rcases q with (a | a) | a; exact Or.inl a; exact Or.inr (Or.inl a); exact Or.inr (Or.inr a)⟩)
  have hx50 : 0 ≤ x ∧ x < 50 := ⟨hx.1, hx.2.1⟩
  have hk : lof ln to x = ln (to * 50 + x) := rfl
  have hq0 := hb.2.2.2.2.2.2.2.1
  subst hw
  -- what was reached before keeps its length; spots nearer keep their numbers
  have nmk : ∀ z : Int, vsp N z → lof ln0 to z ≤ L → L + 1 ≤ lof ln to x → z ≠ x := fun z hz hl hx1 e => by
    subst e
    have := g4 z hz.1 hz.2.1 (by omega)
    omega
  obtain ⟨ra, rb⟩ := hr
  rcases ra with ⟨a1, a2, rfl, rfl, rfl⟩ | ⟨a1, rfl, rfl, rfl⟩
  · rcases rb with ⟨b1, rfl⟩ | ⟨b1, rfl⟩
    · refine ⟨by rw [lof_zu]; exact r1 a1, by omega, fun j j0 j1 => ?_, fun z z0 z1 z2 => ?_, fun z hz hl => ?_, fun i hi => ?_⟩
      · rw [zu_n (by omega)]; exact g3 j j0 j1
      · rw [lof_zu]
        by_cases e : z = x
        · subst e
          have := g4 z z0 z1 z2
          omega
        · rw [zu_n e]; exact g4 z z0 z1 z2
      · rw [zu_n (nmk z hz hl (by omega))]
        exact g5 z hz hl
      · rw [zu_n (by omega)]; exact g6 i hi
    · omega
  · have hne : lof ln' to x ≠ 1000 := fun e => a1 ⟨by omega, bfs_q50 hb hx50 e⟩
    rcases rb with ⟨b1, rfl⟩ | ⟨b1, rfl⟩
    · refine ⟨r2 hne (by omega), g2, g3, g4, fun z hz hl => ?_, g6⟩
      rw [zu_n (nmk z hz hl (by omega))]
      exact g5 z hz hl
    · exact ⟨r3 (by omega), g2, g3, g4, g5, g6⟩
theorem prg_cong {N ln0 nm0 qu0 ln nm qu : Int → Int} {to L qd0 qd : Int} {C P P' : Int → Int → Prop} (h : prg N to C P L ln0 nm0 qu0 qd0 ln nm qu qd) (hP : ∀ z d : Int, P' z d ↔ P z d) : prg N to C P' L ln0 nm0 qu0 qd0 ln nm qu qd := by
  have e : P' = P := by
    funext x d
    exact propext (hP x d)
  rw [e]
  exact h
