/-! the law: a packet that is sent, a link that breaks or is made whole -/
theorem sndE_v {N : Int → Int} {f t : Int} (hf : isB N f) (ht : isB N t) : (f = t → sndE N f t = -1) ∧ (f ≠ t → N 6 = 40 → sndE N f t = -4) ∧ (f ≠ t → N 6 ≠ 40 → fr N t (10 * f) < 0 → sndE N f t = -5) ∧ (f ≠ t → N 6 ≠ 40 → 0 ≤ fr N t (10 * f) → sndE N f t = 0) := by
  unfold sndE
  refine ⟨fun h => zif_f (fun z => z.2.2 h), fun h h1 => ?_, fun h h1 h2 => ?_, fun h h1 h2 => ?_⟩
  · rw [zif_t ⟨hf, ht, h⟩, zif_t h1]
  · rw [zif_t ⟨hf, ht, h⟩, zif_f h1, zif_t h2]
  · rw [zif_t ⟨hf, ht, h⟩, zif_f h1, zif_f (by omega)]
theorem lk_no {N : Int → Int} {b d w : Int} (hd : 0 ≤ d ∧ d ≤ 3) (h : nb N b d < 0) : lkV N b d = -6 ∧ ¬ lnkQ N b d w ∧ lnkR N b d w = -1 := by
  have hb : badK N b d := Or.inr ⟨hd.1, hd.2, h⟩
  refine ⟨if_pos h, fun z => z.1 hb, ?_⟩
  unfold lnkR
  rw [zif_f (fun z => z.1 hb), zif_t hb]
theorem lk_yes {N : Int → Int} {b d w : Int} (hw : wf N) (hb : isB N b) (hd : 0 ≤ d ∧ d ≤ 3) (hww : 0 ≤ w ∧ w ≤ 1) (h : 0 ≤ nb N b d) : lnkQ N b d w ∧ lnkR N b d w = lkV N b d ∧ (0 ≤ lkV N b d ∧ lkV N b d ≤ 1) ∧ lkV (zu N (lkm N b d) (1 - w)) b d = w ∧ lkV N b d = 1 - N (lkm N b d) ∧ (10 ≤ lkm N b d ∧ lkm N b d < 60) := by
  have hr := lkm_rng hw hb hd h
  have hv := hw.2.2.2.2.2.2.1 _ hr.1 hr.2
  have hq : lnkQ N b d w := ⟨fun z => by rcases z with z | z; exact z hb; omega, hd, hww⟩
  have hl : lkV N b d = 1 - N (lkm N b d) := by
    unfold lkV
    rw [if_neg (by omega)]
    by_cases e : N (lkm N b d) = 0
    · rw [zb_t ⟨h, e⟩]; omega
    · rw [zb_f (fun z => e z.2)]; omega
  refine ⟨hq, ?_, by omega, ?_, hl, hr⟩
  · unfold lnkR
    rw [zif_t hq]; omega
  · unfold lkV
    rw [nb_zu hr.1, if_neg (by omega)]
    by_cases e : w = 1
    · rw [zb_t ⟨by rw [nb_zu hr.1]; exact h, by rw [lkm_zu hr.1, zu_s]; omega⟩]; omega
    · rw [zb_f (fun z => by have := z.2; rw [lkm_zu hr.1, zu_s] at this; omega)]; omega
set_option maxRecDepth 20000 in
theorem c_L_isSent {l : Launch} {Z : zZ} {ad : zAd} {N : Int → Int} {h : zHd} {B f t : Int} (hI : obI N h) (hV : INV B N) (hB : B ≤ 1000) (hf : isB N f) (ht : isB N t) : zI (T := (Int → Int) × zHd) l yL_isSent (Cond.code yL_isSent cL_isSent 6 (some .boolean) :: wsL_law) ({ frames := 8, cells := 0, slots := 0, locals := 190 } : Room) Z [.ref (obX ad), .int (iI f), .int (iI t)] (obW Z ad N h) (fun u => obW Z ad u.1 u.2) (fun ρ u => ρ = 1 ∧ obI u.1 u.2 ∧ INV B u.1) := by
  refine zI_of (C := RL) (by decide +kernel) rfl (Nat.le_of_ble_eq_true rfl) (fun ρ => ρ = 0 ∨ ρ = 1) znZ (fun X ok fin => ?_)
  have hw := hV.1.1
  have hcr := wf_cr hw
  have w6 := hw.2.2.2.2.2.1
  have h3 := hV.1.2.1
  have hfb := id hf
  have htb := id ht
  unfold isB at hfb htb
  have hfr := fr_rng (to := t) (s := 10 * f) hw htb (by omega)
  obtain ⟨s1, s2, s3, s4⟩ := sndE_v hf ht
  rcases (show f = t ∨ (f ≠ t ∧ N 6 = 40) ∨ (f ≠ t ∧ N 6 ≠ 40 ∧ fr N t (10 * f) < 0) ∨ (f ≠ t ∧ N 6 ≠ 40 ∧ 0 ≤ fr N t (10 * f)) by omega) with c | c | c | c
  · -- case 0
    refine z_lsub ok (lv' := [(0, .ref (obX ad)), (1, .int (iI f)), (2, .int (iI t))]) [0, 1, 2] rfl ?_
    refine z_eq (ws' := ([] : va_W) ++ (obW Z ad N h ++ ([] : va_W))) o_in ?_
    refine z_aload_n ok dL_isSent_0 rfl ?_
    refine z_iconst ok dL_isSent_1 ?_
    refine o_count (v := N 6) ok hI hw (by decide) (v_c3) qm_RL_8 dL_isSent_2 (by decide) ⟨by decide, by decide⟩ (Nat.le_of_ble_eq_true rfl) (fun h1 h1I => ?_)
    refine z_istore_n (lv' := [(3, .int (iI (N 6))), (0, .ref (obX ad)), (1, .int (iI f)), (2, .int (iI t))]) ok dL_isSent_5 (by decide) rfl ?_
    refine z_aload_n ok dL_isSent_6 rfl ?_
    refine z_iload_n ok dL_isSent_7 rfl ?_
    refine z_iload_n ok dL_isSent_8 rfl ?_
    refine o_leastWay (v := fr N t (10 * f)) ok h1I hw (by omega) (by omega) (v_lw (by assumption) (by assumption)) qm_RL_44 dL_isSent_9 (by decide) ⟨by decide, by decide⟩ (Nat.le_of_ble_eq_true rfl) ?_
    refine z_istore (lv' := [(4, .int (iI (fr N t (10 * f)))), (3, .int (iI (N 6))), (0, .ref (obX ad)), (1, .int (iI f)), (2, .int (iI t))]) ok dL_isSent_12 (by decide) rfl ?_
    refine z_aload_n ok dL_isSent_14 rfl ?_
    refine z_iload_n ok dL_isSent_15 rfl ?_
    refine z_iload_n ok dL_isSent_16 rfl ?_
    refine o_send ok h1I hw (by omega) (by omega) qm_RL_47 dL_isSent_17 (by decide) ⟨by decide, by decide⟩ (Nat.le_of_ble_eq_true rfl) (fun r4 N3 h2 h2I h2c => ?_)
    have hE := s1 c
    obtain ⟨q2, q3⟩ : r4 = sndE N f t ∧ N3 = N := by rcases h2c with ⟨_, a, b⟩ | ⟨a, _, _⟩; exact ⟨a, b⟩; omega
    rw [hE] at q2
    rw [q3] at h2I
    rw [q2, q3]
    refine z_istore (lv' := [(5, .int (iI (-1))), (4, .int (iI (fr N t (10 * f)))), (3, .int (iI (N 6))), (0, .ref (obX ad)), (1, .int (iI f)), (2, .int (iI t))]) ok dL_isSent_20 (by decide) rfl ?_
    refine z_iload_n ok dL_isSent_22 rfl ?_
    refine z_iload_n ok dL_isSent_23 rfl ?_
    refine z_icmp_eq (tgt := 38) ok dL_isSent_24 (by decide) (by omega) (by omega) (fun c24 => ?_) (fun c => (by omega : False).elim)
    refine z_iload ok dL_isSent_38 rfl ?_
    refine z_iload_n ok dL_isSent_40 rfl ?_
    refine z_iload_n ok dL_isSent_41 rfl ?_
    refine z_icmp_ne (tgt := 49) ok dL_isSent_42 (by decide) (by omega) (by omega) (fun c => (by omega : False).elim) (fun c42 => ?_)
    refine z_iconst ok dL_isSent_45 ?_
    refine z_goto (tgt := 62) ok dL_isSent_46 (by decide) ?_
    refine z_icmp_ne (tgt := 78) ok dL_isSent_62 (by decide) (by decide) (by decide) (fun c => absurd c (by decide)) (fun c62 => ?_)
    refine z_aload_n ok dL_isSent_65 rfl ?_
    refine z_iconst ok dL_isSent_66 ?_
    refine o_count (v := N 6) ok h2I hw (by decide) (v_c3) qm_RL_8 dL_isSent_67 (by decide) ⟨by decide, by decide⟩ (Nat.le_of_ble_eq_true rfl) (fun h5 h5I => ?_)
    refine z_iload_n ok dL_isSent_70 rfl ?_
    refine z_icmp_ne (tgt := 78) ok dL_isSent_71 (by decide) (by omega) (by omega) (fun c => (by omega : False).elim) (fun c71 => ?_)
    refine z_iconst ok dL_isSent_74 ?_
    refine z_goto (tgt := 79) ok dL_isSent_75 (by decide) ?_
    refine z_eq (ws' := obW Z ad N h5) (List.append_nil _) ?_
    exact fin 1 (N, h5) 79 _ _ _ dL_isSent_79 (by decide) (⟨rfl, h5I, hV⟩) (by decide) (by decide)
  · -- case 1
    refine z_lsub ok (lv' := [(0, .ref (obX ad)), (1, .int (iI f)), (2, .int (iI t))]) [0, 1, 2] rfl ?_
    refine z_eq (ws' := ([] : va_W) ++ (obW Z ad N h ++ ([] : va_W))) o_in ?_
    refine z_aload_n ok dL_isSent_0 rfl ?_
    refine z_iconst ok dL_isSent_1 ?_
    refine o_count (v := N 6) ok hI hw (by decide) (v_c3) qm_RL_8 dL_isSent_2 (by decide) ⟨by decide, by decide⟩ (Nat.le_of_ble_eq_true rfl) (fun h1 h1I => ?_)
    refine z_istore_n (lv' := [(3, .int (iI (N 6))), (0, .ref (obX ad)), (1, .int (iI f)), (2, .int (iI t))]) ok dL_isSent_5 (by decide) rfl ?_
    refine z_aload_n ok dL_isSent_6 rfl ?_
    refine z_iload_n ok dL_isSent_7 rfl ?_
    refine z_iload_n ok dL_isSent_8 rfl ?_
    refine o_leastWay (v := fr N t (10 * f)) ok h1I hw (by omega) (by omega) (v_lw (by assumption) (by assumption)) qm_RL_44 dL_isSent_9 (by decide) ⟨by decide, by decide⟩ (Nat.le_of_ble_eq_true rfl) ?_
    refine z_istore (lv' := [(4, .int (iI (fr N t (10 * f)))), (3, .int (iI (N 6))), (0, .ref (obX ad)), (1, .int (iI f)), (2, .int (iI t))]) ok dL_isSent_12 (by decide) rfl ?_
    refine z_aload_n ok dL_isSent_14 rfl ?_
    refine z_iload_n ok dL_isSent_15 rfl ?_
    refine z_iload_n ok dL_isSent_16 rfl ?_
    refine o_send ok h1I hw (by omega) (by omega) qm_RL_47 dL_isSent_17 (by decide) ⟨by decide, by decide⟩ (Nat.le_of_ble_eq_true rfl) (fun r4 N3 h2 h2I h2c => ?_)
    have hE := s2 c.1 c.2
    obtain ⟨q2, q3⟩ : r4 = sndE N f t ∧ N3 = N := by rcases h2c with ⟨_, a, b⟩ | ⟨a, _, _⟩; exact ⟨a, b⟩; omega
    rw [hE] at q2
    rw [q3] at h2I
    rw [q2, q3]
    refine z_istore (lv' := [(5, .int (iI (-4))), (4, .int (iI (fr N t (10 * f)))), (3, .int (iI (N 6))), (0, .ref (obX ad)), (1, .int (iI f)), (2, .int (iI t))]) ok dL_isSent_20 (by decide) rfl ?_
    refine z_iload_n ok dL_isSent_22 rfl ?_
    refine z_iload_n ok dL_isSent_23 rfl ?_
    refine z_icmp_eq (tgt := 38) ok dL_isSent_24 (by decide) (by omega) (by omega) (fun c => (by omega : False).elim) (fun c24 => ?_)
    refine z_iload_n ok dL_isSent_27 rfl ?_
    refine z_bipush ok dL_isSent_28 (by decide) ?_
    refine z_icmp_eq (tgt := 38) ok dL_isSent_30 (by decide) (by omega) (by decide) (fun c30 => ?_) (fun c => (by omega : False).elim)
    refine z_iload ok dL_isSent_38 rfl ?_
    refine z_iload_n ok dL_isSent_40 rfl ?_
    refine z_iload_n ok dL_isSent_41 rfl ?_
    refine z_icmp_ne (tgt := 49) ok dL_isSent_42 (by decide) (by omega) (by omega) (fun c42 => ?_) (fun c => (by omega : False).elim)
    refine z_iload_n ok dL_isSent_49 rfl ?_
    refine z_bipush ok dL_isSent_50 (by decide) ?_
    refine z_icmp_ne (tgt := 60) ok dL_isSent_52 (by decide) (by omega) (by decide) (fun c => (by omega : False).elim) (fun c52 => ?_)
    refine z_bipush ok dL_isSent_55 (by decide) ?_
    refine z_goto (tgt := 62) ok dL_isSent_57 (by decide) ?_
    refine z_icmp_ne (tgt := 78) ok dL_isSent_62 (by decide) (by decide) (by decide) (fun c => absurd c (by decide)) (fun c62 => ?_)
    refine z_aload_n ok dL_isSent_65 rfl ?_
    refine z_iconst ok dL_isSent_66 ?_
    refine o_count (v := N 6) ok h2I hw (by decide) (v_c3) qm_RL_8 dL_isSent_67 (by decide) ⟨by decide, by decide⟩ (Nat.le_of_ble_eq_true rfl) (fun h5 h5I => ?_)
    refine z_iload_n ok dL_isSent_70 rfl ?_
    refine z_icmp_ne (tgt := 78) ok dL_isSent_71 (by decide) (by omega) (by omega) (fun c => (by omega : False).elim) (fun c71 => ?_)
    refine z_iconst ok dL_isSent_74 ?_
    refine z_goto (tgt := 79) ok dL_isSent_75 (by decide) ?_
    refine z_eq (ws' := obW Z ad N h5) (List.append_nil _) ?_
    exact fin 1 (N, h5) 79 _ _ _ dL_isSent_79 (by decide) (⟨rfl, h5I, hV⟩) (by decide) (by decide)
  · -- case 2
    refine z_lsub ok (lv' := [(0, .ref (obX ad)), (1, .int (iI f)), (2, .int (iI t))]) [0, 1, 2] rfl ?_
    refine z_eq (ws' := ([] : va_W) ++ (obW Z ad N h ++ ([] : va_W))) o_in ?_
    refine z_aload_n ok dL_isSent_0 rfl ?_
    refine z_iconst ok dL_isSent_1 ?_
    refine o_count (v := N 6) ok hI hw (by decide) (v_c3) qm_RL_8 dL_isSent_2 (by decide) ⟨by decide, by decide⟩ (Nat.le_of_ble_eq_true rfl) (fun h1 h1I => ?_)
    refine z_istore_n (lv' := [(3, .int (iI (N 6))), (0, .ref (obX ad)), (1, .int (iI f)), (2, .int (iI t))]) ok dL_isSent_5 (by decide) rfl ?_
    refine z_aload_n ok dL_isSent_6 rfl ?_
    refine z_iload_n ok dL_isSent_7 rfl ?_
    refine z_iload_n ok dL_isSent_8 rfl ?_
    refine o_leastWay (v := fr N t (10 * f)) ok h1I hw (by omega) (by omega) (v_lw (by assumption) (by assumption)) qm_RL_44 dL_isSent_9 (by decide) ⟨by decide, by decide⟩ (Nat.le_of_ble_eq_true rfl) ?_
    refine z_istore (lv' := [(4, .int (iI (fr N t (10 * f)))), (3, .int (iI (N 6))), (0, .ref (obX ad)), (1, .int (iI f)), (2, .int (iI t))]) ok dL_isSent_12 (by decide) rfl ?_
    refine z_aload_n ok dL_isSent_14 rfl ?_
    refine z_iload_n ok dL_isSent_15 rfl ?_
    refine z_iload_n ok dL_isSent_16 rfl ?_
    refine o_send ok h1I hw (by omega) (by omega) qm_RL_47 dL_isSent_17 (by decide) ⟨by decide, by decide⟩ (Nat.le_of_ble_eq_true rfl) (fun r4 N3 h2 h2I h2c => ?_)
    have hE := s3 c.1 c.2.1 c.2.2
    obtain ⟨q2, q3⟩ : r4 = sndE N f t ∧ N3 = N := by rcases h2c with ⟨_, a, b⟩ | ⟨a, _, _⟩; exact ⟨a, b⟩; omega
    rw [hE] at q2
    rw [q3] at h2I
    rw [q2, q3]
    refine z_istore (lv' := [(5, .int (iI (-5))), (4, .int (iI (fr N t (10 * f)))), (3, .int (iI (N 6))), (0, .ref (obX ad)), (1, .int (iI f)), (2, .int (iI t))]) ok dL_isSent_20 (by decide) rfl ?_
    refine z_iload_n ok dL_isSent_22 rfl ?_
    refine z_iload_n ok dL_isSent_23 rfl ?_
    refine z_icmp_eq (tgt := 38) ok dL_isSent_24 (by decide) (by omega) (by omega) (fun c => (by omega : False).elim) (fun c24 => ?_)
    refine z_iload_n ok dL_isSent_27 rfl ?_
    refine z_bipush ok dL_isSent_28 (by decide) ?_
    refine z_icmp_eq (tgt := 38) ok dL_isSent_30 (by decide) (by omega) (by decide) (fun c => (by omega : False).elim) (fun c30 => ?_)
    refine z_iload ok dL_isSent_33 rfl ?_
    refine z_if_ge (tgt := 80) ok dL_isSent_35 (by decide) (by omega) (fun c => (by omega : False).elim) (fun c35 => ?_)
    refine z_iload ok dL_isSent_38 rfl ?_
    refine z_iload_n ok dL_isSent_40 rfl ?_
    refine z_iload_n ok dL_isSent_41 rfl ?_
    refine z_icmp_ne (tgt := 49) ok dL_isSent_42 (by decide) (by omega) (by omega) (fun c42 => ?_) (fun c => (by omega : False).elim)
    refine z_iload_n ok dL_isSent_49 rfl ?_
    refine z_bipush ok dL_isSent_50 (by decide) ?_
    refine z_icmp_ne (tgt := 60) ok dL_isSent_52 (by decide) (by omega) (by decide) (fun c52 => ?_) (fun c => (by omega : False).elim)
    refine z_bipush ok dL_isSent_60 (by decide) ?_
    refine z_icmp_ne (tgt := 78) ok dL_isSent_62 (by decide) (by decide) (by decide) (fun c => absurd c (by decide)) (fun c62 => ?_)
    refine z_aload_n ok dL_isSent_65 rfl ?_
    refine z_iconst ok dL_isSent_66 ?_
    refine o_count (v := N 6) ok h2I hw (by decide) (v_c3) qm_RL_8 dL_isSent_67 (by decide) ⟨by decide, by decide⟩ (Nat.le_of_ble_eq_true rfl) (fun h5 h5I => ?_)
    refine z_iload_n ok dL_isSent_70 rfl ?_
    refine z_icmp_ne (tgt := 78) ok dL_isSent_71 (by decide) (by omega) (by omega) (fun c => (by omega : False).elim) (fun c71 => ?_)
    refine z_iconst ok dL_isSent_74 ?_
    refine z_goto (tgt := 79) ok dL_isSent_75 (by decide) ?_
    refine z_eq (ws' := obW Z ad N h5) (List.append_nil _) ?_
    exact fin 1 (N, h5) 79 _ _ _ dL_isSent_79 (by decide) (⟨rfl, h5I, hV⟩) (by decide) (by decide)
  · -- case 3
    refine z_lsub ok (lv' := [(0, .ref (obX ad)), (1, .int (iI f)), (2, .int (iI t))]) [0, 1, 2] rfl ?_
    refine z_eq (ws' := ([] : va_W) ++ (obW Z ad N h ++ ([] : va_W))) o_in ?_
    refine z_aload_n ok dL_isSent_0 rfl ?_
    refine z_iconst ok dL_isSent_1 ?_
    refine o_count (v := N 6) ok hI hw (by decide) (v_c3) qm_RL_8 dL_isSent_2 (by decide) ⟨by decide, by decide⟩ (Nat.le_of_ble_eq_true rfl) (fun h1 h1I => ?_)
    refine z_istore_n (lv' := [(3, .int (iI (N 6))), (0, .ref (obX ad)), (1, .int (iI f)), (2, .int (iI t))]) ok dL_isSent_5 (by decide) rfl ?_
    refine z_aload_n ok dL_isSent_6 rfl ?_
    refine z_iload_n ok dL_isSent_7 rfl ?_
    refine z_iload_n ok dL_isSent_8 rfl ?_
    refine o_leastWay (v := fr N t (10 * f)) ok h1I hw (by omega) (by omega) (v_lw (by assumption) (by assumption)) qm_RL_44 dL_isSent_9 (by decide) ⟨by decide, by decide⟩ (Nat.le_of_ble_eq_true rfl) ?_
    refine z_istore (lv' := [(4, .int (iI (fr N t (10 * f)))), (3, .int (iI (N 6))), (0, .ref (obX ad)), (1, .int (iI f)), (2, .int (iI t))]) ok dL_isSent_12 (by decide) rfl ?_
    refine z_aload_n ok dL_isSent_14 rfl ?_
    refine z_iload_n ok dL_isSent_15 rfl ?_
    refine z_iload_n ok dL_isSent_16 rfl ?_
    refine o_send ok h1I hw (by omega) (by omega) qm_RL_47 dL_isSent_17 (by decide) ⟨by decide, by decide⟩ (Nat.le_of_ble_eq_true rfl) (fun r4 N3 h2 h2I h2c => ?_)
    have hE := s4 c.1 c.2.1 c.2.2
    obtain ⟨q2, q3⟩ : r4 = N 6 ∧ N3 = sndN N f t := by rcases h2c with ⟨a, _, _⟩ | ⟨_, a, b⟩; exact absurd hE a; exact ⟨a, b⟩
    rw [q3] at h2I
    rw [q2, q3]
    have hV2 := INV_snd hV hE
    have hw2 := hV2.1.1
    have e6 := (wf_snd hw hE).2.1
    have e3 := (wf_snd hw hE).2.2
    have hp : 0 ≤ N 6 ∧ N 6 < sndN N f t 6 := by omega
    have pn : ∀ j : Int, 0 ≤ j → j ≤ 9 → pk (sndN N f t) (N 6) j = (if j = 0 ∨ j = 3 then f else if j = 1 then t else if j = 7 then N 3 else if j = 8 then -6 else 0) := fun j j0 j1 => by rw [snd_pk w6.1 w6.1 ⟨j0, j1⟩, if_pos rfl]
    have p0 := pn 0 (by omega) (by omega)
    have p1 := pn 1 (by omega) (by omega)
    have p2 := pn 2 (by omega) (by omega)
    have p3 := pn 3 (by omega) (by omega)
    have p7 := pn 7 (by omega) (by omega)
    have p5 := pn 5 (by omega) (by omega)
    have p9 := pn 9 (by omega) (by omega)
    simp at p0 p1 p2 p3 p5 p7 p9
    have p10 : frP (sndN N f t) (N 6) = fr N t (10 * f) := by
      unfold frP stg
      rw [p1, p3, p5, p9, show 10 * f + 5 * 0 + 0 = 10 * f by omega]
      exact fr_same hw (snd_same w6.1) (by omega)
    refine z_istore (lv' := [(5, .int (iI (N 6))), (4, .int (iI (fr N t (10 * f)))), (3, .int (iI (N 6))), (0, .ref (obX ad)), (1, .int (iI f)), (2, .int (iI t))]) ok dL_isSent_20 (by decide) rfl ?_
    refine z_iload_n ok dL_isSent_22 rfl ?_
    refine z_iload_n ok dL_isSent_23 rfl ?_
    refine z_icmp_eq (tgt := 38) ok dL_isSent_24 (by decide) (by omega) (by omega) (fun c => (by omega : False).elim) (fun c24 => ?_)
    refine z_iload_n ok dL_isSent_27 rfl ?_
    refine z_bipush ok dL_isSent_28 (by decide) ?_
    refine z_icmp_eq (tgt := 38) ok dL_isSent_30 (by decide) (by omega) (by decide) (fun c => (by omega : False).elim) (fun c30 => ?_)
    refine z_iload ok dL_isSent_33 rfl ?_
    refine z_if_ge (tgt := 80) ok dL_isSent_35 (by decide) (by omega) (fun c35 => ?_) (fun c => (by omega : False).elim)
    refine z_iload ok dL_isSent_80 rfl ?_
    refine z_iload_n ok dL_isSent_82 rfl ?_
    refine z_icmp_ne (tgt := 146) ok dL_isSent_83 (by decide) (by omega) (by omega) (fun c => (by omega : False).elim) (fun c83 => ?_)
    refine z_aload_n ok dL_isSent_86 rfl ?_
    refine z_iload_n ok dL_isSent_87 rfl ?_
    refine z_iconst ok dL_isSent_88 ?_
    refine o_ofPacket (v := pk (sndN N f t) (N 6) 0) ok h2I hw2 (by omega) (by decide) (v_pk (hp) (by decide)) qm_RL_14 dL_isSent_89 (by decide) ⟨by decide, by decide⟩ (Nat.le_of_ble_eq_true rfl) (fun h5 h5I => ?_)
    refine z_iload_n ok dL_isSent_92 rfl ?_
    refine z_icmp_ne (tgt := 146) ok dL_isSent_93 (by decide) (by omega) (by omega) (fun c => (by omega : False).elim) (fun c93 => ?_)
    refine z_aload_n ok dL_isSent_96 rfl ?_
    refine z_iload_n ok dL_isSent_97 rfl ?_
    refine z_iconst ok dL_isSent_98 ?_
    refine o_ofPacket (v := pk (sndN N f t) (N 6) 1) ok h5I hw2 (by omega) (by decide) (v_pk (hp) (by decide)) qm_RL_14 dL_isSent_99 (by decide) ⟨by decide, by decide⟩ (Nat.le_of_ble_eq_true rfl) (fun h6 h6I => ?_)
    refine z_iload_n ok dL_isSent_102 rfl ?_
    refine z_icmp_ne (tgt := 146) ok dL_isSent_103 (by decide) (by omega) (by omega) (fun c => (by omega : False).elim) (fun c103 => ?_)
    refine z_aload_n ok dL_isSent_106 rfl ?_
    refine z_iload_n ok dL_isSent_107 rfl ?_
    refine z_iconst ok dL_isSent_108 ?_
    refine o_ofPacket (v := pk (sndN N f t) (N 6) 2) ok h6I hw2 (by omega) (by decide) (v_pk (hp) (by decide)) qm_RL_14 dL_isSent_109 (by decide) ⟨by decide, by decide⟩ (Nat.le_of_ble_eq_true rfl) (fun h7 h7I => ?_)
    refine z_if_ne (tgt := 146) ok dL_isSent_112 (by decide) (by omega) (fun c => (by omega : False).elim) (fun c112 => ?_)
    refine z_aload_n ok dL_isSent_115 rfl ?_
    refine z_iload_n ok dL_isSent_116 rfl ?_
    refine z_bipush ok dL_isSent_117 (by decide) ?_
    refine o_ofPacket (v := frP (sndN N f t) (N 6)) ok h7I hw2 (by omega) (by decide) (v_fr (hp)) qm_RL_14 dL_isSent_119 (by decide) ⟨by decide, by decide⟩ (Nat.le_of_ble_eq_true rfl) (fun h8 h8I => ?_)
    refine z_iload ok dL_isSent_122 rfl ?_
    refine z_icmp_ne (tgt := 146) ok dL_isSent_124 (by decide) (by omega) (by omega) (fun c => (by omega : False).elim) (fun c124 => ?_)
    refine z_aload_n ok dL_isSent_127 rfl ?_
    refine z_iload_n ok dL_isSent_128 rfl ?_
    refine z_bipush ok dL_isSent_129 (by decide) ?_
    refine o_ofPacket (v := pk (sndN N f t) (N 6) 7) ok h8I hw2 (by omega) (by decide) (v_pk (hp) (by decide)) qm_RL_14 dL_isSent_131 (by decide) ⟨by decide, by decide⟩ (Nat.le_of_ble_eq_true rfl) (fun h9 h9I => ?_)
    refine z_aload_n ok dL_isSent_134 rfl ?_
    refine z_iconst ok dL_isSent_135 ?_
    refine o_count (v := (sndN N f t) 3) ok h9I hw2 (by decide) (v_c0) qm_RL_8 dL_isSent_136 (by decide) ⟨by decide, by decide⟩ (Nat.le_of_ble_eq_true rfl) (fun h10 h10I => ?_)
    refine z_icmp_ne (tgt := 146) ok dL_isSent_139 (by decide) (by omega) (by omega) (fun c => (by omega : False).elim) (fun c139 => ?_)
    refine z_iconst ok dL_isSent_142 ?_
    refine z_goto (tgt := 147) ok dL_isSent_143 (by decide) ?_
    refine z_eq (ws' := obW Z ad (sndN N f t) h10) (List.append_nil _) ?_
    exact fin 1 (sndN N f t, h10) 147 _ _ _ dL_isSent_147 (by decide) (⟨rfl, h10I, hV2⟩) (by decide) (by decide)
set_option maxRecDepth 20000 in
theorem c_L_isLink {l : Launch} {Z : zZ} {ad : zAd} {N : Int → Int} {h : zHd} {B b d w : Int} (hI : obI N h) (hV : INV B N) (hB : B ≤ 1000) (hb : isB N b) (hd : 0 ≤ d ∧ d ≤ 3) (hww : 0 ≤ w ∧ w ≤ 1) : zI (T := (Int → Int) × zHd) l yL_isLink (Cond.code yL_isLink cL_isLink 8 (some .boolean) :: wsL_law) ({ frames := 7, cells := 0, slots := 0, locals := 171 } : Room) Z [.ref (obX ad), .int (iI b), .int (iI d), .int (iI w)] (obW Z ad N h) (fun u => obW Z ad u.1 u.2) (fun ρ u => ρ = 1 ∧ obI u.1 u.2 ∧ INV B u.1 ∧ u.1 6 = N 6 ∧ u.1 4 = N 4 ∧ u.1 5 = N 5) := by
  refine zI_of (C := RL) (by decide +kernel) rfl (Nat.le_of_ble_eq_true rfl) (fun ρ => ρ = 0 ∨ ρ = 1) znZ (fun X ok fin => ?_)
  have hw := hV.1.1
  have hcr := wf_cr hw
  have hb0 := id hb
  unfold isB at hb0
  have hpr := prs_rng hw
  have hvw : 0 ≤ 1 - w ∧ 1 - w ≤ 1 := by omega
  rcases (show nb N b d < 0 ∨ (0 ≤ nb N b d ∧ w = 1) ∨ (0 ≤ nb N b d ∧ w = 0) by omega) with c | c | c
  · -- case 0
    obtain ⟨l1, l2, l3⟩ := lk_no (w := w) hd c
    refine z_lsub ok (lv' := [(0, .ref (obX ad)), (1, .int (iI b)), (2, .int (iI d)), (3, .int (iI w))]) [0, 1, 2, 3] rfl ?_
    refine z_eq (ws' := ([] : va_W) ++ (obW Z ad N h ++ ([] : va_W))) o_in ?_
    refine z_aload_n ok dL_isLink_0 rfl ?_
    refine z_iload_n ok dL_isLink_1 rfl ?_
    refine z_iconst ok dL_isLink_2 ?_
    refine z_iload_n ok dL_isLink_3 rfl ?_
    refine z_iadd ok dL_isLink_4 ?_
    refine o_ofBox (v := lkV N b d) ok hI hw (by omega) (by omega) (v_bl (by assumption) (by omega) rfl) qm_RL_24 dL_isLink_5 (by decide) ⟨by decide, by decide⟩ (Nat.le_of_ble_eq_true rfl) ?_
    refine z_istore (lv' := [(4, .int (iI (lkV N b d))), (0, .ref (obX ad)), (1, .int (iI b)), (2, .int (iI d)), (3, .int (iI w))]) ok dL_isLink_8 (by decide) rfl ?_
    refine z_aload_n ok dL_isLink_10 rfl ?_
    refine o_pairs (v := prs N) ok hI hw  (rfl) qm_RL_56 dL_isLink_11 (by decide) ⟨by decide, by decide⟩ (Nat.le_of_ble_eq_true rfl) ?_
    refine z_istore (lv' := [(5, .int (iI (prs N))), (4, .int (iI (lkV N b d))), (0, .ref (obX ad)), (1, .int (iI b)), (2, .int (iI d)), (3, .int (iI w))]) ok dL_isLink_14 (by decide) rfl ?_
    refine z_aload_n ok dL_isLink_16 rfl ?_
    refine z_iload_n ok dL_isLink_17 rfl ?_
    refine z_iload_n ok dL_isLink_18 rfl ?_
    refine z_iload_n ok dL_isLink_19 rfl ?_
    refine o_link ok hI hw (by omega) (by omega) (by omega) qm_RL_40 dL_isLink_20 (by decide) ⟨by decide, by decide⟩ (Nat.le_of_ble_eq_true rfl) (fun r3 N2 h1 h1I h1c => ?_)
    obtain ⟨q2, q3⟩ : r3 = lnkR N b d w ∧ N2 = N := by rcases h1c with ⟨_, a, b⟩ | ⟨a, _, _⟩; exact ⟨a, b⟩; exact absurd a l2
    rw [l3] at q2
    rw [q3] at h1I
    rw [q2, q3]
    refine z_istore (lv' := [(6, .int (iI (-1))), (5, .int (iI (prs N))), (4, .int (iI (lkV N b d))), (0, .ref (obX ad)), (1, .int (iI b)), (2, .int (iI d)), (3, .int (iI w))]) ok dL_isLink_23 (by decide) rfl ?_
    refine z_iload ok dL_isLink_25 rfl ?_
    refine z_if_lt (tgt := 56) ok dL_isLink_27 (by decide) (by omega) (fun c27 => ?_) (fun c => (by omega : False).elim)
    refine z_iconst ok dL_isLink_56 ?_
    refine z_goto (tgt := 61) ok dL_isLink_57 (by decide) ?_
    refine z_istore (lv' := [(7, .int (iI 1)), (6, .int (iI (-1))), (5, .int (iI (prs N))), (4, .int (iI (lkV N b d))), (0, .ref (obX ad)), (1, .int (iI b)), (2, .int (iI d)), (3, .int (iI w))]) ok dL_isLink_61 (by decide) rfl ?_
    refine z_iload ok dL_isLink_63 rfl ?_
    refine z_iload ok dL_isLink_65 rfl ?_
    refine z_if_ge (tgt := 74) ok dL_isLink_67 (by decide) (by omega) (fun c => (by omega : False).elim) (fun c67 => ?_)
    refine z_iconst ok dL_isLink_70 ?_
    refine z_goto (tgt := 76) ok dL_isLink_71 (by decide) ?_
    refine z_icmp_ne (tgt := 110) ok dL_isLink_76 (by decide) (by decide) (by decide) (fun c => absurd c (by decide)) (fun c76 => ?_)
    refine z_aload_n ok dL_isLink_79 rfl ?_
    refine z_iload_n ok dL_isLink_80 rfl ?_
    refine z_iconst ok dL_isLink_81 ?_
    refine z_iload_n ok dL_isLink_82 rfl ?_
    refine z_iadd ok dL_isLink_83 ?_
    refine o_ofBox (v := lkV N b d) ok h1I hw (by omega) (by omega) (v_bl (by assumption) (by omega) rfl) qm_RL_24 dL_isLink_84 (by decide) ⟨by decide, by decide⟩ (Nat.le_of_ble_eq_true rfl) ?_
    refine z_iload ok dL_isLink_87 rfl ?_
    refine z_if_ge (tgt := 97) ok dL_isLink_89 (by decide) (by omega) (fun c => (by omega : False).elim) (fun c89 => ?_)
    refine z_bipush ok dL_isLink_92 (by decide) ?_
    refine z_goto (tgt := 98) ok dL_isLink_94 (by decide) ?_
    refine z_icmp_ne (tgt := 110) ok dL_isLink_98 (by decide) (by omega) (by decide) (fun c => (by omega : False).elim) (fun c98 => ?_)
    refine z_iload ok dL_isLink_101 rfl ?_
    refine z_if_eq (tgt := 110) ok dL_isLink_103 (by decide) (by decide) (fun c => absurd c (by decide)) (fun c103 => ?_)
    refine z_iconst ok dL_isLink_106 ?_
    refine z_goto (tgt := 111) ok dL_isLink_107 (by decide) ?_
    refine z_eq (ws' := obW Z ad N h1) (List.append_nil _) ?_
    exact fin 1 (N, h1) 111 _ _ _ dL_isLink_111 (by decide) (⟨rfl, h1I, hV, rfl, rfl, rfl⟩) (by decide) (by decide)
  · -- case 1
    obtain ⟨l1, l2, l3, l4, l5, l6⟩ := lk_yes (w := w) hw hb hd hww c.1
    refine z_lsub ok (lv' := [(0, .ref (obX ad)), (1, .int (iI b)), (2, .int (iI d)), (3, .int (iI w))]) [0, 1, 2, 3] rfl ?_
    refine z_eq (ws' := ([] : va_W) ++ (obW Z ad N h ++ ([] : va_W))) o_in ?_
    refine z_aload_n ok dL_isLink_0 rfl ?_
    refine z_iload_n ok dL_isLink_1 rfl ?_
    refine z_iconst ok dL_isLink_2 ?_
    refine z_iload_n ok dL_isLink_3 rfl ?_
    refine z_iadd ok dL_isLink_4 ?_
    refine o_ofBox (v := lkV N b d) ok hI hw (by omega) (by omega) (v_bl (by assumption) (by omega) rfl) qm_RL_24 dL_isLink_5 (by decide) ⟨by decide, by decide⟩ (Nat.le_of_ble_eq_true rfl) ?_
    refine z_istore (lv' := [(4, .int (iI (lkV N b d))), (0, .ref (obX ad)), (1, .int (iI b)), (2, .int (iI d)), (3, .int (iI w))]) ok dL_isLink_8 (by decide) rfl ?_
    refine z_aload_n ok dL_isLink_10 rfl ?_
    refine o_pairs (v := prs N) ok hI hw  (rfl) qm_RL_56 dL_isLink_11 (by decide) ⟨by decide, by decide⟩ (Nat.le_of_ble_eq_true rfl) ?_
    refine z_istore (lv' := [(5, .int (iI (prs N))), (4, .int (iI (lkV N b d))), (0, .ref (obX ad)), (1, .int (iI b)), (2, .int (iI d)), (3, .int (iI w))]) ok dL_isLink_14 (by decide) rfl ?_
    refine z_aload_n ok dL_isLink_16 rfl ?_
    refine z_iload_n ok dL_isLink_17 rfl ?_
    refine z_iload_n ok dL_isLink_18 rfl ?_
    refine z_iload_n ok dL_isLink_19 rfl ?_
    refine o_link ok hI hw (by omega) (by omega) (by omega) qm_RL_40 dL_isLink_20 (by decide) ⟨by decide, by decide⟩ (Nat.le_of_ble_eq_true rfl) (fun r3 N2 h1 h1I h1c => ?_)
    obtain ⟨q2, q3⟩ : r3 = lnkR N b d w ∧ N2 = zu N (lkm N b d) (1 - w) := by rcases h1c with ⟨a, _, _⟩ | ⟨_, a, b⟩; exact absurd l1 a; exact ⟨a, b⟩
    rw [l2] at q2
    rw [q3] at h1I
    rw [q2, q3]
    have hV2 := INV_lnk hV hb hd c.1 hvw
    have hw2 := hV2.1.1
    have hpr2 := prs_rng hw2
    have hb2 : isB (zu N (lkm N b d) (1 - w)) b := by unfold isB; rw [zu_n (by omega), zu_n (by omega)]; exact hb0
    have hpl := prs_lk hw l6
    have hpe : prs (zu N (lkm N b d) (1 - w)) = prs (zu N (lkm N b d) 0) := by rw [c.2]; rfl
    refine z_istore (lv' := [(6, .int (iI (lkV N b d))), (5, .int (iI (prs N))), (4, .int (iI (lkV N b d))), (0, .ref (obX ad)), (1, .int (iI b)), (2, .int (iI d)), (3, .int (iI w))]) ok dL_isLink_23 (by decide) rfl ?_
    refine z_iload ok dL_isLink_25 rfl ?_
    refine z_if_lt (tgt := 56) ok dL_isLink_27 (by decide) (by omega) (fun c => (by omega : False).elim) (fun c27 => ?_)
    refine z_iload_n ok dL_isLink_30 rfl ?_
    refine z_iconst ok dL_isLink_31 ?_
    refine z_icmp_ne (tgt := 47) ok dL_isLink_32 (by decide) (by omega) (by decide) (fun c => (by omega : False).elim) (fun c32 => ?_)
    refine z_aload_n ok dL_isLink_35 rfl ?_
    refine o_pairs (v := prs (zu N (lkm N b d) (1 - w))) ok h1I hw2  (rfl) qm_RL_56 dL_isLink_36 (by decide) ⟨by decide, by decide⟩ (Nat.le_of_ble_eq_true rfl) ?_
    refine z_iload ok dL_isLink_39 rfl ?_
    refine z_icmp_lt (tgt := 60) ok dL_isLink_41 (by decide) (by omega) (by omega) (fun c => (by omega : False).elim) (fun c41 => ?_)
    refine z_goto (tgt := 56) ok dL_isLink_44 (by decide) ?_
    refine z_iconst ok dL_isLink_56 ?_
    refine z_goto (tgt := 61) ok dL_isLink_57 (by decide) ?_
    refine z_istore (lv' := [(7, .int (iI 1)), (6, .int (iI (lkV N b d))), (5, .int (iI (prs N))), (4, .int (iI (lkV N b d))), (0, .ref (obX ad)), (1, .int (iI b)), (2, .int (iI d)), (3, .int (iI w))]) ok dL_isLink_61 (by decide) rfl ?_
    refine z_iload ok dL_isLink_63 rfl ?_
    refine z_iload ok dL_isLink_65 rfl ?_
    refine z_if_ge (tgt := 74) ok dL_isLink_67 (by decide) (by omega) (fun c67 => ?_) (fun c => (by omega : False).elim)
    refine z_iload ok dL_isLink_74 rfl ?_
    refine z_icmp_ne (tgt := 110) ok dL_isLink_76 (by decide) (by omega) (by omega) (fun c => (by omega : False).elim) (fun c76 => ?_)
    refine z_aload_n ok dL_isLink_79 rfl ?_
    refine z_iload_n ok dL_isLink_80 rfl ?_
    refine z_iconst ok dL_isLink_81 ?_
    refine z_iload_n ok dL_isLink_82 rfl ?_
    refine z_iadd ok dL_isLink_83 ?_
    refine o_ofBox (v := lkV (zu N (lkm N b d) (1 - w)) b d) ok h1I hw2 (by omega) (by omega) (v_bl (by assumption) (by omega) rfl) qm_RL_24 dL_isLink_84 (by decide) ⟨by decide, by decide⟩ (Nat.le_of_ble_eq_true rfl) ?_
    refine z_iload ok dL_isLink_87 rfl ?_
    refine z_if_ge (tgt := 97) ok dL_isLink_89 (by decide) (by omega) (fun c89 => ?_) (fun c => (by omega : False).elim)
    refine z_iload_n ok dL_isLink_97 rfl ?_
    refine z_icmp_ne (tgt := 110) ok dL_isLink_98 (by decide) (by omega) (by omega) (fun c => (by omega : False).elim) (fun c98 => ?_)
    refine z_iload ok dL_isLink_101 rfl ?_
    refine z_if_eq (tgt := 110) ok dL_isLink_103 (by decide) (by decide) (fun c => absurd c (by decide)) (fun c103 => ?_)
    refine z_iconst ok dL_isLink_106 ?_
    refine z_goto (tgt := 111) ok dL_isLink_107 (by decide) ?_
    refine z_eq (ws' := obW Z ad (zu N (lkm N b d) (1 - w)) h1) (List.append_nil _) ?_
    exact fin 1 (zu N (lkm N b d) (1 - w), h1) 111 _ _ _ dL_isLink_111 (by decide) (⟨rfl, h1I, hV2, zu_n (by omega), zu_n (by omega), zu_n (by omega)⟩) (by decide) (by decide)
  · -- case 2
    obtain ⟨l1, l2, l3, l4, l5, l6⟩ := lk_yes (w := w) hw hb hd hww c.1
    refine z_lsub ok (lv' := [(0, .ref (obX ad)), (1, .int (iI b)), (2, .int (iI d)), (3, .int (iI w))]) [0, 1, 2, 3] rfl ?_
    refine z_eq (ws' := ([] : va_W) ++ (obW Z ad N h ++ ([] : va_W))) o_in ?_
    refine z_aload_n ok dL_isLink_0 rfl ?_
    refine z_iload_n ok dL_isLink_1 rfl ?_
    refine z_iconst ok dL_isLink_2 ?_
    refine z_iload_n ok dL_isLink_3 rfl ?_
    refine z_iadd ok dL_isLink_4 ?_
    refine o_ofBox (v := lkV N b d) ok hI hw (by omega) (by omega) (v_bl (by assumption) (by omega) rfl) qm_RL_24 dL_isLink_5 (by decide) ⟨by decide, by decide⟩ (Nat.le_of_ble_eq_true rfl) ?_
    refine z_istore (lv' := [(4, .int (iI (lkV N b d))), (0, .ref (obX ad)), (1, .int (iI b)), (2, .int (iI d)), (3, .int (iI w))]) ok dL_isLink_8 (by decide) rfl ?_
    refine z_aload_n ok dL_isLink_10 rfl ?_
    refine o_pairs (v := prs N) ok hI hw  (rfl) qm_RL_56 dL_isLink_11 (by decide) ⟨by decide, by decide⟩ (Nat.le_of_ble_eq_true rfl) ?_
    refine z_istore (lv' := [(5, .int (iI (prs N))), (4, .int (iI (lkV N b d))), (0, .ref (obX ad)), (1, .int (iI b)), (2, .int (iI d)), (3, .int (iI w))]) ok dL_isLink_14 (by decide) rfl ?_
    refine z_aload_n ok dL_isLink_16 rfl ?_
    refine z_iload_n ok dL_isLink_17 rfl ?_
    refine z_iload_n ok dL_isLink_18 rfl ?_
    refine z_iload_n ok dL_isLink_19 rfl ?_
    refine o_link ok hI hw (by omega) (by omega) (by omega) qm_RL_40 dL_isLink_20 (by decide) ⟨by decide, by decide⟩ (Nat.le_of_ble_eq_true rfl) (fun r3 N2 h1 h1I h1c => ?_)
    obtain ⟨q2, q3⟩ : r3 = lnkR N b d w ∧ N2 = zu N (lkm N b d) (1 - w) := by rcases h1c with ⟨a, _, _⟩ | ⟨_, a, b⟩; exact absurd l1 a; exact ⟨a, b⟩
    rw [l2] at q2
    rw [q3] at h1I
    rw [q2, q3]
    have hV2 := INV_lnk hV hb hd c.1 hvw
    have hw2 := hV2.1.1
    have hpr2 := prs_rng hw2
    have hb2 : isB (zu N (lkm N b d) (1 - w)) b := by unfold isB; rw [zu_n (by omega), zu_n (by omega)]; exact hb0
    have hpl := prs_lk hw l6
    have hpe : prs (zu N (lkm N b d) (1 - w)) = prs (zu N (lkm N b d) 1) := by rw [c.2]; rfl
    refine z_istore (lv' := [(6, .int (iI (lkV N b d))), (5, .int (iI (prs N))), (4, .int (iI (lkV N b d))), (0, .ref (obX ad)), (1, .int (iI b)), (2, .int (iI d)), (3, .int (iI w))]) ok dL_isLink_23 (by decide) rfl ?_
    refine z_iload ok dL_isLink_25 rfl ?_
    refine z_if_lt (tgt := 56) ok dL_isLink_27 (by decide) (by omega) (fun c => (by omega : False).elim) (fun c27 => ?_)
    refine z_iload_n ok dL_isLink_30 rfl ?_
    refine z_iconst ok dL_isLink_31 ?_
    refine z_icmp_ne (tgt := 47) ok dL_isLink_32 (by decide) (by omega) (by decide) (fun c32 => ?_) (fun c => (by omega : False).elim)
    refine z_aload_n ok dL_isLink_47 rfl ?_
    refine o_pairs (v := prs (zu N (lkm N b d) (1 - w))) ok h1I hw2  (rfl) qm_RL_56 dL_isLink_48 (by decide) ⟨by decide, by decide⟩ (Nat.le_of_ble_eq_true rfl) ?_
    refine z_iload ok dL_isLink_51 rfl ?_
    refine z_icmp_gt (tgt := 60) ok dL_isLink_53 (by decide) (by omega) (by omega) (fun c => (by omega : False).elim) (fun c53 => ?_)
    refine z_iconst ok dL_isLink_56 ?_
    refine z_goto (tgt := 61) ok dL_isLink_57 (by decide) ?_
    refine z_istore (lv' := [(7, .int (iI 1)), (6, .int (iI (lkV N b d))), (5, .int (iI (prs N))), (4, .int (iI (lkV N b d))), (0, .ref (obX ad)), (1, .int (iI b)), (2, .int (iI d)), (3, .int (iI w))]) ok dL_isLink_61 (by decide) rfl ?_
    refine z_iload ok dL_isLink_63 rfl ?_
    refine z_iload ok dL_isLink_65 rfl ?_
    refine z_if_ge (tgt := 74) ok dL_isLink_67 (by decide) (by omega) (fun c67 => ?_) (fun c => (by omega : False).elim)
    refine z_iload ok dL_isLink_74 rfl ?_
    refine z_icmp_ne (tgt := 110) ok dL_isLink_76 (by decide) (by omega) (by omega) (fun c => (by omega : False).elim) (fun c76 => ?_)
    refine z_aload_n ok dL_isLink_79 rfl ?_
    refine z_iload_n ok dL_isLink_80 rfl ?_
    refine z_iconst ok dL_isLink_81 ?_
    refine z_iload_n ok dL_isLink_82 rfl ?_
    refine z_iadd ok dL_isLink_83 ?_
    refine o_ofBox (v := lkV (zu N (lkm N b d) (1 - w)) b d) ok h1I hw2 (by omega) (by omega) (v_bl (by assumption) (by omega) rfl) qm_RL_24 dL_isLink_84 (by decide) ⟨by decide, by decide⟩ (Nat.le_of_ble_eq_true rfl) ?_
    refine z_iload ok dL_isLink_87 rfl ?_
    refine z_if_ge (tgt := 97) ok dL_isLink_89 (by decide) (by omega) (fun c89 => ?_) (fun c => (by omega : False).elim)
    refine z_iload_n ok dL_isLink_97 rfl ?_
    refine z_icmp_ne (tgt := 110) ok dL_isLink_98 (by decide) (by omega) (by omega) (fun c => (by omega : False).elim) (fun c98 => ?_)
    refine z_iload ok dL_isLink_101 rfl ?_
    refine z_if_eq (tgt := 110) ok dL_isLink_103 (by decide) (by decide) (fun c => absurd c (by decide)) (fun c103 => ?_)
    refine z_iconst ok dL_isLink_106 ?_
    refine z_goto (tgt := 111) ok dL_isLink_107 (by decide) ?_
    refine z_eq (ws' := obW Z ad (zu N (lkm N b d) (1 - w)) h1) (List.append_nil _) ?_
    exact fin 1 (zu N (lkm N b d) (1 - w), h1) 111 _ _ _ dL_isLink_111 (by decide) (⟨rfl, h1I, hV2, zu_n (by omega), zu_n (by omega), zu_n (by omega)⟩) (by decide) (by decide)
