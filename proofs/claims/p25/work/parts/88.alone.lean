/-! a packet alone -/
theorem ins_1 {M : Int → Int} {b : Int} (h6 : M 6 = 1) : ins M b = zb (pk M 0 2 = 1 ∧ pk M 0 3 = b) := by
  unfold ins
  rw [h6]
  show (0 : Int) + insf M b ((0 : Nat) : Int) = _
  rw [Int.zero_add]
  rfl
/-- inside, alone, with k of L moves left -/
def AL (B : Int) (M : Int → Int) (f t L k : Int) : Prop := INV B M ∧ M 6 = 1 ∧ pk M 0 0 = f ∧ pk M 0 1 = t ∧ pk M 0 2 = 1 ∧ pk M 0 6 = 0 ∧ pk M 0 4 + k = L ∧ fr M t (stg M 0) = k ∧ 1 ≤ k
def ARR (B : Int) (M : Int → Int) (f t L : Int) : Prop := INV B M ∧ M 6 = 1 ∧ pk M 0 0 = f ∧ pk M 0 1 = t ∧ pk M 0 2 = 2 ∧ pk M 0 6 = 0 ∧ pk M 0 4 = L ∧ pk M 0 3 = t
def OUT (B : Int) (M : Int → Int) (f t L : Int) : Prop := INV B M ∧ M 6 = 1 ∧ pk M 0 0 = f ∧ pk M 0 1 = t ∧ pk M 0 2 = 0 ∧ pk M 0 6 = 0 ∧ pk M 0 4 = 0 ∧ fr M t (stg M 0) = L ∧ 1 ≤ L
theorem pas_o {M : Int → Int} (hw : wf M) : same M (pasN M) := pas_same hw
theorem out_in {B : Int} {M : Int → Int} {f t L : Int} (h : OUT B M f t L) : AL (B + 1) (pasN M) f t L L := by
  obtain ⟨hI, h6, p0, p1, p2, p6, p4, hf, hL⟩ := h
  have hw := hI.1.1
  have hq : (0 : Int) ≤ 0 ∧ 0 < M 6 := ⟨Int.le_refl 0, by omega⟩
  have hlo := (wf_pas hw).2
  have hst := stg_rng hw hq
  have i0 : insQ M 0 (pk M 0 3) = 0 := by
    rw [insQ_0, ins_1 h6]; exact zb_f (fun z => by have := z.1; omega)
  have w2 := hw.2.2.1
  rcases tk_5 hw hq with ⟨k1, -⟩ | ⟨k1, -, k2, k3, -⟩ | ⟨k1, k2, -⟩ | ⟨g, k1, -⟩ | ⟨k1, -⟩
  · omega
  · have e3 := k3 3 (by omega) (by omega) (by omega)
    have e9 := k3 9 (by omega) (by omega) (by omega)
    have e5 := k3 5 (by omega) (by omega) (by omega)
    have es : stg (pasN M) 0 = stg M 0 := by unfold stg; rw [e3, e9, e5]
    refine ⟨INV_pas hI, by rw [hlo 6 (by omega) (by omega)]; exact h6, by rw [k3 0 (by omega) (by omega) (by omega)]; exact p0, by rw [k3 1 (by omega) (by omega) (by omega)]; exact p1, k2, by rw [k3 6 (by omega) (by omega) (by omega)]; exact p6, by rw [k3 4 (by omega) (by omega) (by omega)]; omega, ?_, hL⟩
    rw [es, fr_same hw (pas_o hw) ⟨hst.1, hst.2.1⟩]
    exact hf
  · omega
  · omega
  · omega
theorem al_step {B : Int} {M : Int → Int} {f t L k : Int} (h : AL B M f t L k) : (0 ≤ fsN M 0 ∧ fsN M 0 < 4) ∧ opn M (pk M 0 3) (fsN M 0) ∧ ¬ (M 0 = 1 ∧ fsN M 0 = 0 ∧ pk M 0 9 = 1) ∧ (0 ≤ nb M (pk M 0 3) (fsN M 0) ∧ nb M (pk M 0 3) (fsN M 0) < M 4 * M 5) ∧ pk (pasN M) 0 3 = nb M (pk M 0 3) (fsN M 0) ∧
    1 ≤ pasN M (60 + 4 * pk M 0 3 + fsN M 0) ∧ pk (pasN M) 0 9 = (if fsN M 0 = 0 then pk M 0 9 else 1) ∧ ((k = 1 ∧ ARR (B + 1) (pasN M) f t L) ∨ (2 ≤ k ∧ AL (B + 1) (pasN M) f t L (k - 1))) := by
  obtain ⟨hI, h6, p0, p1, p2, p6, p4, hf, hL⟩ := h
  have hw := hI.1.1
  have hq : (0 : Int) ≤ 0 ∧ 0 < M 6 := ⟨Int.le_refl 0, by omega⟩
  have hlo := (wf_pas hw).2
  have hst := stg_rng hw hq
  have w2 := hw.2.2.1
  have hc := hw.2.2.2.1
  have hP := hI.2.1 0 (Int.le_refl 0) hq.2
  have wpp := hw.2.2.2.2.2.2.2 0 hq.1 hq.2
  have hcr := wf_cr hw
  have hne := (hP.2.1 (by omega)).2
  rw [← p1] at hf
  rcases pk_sp hw hq hne with ⟨h1, -⟩ | ⟨-, -, -, f0, f1, f2, f3⟩
  · omega
  have hnb := pss_nb hw hq ⟨f0, by omega⟩ f2
  have hms := mvd_spec hw ⟨hst.1, hst.2.1⟩ ⟨f0, by omega⟩ f2.1
  obtain ⟨ok, -, m1, m2, m3, m4, m5⟩ := hms
  rw [hst.2.2.1] at m1 m3
  rw [hst.2.2.2.1] at m2
  rw [hst.2.2.2.2] at m3
  have hnn := nb_ne hc (by omega : 0 ≤ pk M 0 3) hnb.1
  have i0 : insQ M 0 (nb M (pk M 0 3) (fsN M 0)) = 0 := by
    rw [insQ_0, ins_1 h6]; exact zb_f (fun z => hnn.1 z.2.symm)
  have hgo : goN M 0 = fsN M 0 := go_fs f0 (Or.inr (by rw [insQ_0] at i0; omega))
  have hok2 : opn M (pk M 0 3) (fsN M 0) ∧ ¬ (M 0 = 1 ∧ fsN M 0 = 0 ∧ pk M 0 9 = 1) := by
    obtain ⟨o1, o2, -⟩ := ok
    rw [hst.2.2.1] at o1
    rw [hst.2.2.2.1] at o2
    exact ⟨o1, o2⟩
  have hmv : 1 ≤ pasN M (60 + 4 * pk M 0 3 + fsN M 0) := by
    have e : pasN M (60 + 4 * pk M 0 3 + fsN M 0) = stN M 1 (60 + 4 * pk M 0 3 + fsN M 0) := by rw [pas_k (by omega), h6]; rfl
    have e2 : stN M 1 = stpN M 0 := rfl
    have e3 : stpN M 0 = mvN M 0 (goN M 0) := (stp_1y p2 (by omega)).symm
    rw [e, e2, e3, mvN_lo (Int.le_refl 0) (by omega), hgo, if_pos rfl]
    have := (hI.1.2.2.1 (4 * pk M 0 3 + fsN M 0) (by omega) (by omega)).1
    rw [show 60 + (4 * pk M 0 3 + fsN M 0) = 60 + 4 * pk M 0 3 + fsN M 0 by omega] at this
    omega
  rcases tk_5 hw hq with ⟨k1, -⟩ | ⟨k1, -⟩ | ⟨k1, -⟩ | ⟨g, k1, -, -, -, -, -, -, kg, ⟨z0, z1, z2, z3, z4, z5, z6, z7, z8, z9⟩, -⟩ | ⟨k1, k2, -⟩
  · omega
  · omega
  · omega
  · have eg : g = fsN M 0 := kg (Or.inr (by omega))
    subst eg
    refine ⟨⟨f0, f1⟩, hok2.1, hok2.2, hnb, z3, hmv, z9, ?_⟩
    have hI' := INV_pas hI
    have h6' : pasN M 6 = 1 := by rw [hlo 6 (by omega) (by omega)]; exact h6
    have es : stg (pasN M) 0 = mvd M (stg M 0) (fsN M 0) (pk M 0 1) := by
      unfold stg
      rw [z3, z9, z5]
      unfold stg at m1 m2 m3 m4
      omega
    have hfr : fr (pasN M) t (stg (pasN M) 0) = k - 1 := by
      rw [es, ← p1, fr_same hw (pas_o hw) ⟨m4, m5⟩]
      omega
    have hst' := stg_rng hI'.1.1 (p := 0) ⟨Int.le_refl 0, by omega⟩
    by_cases hk : k = 1
    · have e0 : nb M (pk M 0 3) (fsN M 0) = pk M 0 1 := by
        have : stg (pasN M) 0 / 10 = t := Classical.byContradiction (fun z => by
          rcases fr_away (N := pasN M) z with q | q <;> omega)
        rw [hst'.2.2.1, z3] at this
        omega
      exact Or.inl ⟨hk, hI', h6', by omega, by omega, by rw [z2, if_pos e0], by omega, by omega, by omega⟩
    · have e0 : nb M (pk M 0 3) (fsN M 0) ≠ pk M 0 1 := fun e => by
        have : fr (pasN M) t (stg (pasN M) 0) = 0 := (fr_here (by rw [hst'.2.2.1, z3]; omega)).1
        omega
      exact Or.inr ⟨by omega, hI', h6', by omega, by omega, by rw [z2, if_neg e0], by omega, by omega, hfr, by omega⟩
  · rcases k2 with k2 | ⟨-, -, -, k2⟩ <;> omega
theorem al_it {B : Int} {M : Int → Int} {f t L : Int} (h : OUT B M f t L) : ∀ j : Nat, (j : Int) + 1 ≤ L → AL (B + (j + 1)) (tkN M (j + 1)) f t L (L - j)
  | 0, _ => by
    have := out_in h
    show AL (B + (((0 : Nat) : Int) + 1)) (pasN M) f t L (L - ((0 : Nat) : Int))
    rw [show B + (((0 : Nat) : Int) + 1) = B + 1 by omega, show L - ((0 : Nat) : Int) = L by omega]
    exact this
  | j + 1, hj => by
    have ih := al_it h j (by omega)
    rcases (al_step ih).2.2.2.2.2.2.2 with ⟨q, -⟩ | ⟨-, q⟩
    · omega
    · show AL (B + (((j + 1 : Nat) : Int) + 1)) (pasN (tkN M (j + 1))) f t L (L - ((j + 1 : Nat) : Int))
      rw [show B + (((j + 1 : Nat) : Int) + 1) = B + ((j : Int) + 1) + 1 by omega, show L - ((j + 1 : Nat) : Int) = L - (j : Int) - 1 by omega]
      exact q
theorem al_end {B : Int} {M : Int → Int} {f t L : Int} (h : OUT B M f t L) : pk (tkN M (L + 1).toNat) 0 2 = 2 := by
  have hL := h.2.2.2.2.2.2.2.2
  have hk := al_it h (L - 1).toNat (by omega)
  rcases (al_step hk).2.2.2.2.2.2.2 with ⟨-, q⟩ | ⟨q, -⟩
  · have e : (L + 1).toNat = (L - 1).toNat + 1 + 1 := by omega
    rw [e]
    exact q.2.2.2.2.1
  · omega
theorem arr_L {B : Int} {M : Int → Int} {f t L : Int} (h : OUT B M f t L) : arR M 0 = L + 1 := by
  have hI := h.1
  have hw := hI.1.1
  have hL := h.2.2.2.2.2.2.2.2
  have hq : (0 : Int) ≤ 0 ∧ 0 < M 6 := ⟨Int.le_refl 0, by have := h.2.1; omega⟩
  have hst := stg_rng hw hq
  have wpp := hw.2.2.2.2.2.2.2 0 hq.1 hq.2
  have hfr := fr_rng (to := pk M 0 1) (s := stg M 0) hw wpp.2.1 ⟨hst.1, hst.2.1⟩
  rw [h.2.2.2.1, h.2.2.2.2.2.2.2.1] at hfr
  unfold arR
  rw [zif_t hq]
  refine fsk_yes (by omega) (by omega) (al_end h) (fun j j0 j1 hj => ?_)
  unfold arQ at hj
  by_cases e : j = 0
  · subst e
    have : pk M 0 2 = 2 := hj
    have := h.2.2.2.2.1
    omega
  · have hk := al_it h (j - 1).toNat (by omega)
    rw [show (j - 1).toNat + 1 = j.toNat by omega] at hk
    have := hk.2.2.2.2.1
    omega
/-- at the end: the detours -/
theorem arr_d {B : Int} {M : Int → Int} {f t L : Int} (h : ARR B M f t L) : dist M f t = L - 2 * pk M 0 5 := by
  obtain ⟨hI, h6, p0, p1, p2, p6, p4, p3⟩ := h
  have hP := (hI.2.1 0 (Int.le_refl 0) (by omega)).2.2.2.1
  rw [p0, p1, p3, dist_0, p4] at hP
  omega
/-- the packet is sent in a mesh without any -/
theorem snd_OUT {B : Int} {N M : Int → Int} {f t : Int} (hI : INV B M) (hw : wf N) (h6 : M 6 = 0) (hs : same N M) (hf : isB N f) (ht : isB N t) (hne : f ≠ t) (hfr : 0 ≤ fr N t (10 * f)) : sndE M f t = 0 ∧ OUT B (sndN M f t) f t (fr N t (10 * f)) := by
  have e4 := hs 4 (by omega) (by omega) (by omega) (by omega) (by omega)
  have e5 := hs 5 (by omega) (by omega) (by omega) (by omega) (by omega)
  have hcr := wf_cr hw
  unfold isB at hf ht
  have hfM : fr M t (10 * f) = fr N t (10 * f) := fr_same hw hs (by omega)
  have h0 : sndE M f t = 0 := by
    unfold sndE isB
    rw [e4, e5, zif_t ⟨hf, ht, hne⟩, zif_f (by omega), zif_f (by omega)]
  have hI' := INV_snd hI h0
  have w6 := hI.1.1.2.2.2.2.2.1
  have q : ∀ j : Int, 0 ≤ j → j ≤ 9 → pk (sndN M f t) 0 j = (if j = 0 ∨ j = 3 then f else if j = 1 then t else if j = 7 then M 3 else if j = 8 then -6 else 0) := fun j j0 j1 => by rw [snd_pk w6.1 (Int.le_refl 0) ⟨j0, j1⟩, if_pos h6.symm]
  have es : stg (sndN M f t) 0 = 10 * f := by
    unfold stg
    rw [q 3 (by omega) (by omega), q 9 (by omega) (by omega), q 5 (by omega) (by omega)]
    simp
  have e6 := (wf_snd hI.1.1 h0).2.1
  refine ⟨h0, hI', by omega, q 0 (by omega) (by omega), q 1 (by omega) (by omega), q 2 (by omega) (by omega), q 6 (by omega) (by omega), q 4 (by omega) (by omega), ?_, ?_⟩
  · rw [es, fr_same hI.1.1 (snd_same w6.1) (by rw [e4, e5]; omega), hfM]
  · rcases fr_away (N := N) (to := t) (s := 10 * f) (by omega) with h | h <;> omega
