/-! the whole of the class: its object, the states of its history and of its slots -/
noncomputable def hW (Z : zZ) (A : Nat → Nat → Nat) (H : Nat → Int → Int) : va_W := zf [soW Z (A 0) (H 0) (ins (H 0)) (mvF (H 0)) ((H 0) 3), gW Z (A 0) ((H 0) 4) ((H 0) 5) (bkL (H 0)), pW Z (A 0) ((H 0) 6) (pkF (H 0) 0) (pkF (H 0) 1) (pkF (H 0) 2) (pkF (H 0) 3) (pkF (H 0) 4) (pkF (H 0) 5) (pkF (H 0) 6) (pkF (H 0) 7) (pkF (H 0) 8) (pkF (H 0) 9), soW Z (A 1) (H 1) (ins (H 1)) (mvF (H 1)) ((H 1) 3), gW Z (A 1) ((H 1) 4) ((H 1) 5) (bkL (H 1)), pW Z (A 1) ((H 1) 6) (pkF (H 1) 0) (pkF (H 1) 1) (pkF (H 1) 2) (pkF (H 1) 3) (pkF (H 1) 4) (pkF (H 1) 5) (pkF (H 1) 6) (pkF (H 1) 7) (pkF (H 1) 8) (pkF (H 1) 9), soW Z (A 2) (H 2) (ins (H 2)) (mvF (H 2)) ((H 2) 3), gW Z (A 2) ((H 2) 4) ((H 2) 5) (bkL (H 2)), pW Z (A 2) ((H 2) 6) (pkF (H 2) 0) (pkF (H 2) 1) (pkF (H 2) 2) (pkF (H 2) 3) (pkF (H 2) 4) (pkF (H 2) 5) (pkF (H 2) 6) (pkF (H 2) 7) (pkF (H 2) 8) (pkF (H 2) 9), soW Z (A 3) (H 3) (ins (H 3)) (mvF (H 3)) ((H 3) 3), gW Z (A 3) ((H 3) 4) ((H 3) 5) (bkL (H 3)), pW Z (A 3) ((H 3) 6) (pkF (H 3) 0) (pkF (H 3) 1) (pkF (H 3) 2) (pkF (H 3) 3) (pkF (H 3) 4) (pkF (H 3) 5) (pkF (H 3) 6) (pkF (H 3) 7) (pkF (H 3) 8) (pkF (H 3) 9), soW Z (A 4) (H 4) (ins (H 4)) (mvF (H 4)) ((H 4) 3), gW Z (A 4) ((H 4) 4) ((H 4) 5) (bkL (H 4)), pW Z (A 4) ((H 4) 6) (pkF (H 4) 0) (pkF (H 4) 1) (pkF (H 4) 2) (pkF (H 4) 3) (pkF (H 4) 4) (pkF (H 4) 5) (pkF (H 4) 6) (pkF (H 4) 7) (pkF (H 4) 8) (pkF (H 4) 9), soW Z (A 5) (H 5) (ins (H 5)) (mvF (H 5)) ((H 5) 3), gW Z (A 5) ((H 5) 4) ((H 5) 5) (bkL (H 5)), pW Z (A 5) ((H 5) 6) (pkF (H 5) 0) (pkF (H 5) 1) (pkF (H 5) 2) (pkF (H 5) 3) (pkF (H 5) 4) (pkF (H 5) 5) (pkF (H 5) 6) (pkF (H 5) 7) (pkF (H 5) 8) (pkF (H 5) 9)]
noncomputable def eW (Z : zZ) (A : Nat → Nat → Nat) (H : Nat → Int → Int) : va_W := zf [soW Z (A 0) (H 0) (ins (H 0)) (mvF (H 0)) ((H 0) 3), gW Z (A 0) ((H 0) 4) ((H 0) 5) (bkL (H 0)), pW Z (A 0) ((H 0) 6) (pkF (H 0) 0) (pkF (H 0) 1) (pkF (H 0) 2) (pkF (H 0) 3) (pkF (H 0) 4) (pkF (H 0) 5) (pkF (H 0) 6) (pkF (H 0) 7) (pkF (H 0) 8) (pkF (H 0) 9), soW Z (A 1) (H 1) (ins (H 1)) (mvF (H 1)) ((H 1) 3), gW Z (A 1) ((H 1) 4) ((H 1) 5) (bkL (H 1)), pW Z (A 1) ((H 1) 6) (pkF (H 1) 0) (pkF (H 1) 1) (pkF (H 1) 2) (pkF (H 1) 3) (pkF (H 1) 4) (pkF (H 1) 5) (pkF (H 1) 6) (pkF (H 1) 7) (pkF (H 1) 8) (pkF (H 1) 9)]
def xW (Z : zZ) (x : Nat → Nat) (n1 n2 n3 n4 n5 n6 : Nat) (und : Int) (hs ss : List Nat) (us : Int → Int) : va_W :=
  [(x 0, .inr (6, [.ref n1, .ref n2, .ref n3, .ref n4, .ref n5, .ref n6, .ref (x 1), .int (iI und), .ref (x 2), .ref (x 3)])),
   (x 1, .inl (Z.2.2.2.2, 6, .inr (.inr (.inr (.inr (fun i : Nat => hs[i]?)))))),
   (x 2, .inl (Z.2.2.2.2, 2, .inr (.inr (.inr (.inr (fun i : Nat => ss[i]?)))))),
   (x 3, .inl (Z.2.2.1, 2, .inl (fun j : Nat => iI (us j))))]
theorem zf_unf (L M : List va_W) : zf (L ++ [zf M]) = zf (L ++ M) := by
  unfold zf
  simp
theorem zf_unf2 (L M R : List va_W) : zf (L ++ zf M :: R) = zf (L ++ (M ++ R)) := by
  unfold zf
  simp
def rotA {α : Type} (A : Nat → α) : Nat → α := fun i => if i < 5 then A (i + 1) else A 0
def recP (und : Int) (H : Nat → Int → Int) (N : Int → Int) (und' : Int) (H' : Nat → Int → Int) : Prop := (und < 6 ∧ und' = und + 1 ∧ H' = va_up H und.toNat N) ∨ (¬ und < 6 ∧ und' = 6 ∧ H' = va_up (rotA H) 5 N)
noncomputable def lkE (N : Int → Int) (b d w : Int) : Int := zif (badK N b d) (-1) (zif ((0 ≤ d ∧ d ≤ 3) ∧ 0 ≤ w ∧ w ≤ 1) 0 (-2))
section ZX
variable {X : zX} {Z : zZ} {R : Room} {cc : ByteArray} {own : String} {nL k n : Nat} {pc : Nat} {lv : List (Nat × Value)} {stk : List Value} {a : Nat → Nat} {N : Int → Int}
/-- a change below the packets -/
theorem z_lo (ok : zOK X Z R cc own nL) (N' : Int → Int) (Lr : List va_W) {st : Int → Int} {c r : Int} {bk : Int64} (hs : ∀ j : Int, 0 ≤ j → j < 3 → st j = N' j) (hc : c = N' 4) (hr : r = N' 5) (hb : bk = bkL N') (h3 : N 3 = N' 3) (h6 : N 6 = N' 6) (hk : ∀ j : Int, 60 ≤ j → N' j = N j) (h : zV X k n (zf (sL Z a N' Lr)) pc lv stk) : zV X k n (zf (soW Z a st (ins N) (mvF N) (N 3) :: gW Z a c r bk :: pW Z a (N 6) (pkF N 0) (pkF N 1) (pkF N 2) (pkF N 3) (pkF N 4) (pkF N 5) (pkF N 6) (pkF N 7) (pkF N 8) (pkF N 9) :: Lr)) pc lv stk := by
  have pe : ∀ j q : Int, 0 ≤ j → 0 ≤ q → pkF N j q = pk N' q j := fun j q hj hq => (hk _ (by omega)).symm
  exact z_sN ok N' Lr hs (fun j _ _ => (ins_lo (fun k hk' => hk k (by omega)) h6.symm).symm) (fun j h0 h1 => (hk _ (by omega)).symm) h3 hc hr hb h6 (fun q hq => pe 0 q (by decide) hq) (fun q hq => pe 1 q (by decide) hq) (fun q hq => pe 2 q (by decide) hq) (fun q hq => pe 3 q (by decide) hq) (fun q hq => pe 4 q (by decide) hq) (fun q hq => pe 5 q (by decide) hq) (fun q hq => pe 6 q (by decide) hq) (fun q hq => pe 7 q (by decide) hq) (fun q hq => pe 8 q (by decide) hq) (fun q hq => pe 9 q (by decide) hq) h
theorem z_set (ok : zOK X Z R cc own nL) (Lr : List va_W) {i v : Int} (hi : 0 ≤ i ∧ i ≤ 2) (h : zV X k n (zf (sL Z a (zu N i v) Lr)) pc lv stk) : zV X k n (zf (soW Z a (zu N i v) (ins N) (mvF N) (N 3) :: gW Z a (N 4) (N 5) (bkL N) :: pW Z a (N 6) (pkF N 0) (pkF N 1) (pkF N 2) (pkF N 3) (pkF N 4) (pkF N 5) (pkF N 6) (pkF N 7) (pkF N 8) (pkF N 9) :: Lr)) pc lv stk :=
  z_lo ok (zu N i v) Lr (fun _ _ _ => rfl) (zu_n (by omega)).symm (zu_n (by omega)).symm (bk_cong (fun k _ _ => (zu_n (by omega)).symm)) (zu_n (by omega)).symm (zu_n (by omega)).symm (fun j hj => zu_n (by omega)) h
theorem z_msh (ok : zOK X Z R cc own nL) (Lr : List va_W) {c r : Int} (h : zV X k n (zf (sL Z a (mshN N c r) Lr)) pc lv stk) : zV X k n (zf (soW Z a N (ins N) (mvF N) (N 3) :: gW Z a c r (iL 0) :: pW Z a (N 6) (pkF N 0) (pkF N 1) (pkF N 2) (pkF N 3) (pkF N 4) (pkF N 5) (pkF N 6) (pkF N 7) (pkF N 8) (pkF N 9) :: Lr)) pc lv stk := by
  have out : ∀ j : Int, j < 10 ∨ 60 ≤ j → mshN N c r j = zu (zu N 4 c) 5 r j := fun j hj => zcp_out (by omega)
  have lo : ∀ j : Int, j < 10 ∨ 60 ≤ j → j ≠ 4 → j ≠ 5 → mshN N c r j = N j := fun j hj h4 h5 => by rw [out j hj, zu_n h5, zu_n h4]
  exact z_lo ok (mshN N c r) Lr (fun j h0 h1 => (lo j (by omega) (by omega) (by omega)).symm) (by rw [out 4 (by omega), zu_n (by decide), zu_s]) (by rw [out 5 (by omega), zu_s]) (bk_zero (fun k h0 h1 => zcp_in (by omega))).symm (lo 3 (by omega) (by decide) (by decide)).symm (lo 6 (by omega) (by decide) (by decide)).symm (fun j hj => lo j (by omega) (by omega) (by omega)) h
theorem z_lnk (ok : zOK X Z R cc own nL) (Lr : List va_W) {i v : Int} (hi : 10 ≤ i ∧ i < 60) (h : zV X k n (zf (sL Z a (zu N i v) Lr)) pc lv stk) : zV X k n (zf (soW Z a N (ins N) (mvF N) (N 3) :: gW Z a (N 4) (N 5) (bkL (zu N i v)) :: pW Z a (N 6) (pkF N 0) (pkF N 1) (pkF N 2) (pkF N 3) (pkF N 4) (pkF N 5) (pkF N 6) (pkF N 7) (pkF N 8) (pkF N 9) :: Lr)) pc lv stk :=
  z_lo ok (zu N i v) Lr (fun j h0 h1 => (zu_n (by omega)).symm) (zu_n (by omega)).symm (zu_n (by omega)).symm rfl (zu_n (by omega)).symm (zu_n (by omega)).symm (fun j hj => zu_n (by omega)) h
theorem sndq_pk {p q j f t : Int} (h6 : 0 ≤ N 6) (hp : p = N 6) (hq : 0 ≤ q) (hj : 0 ≤ j ∧ j ≤ 9) : pk (sndN N f t) q j = if q = p then (if j = 0 then f else if j = 1 then t else if j = 3 then f else if j = 7 then N 3 else if j = 8 then -6 else 0) else pk N q j := by
  subst hp
  unfold sndN
  rw [pk_bk (by omega) hj, pk_bk (by omega) hj, pk_bk (by omega) hj, pk_bk (by omega) hj, pk_bk (by omega) hj]
  have ec : pk (clrN (zu N 6 (N 6 + 1)) (N 6)) q j = if q = N 6 then 0 else pk N q j := by
    unfold clrN pk
    by_cases e : q = N 6
    · rw [if_pos e, zcp_in (by omega)]
    · rw [if_neg e, zcp_out (by omega), zu_n (by omega)]
  rw [ec]
  by_cases e : q = N 6
  · rw [if_pos e, if_pos e]
    by_cases h8 : j = 8
    · rw [if_pos ⟨e, h8⟩, if_neg (by omega), if_neg (by omega), if_neg (by omega), if_neg (by omega), if_pos h8]
    · rw [if_neg (fun z => h8 z.2)]
      by_cases h7 : j = 7
      · rw [if_pos ⟨e, h7⟩, if_neg (by omega), if_neg (by omega), if_neg (by omega), if_pos h7]
      · rw [if_neg (fun z => h7 z.2)]
        by_cases h3 : j = 3
        · rw [if_pos ⟨e, h3⟩, if_neg (by omega), if_neg (by omega), if_pos h3]
        · rw [if_neg (fun z => h3 z.2)]
          by_cases h1 : j = 1
          · rw [if_pos ⟨e, h1⟩, if_neg (by omega), if_pos h1]
          · rw [if_neg (fun z => h1 z.2)]
            by_cases h0 : j = 0
            · rw [if_pos ⟨e, h0⟩, if_pos h0]
            · rw [if_neg (fun z => h0 z.2), if_neg h0, if_neg h1, if_neg h3, if_neg h7, if_neg h8]
  · rw [if_neg e, if_neg (fun z => e z.1), if_neg (fun z => e z.1), if_neg (fun z => e z.1), if_neg (fun z => e z.1), if_neg (fun z => e z.1)]
    rw [if_neg e]
theorem snd_6 {f t : Int} (h6 : 0 ≤ N 6) : sndN N f t 6 = N 6 + 1 := by
  unfold sndN
  rw [bk_lo h6 (by decide) (by decide), bk_lo h6 (by decide) (by decide), bk_lo h6 (by decide) (by decide), bk_lo h6 (by decide) (by decide), bk_lo h6 (by decide) (by decide)]
  unfold clrN
  rw [zcp_out (by omega), zu_s]
theorem z_snd (ok : zOK X Z R cc own nL) (Lr : List va_W) {f t : Int} (h6 : 0 ≤ N 6) (h : zV X k n (zf (sL Z a (sndN N f t) Lr)) pc lv stk) : zV X k n (zf (soW Z a N (ins N) (mvF N) (N 3) :: gW Z a (N 4) (N 5) (bkL N) :: pW Z a (N 6 + 1) (zu (pkF N 0) (N 6) f) (zu (pkF N 1) (N 6) t) (zu (pkF N 2) (N 6) 0) (zu (pkF N 3) (N 6) f) (zu (pkF N 4) (N 6) 0) (zu (pkF N 5) (N 6) 0) (zu (pkF N 6) (N 6) 0) (zu (pkF N 7) (N 6) (N 3)) (zu (pkF N 8) (N 6) (-6)) (zu (pkF N 9) (N 6) 0) :: Lr)) pc lv stk := by
  have lo : ∀ j : Int, j < 160 → j ≠ 6 → N j = sndN N f t j := fun j h1 h2 => (snd_lo h6 h1 h2).symm
  have pe : ∀ j v q : Int, 0 ≤ j ∧ j ≤ 9 → 0 ≤ q → v = (if j = 0 then f else if j = 1 then t else if j = 3 then f else if j = 7 then N 3 else if j = 8 then -6 else 0) → zu (pkF N j) (N 6) v q = pk (sndN N f t) q j := by
    intro j v q hj hq hv
    rw [sndq_pk h6 rfl hq hj, ← hv]
    unfold zu
    rfl
  refine z_sN ok (sndN N f t) Lr (fun j a b => lo j (by omega) (by omega)) (fun j a b => ?_) (fun j a b => lo _ (by omega) (by omega)) (lo 3 (by decide) (by decide)) (lo 4 (by decide) (by decide)) (lo 5 (by decide) (by decide)) (bk_cong (fun k h1 h2 => lo k (by omega) (by omega))) (snd_6 h6).symm (fun q hq => pe 0 _ q (by omega) hq rfl) (fun q hq => pe 1 _ q (by omega) hq rfl) (fun q hq => pe 2 _ q (by omega) hq rfl) (fun q hq => pe 3 _ q (by omega) hq rfl) (fun q hq => pe 4 _ q (by omega) hq rfl) (fun q hq => pe 5 _ q (by omega) hq rfl) (fun q hq => pe 6 _ q (by omega) hq rfl) (fun q hq => pe 7 _ q (by omega) hq rfl) (fun q hq => pe 8 _ q (by omega) hq rfl) (fun q hq => pe 9 _ q (by omega) hq rfl) h
  unfold ins
  rw [snd_6 h6, zS_s h6]
  have e1 : zS (insf (sndN N f t) j) (N 6).toNat = zS (insf N j) (N 6).toNat := by
    refine zS_cong (fun q h0 h1 => ?_)
    unfold insf
    rw [sndq_pk h6 rfl h0 (by omega), sndq_pk h6 rfl h0 (by omega), if_neg (by omega), if_neg (by omega)]
  have e2 : insf (sndN N f t) j (N 6) = 0 := by
    unfold insf
    rw [sndq_pk h6 rfl h6 (by omega), if_pos rfl]
    exact zb_f (fun z => by have := z.1; simp at this)
  rw [e1, e2]
  omega
end ZX
