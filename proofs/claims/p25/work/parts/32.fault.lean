/-! the orders one after the other -/
def lnkQ (N : Int → Int) (b d w : Int) : Prop := ¬ badK N b d ∧ ((0 ≤ d ∧ d ≤ 3) ∧ 0 ≤ w ∧ w ≤ 1)
noncomputable def lnkR (N : Int → Int) (b d w : Int) : Int := zif (lnkQ N b d w) (1 - N (lkm N b d)) (zif (badK N b d) (-1) (-2))
