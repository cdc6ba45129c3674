theorem goP_VS {u : Nat} (T : Nat → Int32) (n : Nat) : ∀ (f sp : Nat) (g : Bool) (s : Nat → Int32) (dn : Int32), VS u s → VS u (goP u T n f sp g s dn).2.2.1
  | 0, _, _, _, _, h => h
  | f + 1, sp, g, s, dn, h => by
    have key : ∀ (R : RDT) (g2 : Bool) (s2 : Nat → Int32) (d2 : Int32), VS u s2 → VS u (goN (goP u T n f) T n R g2 s2 d2).2.2.1 := by
      intro R g2 s2 d2 h2
      unfold goN
      split
      · split
        · exact goP_VS T n f _ _ _ _ h2
        · exact h2
      · exact h2
    show VS u (if _ then _ else _ : GT).2.2.1
    split
    · split
      · exact key _ _ _ _ (fin_VS h (doT_VS h _ _ _ _ _))
      · exact key _ _ _ _ (fin_VS h (doT_VS h _ _ _ _ _))
    · exact key _ _ _ _ h
theorem xRec_rest (x : XW) (k : Nat) : mTx (xRec (xThr x 0) k).2.1 = mTx x.2.1 ∧ mF (xRec (xThr x 0) k).2.1 8 = mF x.2.1 8 := by
  unfold xRec xRecA
  split <;> exact ⟨rfl, rfl⟩
def srunText (a : AM) : RS3 := if (gA a false).1 = true then (1, 0, a) else (0, (gA a true).2.2.2, ((gA a true).2.2.1, recH a (aS a), a.2.2.1, (0, aT a)))
