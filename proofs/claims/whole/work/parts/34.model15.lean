/-- whether the sign at sp is one from lo to hi -/
def tkB (T : Nat → Int32) (n : Nat) (lo hi : Int32) (sp : Nat) (wr : Bool) : Bool := !wr && (decide (sp < n) && inR (T sp) lo hi)
def adv (b : Bool) (sp : Nat) : Nat := if b then sp + 1 else sp
theorem adv_le {T : Nat → Int32} {n : Nat} {lo hi : Int32} {sp : Nat} {wr : Bool} (h : sp ≤ n) : adv (tkB T n lo hi sp wr) sp ≤ n := by
  unfold adv
  by_cases e : tkB T n lo hi sp wr = true
  · rw [if_pos e]
    unfold tkB at e
    rw [Bool.and_eq_true, Bool.and_eq_true] at e
    have := of_decide_eq_true e.2.1
    omega
  · rw [if_neg e]; exact h
/-- the world after the place and the fault of the reader are set -/
def pW (x : XW) (sp : Nat) (wr : Bool) : XW := uM7 x (upd (upd (mF x.2.1) 14 (nI sp)) 15 (bI wr))
set_option maxRecDepth 100000 in
set_option maxHeartbeats 4000000 in
theorem ct_X8_takes (x : XW) (n sp : Nat) (wr : Bool) (lo hi : Int32) (h14 : mF x.2.1 14 = nI sp) (h15 : mF x.2.1 15 = bI wr) (h8 : mF x.2.1 8 = nI n) (hn : n ≤ 80) (hs : sp ≤ n) : CT MX8_takes 1 0 [.ref 171, .int lo, .int hi] (hp x) (Det (.inl (some (.int (if (tkB (mTx x.2.1) n lo hi sp wr) = true then mTx x.2.1 sp else lo)))) (hp (pW x (adv (tkB (mTx x.2.1) n lo hi sp wr) sp) (wr || !(tkB (mTx x.2.1) n lo hi sp wr))))) := by
  refine ct_of (by decide +kernel) (by decide) rfl (k := 2) (ls := [some (.ref 171), some (.int lo), some (.int hi), none, none]) rfl (Nat.le_of_ble_eq_true rfl) ?_
  refine pw_aload_n (tk tkX8_takes 0 rfl) rfl ?_
  refine g8_isWrong (tk tkX8_takes 1 rfl) fkX8_144 ?_
  rw [h15]
  refine pw_ifnb (tgt := 39) (tk tkX8_takes 2 rfl) (by decide) (fun c4 => ?_) (fun c4 => ?_)
  · refine pw_iconst (v := 0) (tk tkX8_takes 19 rfl) (by decide) ?_
    refine pw_ist3 (tk tkX8_takes 20 rfl) rfl (by decide) ?_
    refine pw_iload_n (tk tkX8_takes 21 rfl) rfl ?_
    refine pw_if_eq (tgt := 57) (tk tkX8_takes 22 rfl) (by decide) (fun c42 => ?_) (fun c42 => c42 (by decide) |>.elim)
    refine pw_iload_n (tk tkX8_takes 29 rfl) rfl ?_
    refine pw_ist4 (tk tkX8_takes 30 rfl) rfl (by decide) ?_
    refine pw_aload_n (tk tkX8_takes 31 rfl) rfl ?_
    refine pw_dup (tk tkX8_takes 32 rfl) rfl ?_
    refine g8_spot (tk tkX8_takes 33 rfl) fkX8_148 ?_
    refine pw_iload_n (tk tkX8_takes 34 rfl) rfl ?_
    refine pw_if_eq (tgt := 73) (tk tkX8_takes 35 rfl) (by decide) (fun c66 => ?_) (fun c66 => c66 (by decide) |>.elim)
    refine pw_iconst (v := 0) (tk tkX8_takes 38 rfl) (by decide) ?_
    refine pw_iadd (tk tkX8_takes 39 rfl) ?_
    rw [h14, show nI sp + 0 = nI sp from Int32.add_zero _]
    refine p8_spot (tk tkX8_takes 40 rfl) fkX8_148 ?_
    refine pw_aload_n (tk tkX8_takes 41 rfl) rfl ?_
    refine pw_aload_n (tk tkX8_takes 42 rfl) rfl ?_
    refine g8_isWrong (tk tkX8_takes 43 rfl) fkX8_144 ?_
    rw [show mF (uM7 x (upd (mF x.2.1) 14 (nI sp))).2.1 15 = bI wr from h15]
    refine pw_ifnb (tgt := 90) (tk tkX8_takes 44 rfl) (by decide) (fun c83 => ?_) (fun c83 => Bool.noConfusion (c4.symm.trans c83))
    refine pw_iconst (v := 1) (tk tkX8_takes 47 rfl) (by decide) ?_
    refine pw_goto (tgt := 95) (tk tkX8_takes 48 rfl) (by decide) ?_
    refine p8_isWrong (tk tkX8_takes 50 rfl) fkX8_144 ⟨rfl, rfl⟩ ?_
    refine pw_iload (tk tkX8_takes 51 rfl) rfl ?_
    refine pw_ireturn (tk tkX8_takes 52 rfl) rfl (by decide) rfl ?_
    have hb : (tkB (mTx x.2.1) n lo hi sp wr) = false := by unfold tkB; rw [c4]; rfl
    rw [hb, c4]
    exact ⟨rfl, rfl⟩
  · refine pw_aload_n (tk tkX8_takes 3 rfl) rfl ?_
    refine g8_spot (tk tkX8_takes 4 rfl) fkX8_148 ?_
    refine pw_aload_n (tk tkX8_takes 5 rfl) rfl ?_
    refine g8_length (tk tkX8_takes 6 rfl) fkX8_141 ?_
    rw [h14, h8]
    refine pw_icmp_ge (tgt := 39) (tk tkX8_takes 7 rfl) (by decide) (fun c15 => ?_) (fun c15 => ?_)
    · refine pw_iconst (v := 0) (tk tkX8_takes 19 rfl) (by decide) ?_
      refine pw_ist3 (tk tkX8_takes 20 rfl) rfl (by decide) ?_
      refine pw_iload_n (tk tkX8_takes 21 rfl) rfl ?_
      refine pw_if_eq (tgt := 57) (tk tkX8_takes 22 rfl) (by decide) (fun c42 => ?_) (fun c42 => c42 (by decide) |>.elim)
      refine pw_iload_n (tk tkX8_takes 29 rfl) rfl ?_
      refine pw_ist4 (tk tkX8_takes 30 rfl) rfl (by decide) ?_
      refine pw_aload_n (tk tkX8_takes 31 rfl) rfl ?_
      refine pw_dup (tk tkX8_takes 32 rfl) rfl ?_
      refine g8_spot (tk tkX8_takes 33 rfl) fkX8_148 ?_
      refine pw_iload_n (tk tkX8_takes 34 rfl) rfl ?_
      refine pw_if_eq (tgt := 73) (tk tkX8_takes 35 rfl) (by decide) (fun c66 => ?_) (fun c66 => c66 (by decide) |>.elim)
      refine pw_iconst (v := 0) (tk tkX8_takes 38 rfl) (by decide) ?_
      refine pw_iadd (tk tkX8_takes 39 rfl) ?_
      rw [h14, show nI sp + 0 = nI sp from Int32.add_zero _]
      refine p8_spot (tk tkX8_takes 40 rfl) fkX8_148 ?_
      refine pw_aload_n (tk tkX8_takes 41 rfl) rfl ?_
      refine pw_aload_n (tk tkX8_takes 42 rfl) rfl ?_
      refine g8_isWrong (tk tkX8_takes 43 rfl) fkX8_144 ?_
      rw [show mF (uM7 x (upd (mF x.2.1) 14 (nI sp))).2.1 15 = bI wr from h15]
      refine pw_ifnb (tgt := 90) (tk tkX8_takes 44 rfl) (by decide) (fun c83 => Bool.noConfusion (c4.symm.trans c83)) (fun c83 => ?_)
      refine pw_iload_n (tk tkX8_takes 45 rfl) rfl ?_
      refine pw_if_ne (tgt := 94) (tk tkX8_takes 46 rfl) (by decide) (fun c87 => c87 (by decide) |>.elim) (fun c87 => ?_)
      refine pw_iconst (v := 1) (tk tkX8_takes 47 rfl) (by decide) ?_
      refine pw_goto (tgt := 95) (tk tkX8_takes 48 rfl) (by decide) ?_
      refine p8_isWrong (tk tkX8_takes 50 rfl) fkX8_144 ⟨rfl, rfl⟩ ?_
      refine pw_iload (tk tkX8_takes 51 rfl) rfl ?_
      refine pw_ireturn (tk tkX8_takes 52 rfl) rfl (by decide) rfl ?_
      have hb : (tkB (mTx x.2.1) n lo hi sp wr) = false := by unfold tkB; rw [decide_eq_false (Nat.not_lt.mpr ((nI_leI (by omega) (by omega)).mp c15)), Bool.false_and, Bool.and_false]
      rw [hb, c4]
      exact ⟨rfl, rfl⟩
    · have hlt : sp < n := Nat.lt_of_not_le (fun q => c15 (nI_le q (by omega)))
      refine pw_aload_n (tk tkX8_takes 8 rfl) rfl ?_
      refine g8_text (tk tkX8_takes 9 rfl) fkX8_22 ?_
      refine pw_aload_n (tk tkX8_takes 10 rfl) rfl ?_
      refine g8_spot (tk tkX8_takes 11 rfl) fkX8_148 ?_
      refine al_mtext_e (e := sp) (tk tkX8_takes 12 rfl) h14 (by first | decide | omega) ?_
      refine pw_iload_n (tk tkX8_takes 13 rfl) rfl ?_
      refine pw_iload_n (tk tkX8_takes 14 rfl) rfl ?_
      refine pw_cS (ct_X8_in _ _ _ _) okX8_in (tk tkX8_takes 15 rfl) mkX8_32 stX8_in rfl rfl (by decide) (by decide) (Nat.le_of_ble_eq_true rfl) ?_
      refine pw_ifb (tgt := 39) (tk tkX8_takes 16 rfl) (by decide) (fun c32 => ?_) (fun c32 => ?_)
      · refine pw_iconst (v := 0) (tk tkX8_takes 19 rfl) (by decide) ?_
        refine pw_ist3 (tk tkX8_takes 20 rfl) rfl (by decide) ?_
        refine pw_iload_n (tk tkX8_takes 21 rfl) rfl ?_
        refine pw_if_eq (tgt := 57) (tk tkX8_takes 22 rfl) (by decide) (fun c42 => ?_) (fun c42 => c42 (by decide) |>.elim)
        refine pw_iload_n (tk tkX8_takes 29 rfl) rfl ?_
        refine pw_ist4 (tk tkX8_takes 30 rfl) rfl (by decide) ?_
        refine pw_aload_n (tk tkX8_takes 31 rfl) rfl ?_
        refine pw_dup (tk tkX8_takes 32 rfl) rfl ?_
        refine g8_spot (tk tkX8_takes 33 rfl) fkX8_148 ?_
        refine pw_iload_n (tk tkX8_takes 34 rfl) rfl ?_
        refine pw_if_eq (tgt := 73) (tk tkX8_takes 35 rfl) (by decide) (fun c66 => ?_) (fun c66 => c66 (by decide) |>.elim)
        refine pw_iconst (v := 0) (tk tkX8_takes 38 rfl) (by decide) ?_
        refine pw_iadd (tk tkX8_takes 39 rfl) ?_
        rw [h14, show nI sp + 0 = nI sp from Int32.add_zero _]
        refine p8_spot (tk tkX8_takes 40 rfl) fkX8_148 ?_
        refine pw_aload_n (tk tkX8_takes 41 rfl) rfl ?_
        refine pw_aload_n (tk tkX8_takes 42 rfl) rfl ?_
        refine g8_isWrong (tk tkX8_takes 43 rfl) fkX8_144 ?_
        rw [show mF (uM7 x (upd (mF x.2.1) 14 (nI sp))).2.1 15 = bI wr from h15]
        refine pw_ifnb (tgt := 90) (tk tkX8_takes 44 rfl) (by decide) (fun c83 => Bool.noConfusion (c4.symm.trans c83)) (fun c83 => ?_)
        refine pw_iload_n (tk tkX8_takes 45 rfl) rfl ?_
        refine pw_if_ne (tgt := 94) (tk tkX8_takes 46 rfl) (by decide) (fun c87 => c87 (by decide) |>.elim) (fun c87 => ?_)
        refine pw_iconst (v := 1) (tk tkX8_takes 47 rfl) (by decide) ?_
        refine pw_goto (tgt := 95) (tk tkX8_takes 48 rfl) (by decide) ?_
        refine p8_isWrong (tk tkX8_takes 50 rfl) fkX8_144 ⟨rfl, rfl⟩ ?_
        refine pw_iload (tk tkX8_takes 51 rfl) rfl ?_
        refine pw_ireturn (tk tkX8_takes 52 rfl) rfl (by decide) rfl ?_
        have hb : (tkB (mTx x.2.1) n lo hi sp wr) = false := by unfold tkB; rw [c32, Bool.and_false, Bool.and_false]
        rw [hb, c4]
        exact ⟨rfl, rfl⟩
      · refine pw_iconst (v := 1) (tk tkX8_takes 17 rfl) (by decide) ?_
        refine pw_goto (tgt := 40) (tk tkX8_takes 18 rfl) (by decide) ?_
        refine pw_ist3 (tk tkX8_takes 20 rfl) rfl (by decide) ?_
        refine pw_iload_n (tk tkX8_takes 21 rfl) rfl ?_
        refine pw_if_eq (tgt := 57) (tk tkX8_takes 22 rfl) (by decide) (fun c42 => absurd c42 (by decide)) (fun c42 => ?_)
        refine pw_aload_n (tk tkX8_takes 23 rfl) rfl ?_
        refine g8_text (tk tkX8_takes 24 rfl) fkX8_22 ?_
        refine pw_aload_n (tk tkX8_takes 25 rfl) rfl ?_
        refine g8_spot (tk tkX8_takes 26 rfl) fkX8_148 ?_
        refine al_mtext_e (e := sp) (tk tkX8_takes 27 rfl) h14 (by first | decide | omega) ?_
        refine pw_goto (tgt := 58) (tk tkX8_takes 28 rfl) (by decide) ?_
        refine pw_ist4 (tk tkX8_takes 30 rfl) rfl (by decide) ?_
        refine pw_aload_n (tk tkX8_takes 31 rfl) rfl ?_
        refine pw_dup (tk tkX8_takes 32 rfl) rfl ?_
        refine g8_spot (tk tkX8_takes 33 rfl) fkX8_148 ?_
        refine pw_iload_n (tk tkX8_takes 34 rfl) rfl ?_
        refine pw_if_eq (tgt := 73) (tk tkX8_takes 35 rfl) (by decide) (fun c66 => absurd c66 (by decide)) (fun c66 => ?_)
        refine pw_iconst (v := 1) (tk tkX8_takes 36 rfl) (by decide) ?_
        refine pw_goto (tgt := 74) (tk tkX8_takes 37 rfl) (by decide) ?_
        refine pw_iadd (tk tkX8_takes 39 rfl) ?_
        rw [h14, nI_1]
        refine p8_spot (tk tkX8_takes 40 rfl) fkX8_148 ?_
        refine pw_aload_n (tk tkX8_takes 41 rfl) rfl ?_
        refine pw_aload_n (tk tkX8_takes 42 rfl) rfl ?_
        refine g8_isWrong (tk tkX8_takes 43 rfl) fkX8_144 ?_
        rw [show mF (uM7 x (upd (mF x.2.1) 14 (nI (sp + 1)))).2.1 15 = bI wr from h15]
        refine pw_ifnb (tgt := 90) (tk tkX8_takes 44 rfl) (by decide) (fun c83 => Bool.noConfusion (c4.symm.trans c83)) (fun c83 => ?_)
        refine pw_iload_n (tk tkX8_takes 45 rfl) rfl ?_
        refine pw_if_ne (tgt := 94) (tk tkX8_takes 46 rfl) (by decide) (fun c87 => ?_) (fun c87 => absurd c87 (by decide))
        refine pw_iconst (v := 0) (tk tkX8_takes 49 rfl) (by decide) ?_
        refine p8_isWrong (tk tkX8_takes 50 rfl) fkX8_144 ⟨rfl, rfl⟩ ?_
        refine pw_iload (tk tkX8_takes 51 rfl) rfl ?_
        refine pw_ireturn (tk tkX8_takes 52 rfl) rfl (by decide) rfl ?_
        have hb : (tkB (mTx x.2.1) n lo hi sp wr) = true := by unfold tkB; rw [c4, c32, decide_eq_true hlt]; rfl
        rw [hb, c4]
        exact ⟨rfl, rfl⟩
def numP (T : Nat → Int32) (n : Nat) : Nat → Int32 → Nat → Int32 × Nat
  | 0, v, sp => (v, sp)
  | f + 1, v, sp => if v ≤ 0 then (v, sp) else if 100 ≤ v then (v, sp) else if sp < n ∧ inR (T sp) 48 57 = true then numP T n f (10 * v + T sp - 48) (sp + 1) else (v, sp)
theorem numP_le (T : Nat → Int32) (n : Nat) : ∀ (f : Nat) (v : Int32) (sp : Nat), sp ≤ n → (numP T n f v sp).2 ≤ n
  | 0, _, _, h => h
  | f + 1, v, sp, h => by
    unfold numP
    split
    · exact h
    · split
      · exact h
      · split
        · next q => exact numP_le T n f _ _ q.1
        · exact h
/-- a number read from sp: its value, the place behind it, whether there is a fault -/
def nuP (T : Nat → Int32) (n sp : Nat) (wr : Bool) : Int32 × Nat × Bool :=
  let b := tkB T n 48 57 sp wr
  if b = true then ((numP T n n (T sp - 48) (sp + 1)).1, (numP T n n (T sp - 48) (sp + 1)).2, false) else (0, sp, true)
theorem nuP_le {T : Nat → Int32} {n sp : Nat} {wr : Bool} (h : sp ≤ n) : (nuP T n sp wr).2.1 ≤ n := by
  unfold nuP
  dsimp only
  split
  · next q =>
    refine numP_le _ _ _ _ _ ?_
    unfold tkB at q
    rw [Bool.and_eq_true, Bool.and_eq_true] at q
    exact of_decide_eq_true q.2.1
  · exact h
theorem pW_pW (x : XW) (a b : Nat) (c d : Bool) : pW (pW x a c) b d = pW x b d := by
  unfold pW
  have e : upd (upd (mF (uM7 x (upd (upd (mF x.2.1) 14 (nI a)) 15 (bI c))).2.1) 14 (nI b)) 15 (bI d) = upd (upd (mF x.2.1) 14 (nI b)) 15 (bI d) := by
    funext j
    show upd (upd (upd (upd (mF x.2.1) 14 (nI a)) 15 (bI c)) 14 (nI b)) 15 (bI d) j = _
    by_cases e4 : j = 14
    · subst e4; simp [upd]
    · by_cases e5 : j = 15
      · subst e5; simp [upd]
      · simp [upd, e4, e5]
  rw [e]
  rfl
theorem pW_14 (x : XW) (a b : Nat) (c : Bool) : uM7 (pW x a c) (upd (mF (pW x a c).2.1) 14 (nI b)) = pW x b c := by
  have e : upd (mF (pW x a c).2.1) 14 (nI b) = upd (upd (mF x.2.1) 14 (nI b)) 15 (bI c) := by
    funext j
    show upd (upd (upd (mF x.2.1) 14 (nI a)) 15 (bI c)) 14 (nI b) j = _
    by_cases e4 : j = 14
    · subst e4; simp [upd]
    · by_cases e5 : j = 15
      · subst e5; simp [upd]
      · simp [upd, e4, e5]
  rw [e]
  rfl
set_option maxRecDepth 100000 in
set_option maxHeartbeats 4000000 in
theorem ct_X8_number (x : XW) (n sp : Nat) (wr : Bool) (h14 : mF x.2.1 14 = nI sp) (h15 : mF x.2.1 15 = bI wr) (h8 : mF x.2.1 8 = nI n) (hn : n ≤ 80) (hs : sp ≤ n) : CT MX8_number 2 0 [.ref 171] (hp x) (Det (.inl (some (.int (nuP (mTx x.2.1) n sp wr).1))) (hp (pW x (nuP (mTx x.2.1) n sp wr).2.1 (nuP (mTx x.2.1) n sp wr).2.2))) := by
  refine ct_of (by decide +kernel) (by decide) rfl (k := 1) (ls := [some (.ref 171), none]) rfl (Nat.le_of_ble_eq_true rfl) ?_
  have Lp : ∀ f v s2, n ≤ s2 + f → s2 ≤ n → PW MX8_number 2 0 12 [some (.ref 171), some (.int v)] [] (hp (pW x s2 false)) (Det (.inl (some (.int (numP (mTx x.2.1) n f v s2).1))) (hp (pW x (numP (mTx x.2.1) n f v s2).2 false))) := by
    intro f
    induction f with
    | zero =>
      intro v s2 hf h2
      have e2 : s2 = n := by omega
      refine pw_aload_n (tk tkX8_number 7 rfl) rfl ?_
      refine g8_isWrong (tk tkX8_number 8 rfl) fkX8_144 ?_
      rw [show mF (pW x s2 false).2.1 15 = bI false from rfl]
      refine pw_ifnb (tgt := 90) (tk tkX8_number 9 rfl) (by decide) (fun c16 => Bool.noConfusion c16) (fun c16 => ?_)
      refine pw_iload_n (tk tkX8_number 10 rfl) rfl ?_
      refine pw_if_le (tgt := 90) (tk tkX8_number 11 rfl) (by decide) (fun c20 => ?_) (fun c20 => ?_)
      · refine pw_iload_n (tk tkX8_number 48 rfl) rfl ?_
        exact pw_ireturn (tk tkX8_number 49 rfl) rfl (by decide) rfl ⟨rfl, rfl⟩
      · refine pw_iload_n (tk tkX8_number 12 rfl) rfl ?_
        refine pw_bipush (v := 100) (tk tkX8_number 13 rfl) (by decide) ?_
        refine pw_icmp_ge (tgt := 90) (tk tkX8_number 14 rfl) (by decide) (fun c26 => ?_) (fun c26 => ?_)
        · refine pw_iload_n (tk tkX8_number 48 rfl) rfl ?_
          exact pw_ireturn (tk tkX8_number 49 rfl) rfl (by decide) rfl ⟨rfl, rfl⟩
        · refine pw_aload_n (tk tkX8_number 15 rfl) rfl ?_
          refine g8_spot (tk tkX8_number 16 rfl) fkX8_148 ?_
          refine pw_aload_n (tk tkX8_number 17 rfl) rfl ?_
          refine g8_length (tk tkX8_number 18 rfl) fkX8_141 ?_
          rw [show mF (pW x s2 false).2.1 14 = nI s2 from rfl, show mF (pW x s2 false).2.1 8 = nI n from h8]
          refine pw_icmp_ge (tgt := 90) (tk tkX8_number 19 rfl) (by decide) (fun c37 => ?_) (fun c37 => absurd (nI_le (by omega) (by omega)) c37)
          refine pw_iload_n (tk tkX8_number 48 rfl) rfl ?_
          exact pw_ireturn (tk tkX8_number 49 rfl) rfl (by decide) rfl ⟨rfl, rfl⟩
    | succ f ih =>
      intro v s2 hf h2
      refine pw_aload_n (tk tkX8_number 7 rfl) rfl ?_
      refine g8_isWrong (tk tkX8_number 8 rfl) fkX8_144 ?_
      rw [show mF (pW x s2 false).2.1 15 = bI false from rfl]
      refine pw_ifnb (tgt := 90) (tk tkX8_number 9 rfl) (by decide) (fun c16 => Bool.noConfusion c16) (fun c16 => ?_)
      refine pw_iload_n (tk tkX8_number 10 rfl) rfl ?_
      refine pw_if_le (tgt := 90) (tk tkX8_number 11 rfl) (by decide) (fun c20 => ?_) (fun c20 => ?_)
      · refine pw_iload_n (tk tkX8_number 48 rfl) rfl ?_
        refine pw_ireturn (tk tkX8_number 49 rfl) rfl (by decide) rfl ?_
        have e : numP (mTx x.2.1) n (f + 1) v s2 = (v, s2) := if_pos c20
        rw [e]
        exact ⟨rfl, rfl⟩
      · refine pw_iload_n (tk tkX8_number 12 rfl) rfl ?_
        refine pw_bipush (v := 100) (tk tkX8_number 13 rfl) (by decide) ?_
        refine pw_icmp_ge (tgt := 90) (tk tkX8_number 14 rfl) (by decide) (fun c26 => ?_) (fun c26 => ?_)
        · refine pw_iload_n (tk tkX8_number 48 rfl) rfl ?_
          refine pw_ireturn (tk tkX8_number 49 rfl) rfl (by decide) rfl ?_
          have e : numP (mTx x.2.1) n (f + 1) v s2 = (v, s2) := (if_neg c20).trans (if_pos c26)
          rw [e]
          exact ⟨rfl, rfl⟩
        · refine pw_aload_n (tk tkX8_number 15 rfl) rfl ?_
          refine g8_spot (tk tkX8_number 16 rfl) fkX8_148 ?_
          refine pw_aload_n (tk tkX8_number 17 rfl) rfl ?_
          refine g8_length (tk tkX8_number 18 rfl) fkX8_141 ?_
          rw [show mF (pW x s2 false).2.1 14 = nI s2 from rfl, show mF (pW x s2 false).2.1 8 = nI n from h8]
          refine pw_icmp_ge (tgt := 90) (tk tkX8_number 19 rfl) (by decide) (fun c37 => ?_) (fun c37 => ?_)
          · refine pw_iload_n (tk tkX8_number 48 rfl) rfl ?_
            refine pw_ireturn (tk tkX8_number 49 rfl) rfl (by decide) rfl ?_
            have e : numP (mTx x.2.1) n (f + 1) v s2 = (v, s2) := (if_neg c20).trans ((if_neg c26).trans (if_neg (fun q => absurd ((nI_leI (by omega) (by omega)).mp c37) (Nat.not_le.mpr q.1))))
            rw [e]
            exact ⟨rfl, rfl⟩
          · have hlt : s2 < n := Nat.lt_of_not_le (fun q => c37 (nI_le q (by omega)))
            refine pw_aload_n (tk tkX8_number 20 rfl) rfl ?_
            refine g8_text (tk tkX8_number 21 rfl) fkX8_22 ?_
            refine pw_aload_n (tk tkX8_number 22 rfl) rfl ?_
            refine g8_spot (tk tkX8_number 23 rfl) fkX8_148 ?_
            refine al_mtext_e (e := s2) (tk tkX8_number 24 rfl) rfl (by first | decide | omega) ?_
            refine pw_bipush (v := 48) (tk tkX8_number 25 rfl) (by decide) ?_
            refine pw_bipush (v := 57) (tk tkX8_number 26 rfl) (by decide) ?_
            refine pw_cS (ct_X8_in _ _ _ _) okX8_in (tk tkX8_number 27 rfl) mkX8_32 stX8_in rfl rfl (by decide) (by decide) (Nat.le_of_ble_eq_true rfl) ?_
            refine pw_ifb (tgt := 90) (tk tkX8_number 28 rfl) (by decide) (fun c56 => ?_) (fun c56 => ?_)
            · refine pw_iload_n (tk tkX8_number 48 rfl) rfl ?_
              refine pw_ireturn (tk tkX8_number 49 rfl) rfl (by decide) rfl ?_
              have e : numP (mTx x.2.1) n (f + 1) v s2 = (v, s2) := (if_neg c20).trans ((if_neg c26).trans (if_neg (fun q => Bool.noConfusion (c56.symm.trans q.2))))
              rw [e]
              exact ⟨rfl, rfl⟩
            · refine pw_bipush (v := 10) (tk tkX8_number 29 rfl) (by decide) ?_
              refine pw_iload_n (tk tkX8_number 30 rfl) rfl ?_
              refine pw_imul (tk tkX8_number 31 rfl) ?_
              refine pw_aload_n (tk tkX8_number 32 rfl) rfl ?_
              refine g8_text (tk tkX8_number 33 rfl) fkX8_22 ?_
              refine pw_aload_n (tk tkX8_number 34 rfl) rfl ?_
              refine g8_spot (tk tkX8_number 35 rfl) fkX8_148 ?_
              refine al_mtext_e (e := s2) (tk tkX8_number 36 rfl) rfl (by first | decide | omega) ?_
              refine pw_iadd (tk tkX8_number 37 rfl) ?_
              refine pw_bipush (v := 48) (tk tkX8_number 38 rfl) (by decide) ?_
              refine pw_isub (tk tkX8_number 39 rfl) ?_
              refine pw_ist1 (tk tkX8_number 40 rfl) rfl (by decide) ?_
              refine pw_aload_n (tk tkX8_number 41 rfl) rfl ?_
              refine pw_dup (tk tkX8_number 42 rfl) rfl ?_
              refine g8_spot (tk tkX8_number 43 rfl) fkX8_148 ?_
              refine pw_iconst (v := 1) (tk tkX8_number 44 rfl) (by decide) ?_
              refine pw_iadd (tk tkX8_number 45 rfl) ?_
              rw [show mF (pW x s2 false).2.1 14 + 1 = nI (s2 + 1) from nI_1 s2]
              refine p8_spot (tk tkX8_number 46 rfl) fkX8_148 ?_
              refine pw_goto (tgt := 12) (tk tkX8_number 47 rfl) (by decide) ?_
              rw [pW_14]
              have e : numP (mTx x.2.1) n (f + 1) v s2 = numP (mTx x.2.1) n f (10 * v + mTx x.2.1 s2 - 48) (s2 + 1) := (if_neg c20).trans ((if_neg c26).trans (if_pos ⟨hlt, c56⟩))
              rw [e]
              exact ih _ (s2 + 1) (by omega) (by omega)
  cases hb : tkB (mTx x.2.1) n 48 57 sp wr with
  | true =>
    have e : nuP (mTx x.2.1) n sp wr = ((numP (mTx x.2.1) n n (mTx x.2.1 sp - 48) (sp + 1)).1, (numP (mTx x.2.1) n n (mTx x.2.1 sp - 48) (sp + 1)).2, false) := if_pos hb
    have ect := ct_X8_takes x n sp wr 48 57 h14 h15 h8 hn hs
    have ewr : (wr || !true) = false := by unfold tkB at hb; cases wr <;> first | rfl | cases hb
    have hlt : sp < n := by unfold tkB at hb; rw [Bool.and_eq_true, Bool.and_eq_true] at hb; exact of_decide_eq_true hb.2.1
    rw [hb, ewr] at ect
    rw [e]
    refine pw_aload_n (tk tkX8_number 0 rfl) rfl ?_
    refine pw_bipush (v := 48) (tk tkX8_number 1 rfl) (by decide) ?_
    refine pw_bipush (v := 57) (tk tkX8_number 2 rfl) (by decide) ?_
    refine pw_cV ect okX8_takes (tk tkX8_number 3 rfl) mkX8_151 imX8_takes seX8_takes (hp_ot _ 11) rfl rfl rfl (by decide) (by decide) (Nat.le_of_ble_eq_true rfl) ?_
    refine pw_bipush (v := 48) (tk tkX8_number 4 rfl) (by decide) ?_
    refine pw_isub (tk tkX8_number 5 rfl) ?_
    refine pw_ist1 (tk tkX8_number 6 rfl) rfl (by decide) ?_
    exact Lp n _ (sp + 1) (by omega) (by omega)
  | false =>
    have e : nuP (mTx x.2.1) n sp wr = (0, sp, true) := if_neg (fun q => Bool.noConfusion (hb.symm.trans q))
    have ect := ct_X8_takes x n sp wr 48 57 h14 h15 h8 hn hs
    rw [hb, show (wr || !false) = true from by cases wr <;> rfl] at ect
    rw [e]
    refine pw_aload_n (tk tkX8_number 0 rfl) rfl ?_
    refine pw_bipush (v := 48) (tk tkX8_number 1 rfl) (by decide) ?_
    refine pw_bipush (v := 57) (tk tkX8_number 2 rfl) (by decide) ?_
    refine pw_cV ect okX8_takes (tk tkX8_number 3 rfl) mkX8_151 imX8_takes seX8_takes (hp_ot _ 11) rfl rfl rfl (by decide) (by decide) (Nat.le_of_ble_eq_true rfl) ?_
    refine pw_bipush (v := 48) (tk tkX8_number 4 rfl) (by decide) ?_
    refine pw_isub (tk tkX8_number 5 rfl) ?_
    refine pw_ist1 (tk tkX8_number 6 rfl) rfl (by decide) ?_
    refine pw_aload_n (tk tkX8_number 7 rfl) rfl ?_
    refine g8_isWrong (tk tkX8_number 8 rfl) fkX8_144 ?_
    rw [show mF (pW x (adv false sp) true).2.1 15 = bI true from rfl]
    refine pw_ifnb (tgt := 90) (tk tkX8_number 9 rfl) (by decide) (fun c16 => ?_) (fun c16 => Bool.noConfusion c16)
    refine pw_iload_n (tk tkX8_number 48 rfl) rfl ?_
    refine pw_ireturn (tk tkX8_number 49 rfl) rfl (by decide) rfl ?_
    refine ⟨?_, rfl⟩
    rw [if_neg (by decide)]
    rfl
