/-- what a command comes to -/
def doT (u : Nat) (s : Nat → Int32) (sg ln a b c : Int32) : TT := if inR ln 0 5 = false then (s, 0, -1, 1) else if sg = 105 then insR u s ln.toNatClampNeg a b c else if sg = 114 then remR u s ln.toNatClampNeg else if inR a 0 2 = false then (s, 0, -1, 1) else updR u s ln.toNatClampNeg a.toNatClampNeg b
theorem doT_VS {u : Nat} {s : Nat → Int32} (h : VS u s) (sg ln a b c : Int32) : VS u (doT u s sg ln a b c).1 := by
  unfold doT
  split
  · exact h
  · next q =>
    obtain ⟨r, hr, _, e2⟩ := inR_row (show inR ln 0 5 = true from by cases w : inR ln 0 5 <;> first | rfl | exact absurd w q)
    split
    · rw [e2]; exact insR_VS h a b c hr
    · split
      · rw [e2]; exact remR_VS h hr
      · split
        · exact h
        · next q2 =>
          obtain ⟨k, hk, _, e3⟩ := inR_col (show inR a 0 2 = true from by cases w : inR a 0 2 <;> first | rfl | exact absurd w q2)
          rw [e2, e3]; exact updR_VS h b hr hk
def FD (x y : XW) : Prop := y.1 = x.1 ∧ y.2.2 = x.2.2 ∧ mHi y.2.1 = mHi x.2.1 ∧ mSl y.2.1 = mSl x.2.1 ∧ mTx y.2.1 = mTx x.2.1 ∧ ∀ k, k ≠ 10 → k ≠ 11 → k ≠ 12 → k ≠ 13 → mF y.2.1 k = mF x.2.1 k
theorem FA.fd {x y : XW} (h : FA x y) : FD x y := ⟨h.1, h.2.1, h.2.2.2.1, h.2.2.2.2.1, h.2.2.2.2.2.1, h.2.2.2.2.2.2⟩
theorem FD.rf (x : XW) : FD x x := ⟨rfl, rfl, rfl, rfl, rfl, fun _ _ _ _ _ => rfl⟩
def doQ (x : XW) (R : TT) : Out → Hp → Prop := fun o h2 => ∃ y, h2 = hp y ∧ FD x y ∧ (E132 (mS y.2.1) (fin R (mS x.2.1)) ∧ (R.2.2.2 = 0 → mS y.2.1 = fin R (mS x.2.1))) ∧ o = .inl (some (.int (bI (decide (R.2.2.2 = 0)))))
set_option maxRecDepth 100000 in
set_option maxHeartbeats 4000000 in
theorem ct_X8_does (x : XW) (u : Nat) (hv : VS u (mS x.2.1)) : CT MX8_does 7 0 [.ref 171] (hp x) (doQ x (doT u (mS x.2.1) (mF x.2.1 16) (mF x.2.1 17) (mF x.2.1 18) (mF x.2.1 19) (mF x.2.1 20))) := by
  refine ct_of (by decide +kernel) (by decide) rfl (k := 0) (ls := [some (.ref 171)]) rfl (Nat.le_of_ble_eq_true rfl) ?_
  refine pw_aload_n (tk tkX8_does 0 rfl) rfl ?_
  refine g8_line (tk tkX8_does 1 rfl) fkX8_157 ?_
  refine pw_cS (ct_X8_isRow _ _) okX8_isRow (tk tkX8_does 2 rfl) mkX8_106 stX8_isRow rfl rfl (by decide) (by decide) (Nat.le_of_ble_eq_true rfl) ?_
  refine pw_ifnb (tgt := 12) (tk tkX8_does 3 rfl) (by decide) (fun c7 => ?_) (fun c7 => ?_)
  · obtain ⟨r1, hr, er, er2⟩ := inR_row c7
    refine pw_aload_n (tk tkX8_does 6 rfl) rfl ?_
    refine g8_sign (tk tkX8_does 7 rfl) fkX8_154 ?_
    refine pw_bipush (v := 105) (tk tkX8_does 8 rfl) (by decide) ?_
    refine pw_icmp_ne (tgt := 42) (tk tkX8_does 9 rfl) (by decide) (fun c18 => ?_) (fun c18 => ?_)
    · refine pw_aload_n (tk tkX8_does 21 rfl) rfl ?_
      refine g8_sign (tk tkX8_does 22 rfl) fkX8_154 ?_
      refine pw_bipush (v := 114) (tk tkX8_does 23 rfl) (by decide) ?_
      refine pw_icmp_ne (tgt := 62) (tk tkX8_does 24 rfl) (by decide) (fun c48 => ?_) (fun c48 => ?_)
      · refine pw_aload_n (tk tkX8_does 30 rfl) rfl ?_
        refine g8_one (tk tkX8_does 31 rfl) fkX8_163 ?_
        refine pw_cS (ct_X8_isColumn _ _) okX8_isColumn (tk tkX8_does 32 rfl) mkX8_94 stX8_isColumn rfl rfl (by decide) (by decide) (Nat.le_of_ble_eq_true rfl) ?_
        refine pw_ifb (tgt := 95) (tk tkX8_does 33 rfl) (by decide) (fun c69 => ?_) (fun c69 => ?_)
        · refine pw_iconst (v := 0) (tk tkX8_does 45 rfl) (by decide) ?_
          refine pw_ireturn (tk tkX8_does 46 rfl) rfl (by decide) (by first | rfl | exact nar_bI _) ?_
          have e : (doT u (mS x.2.1) (mF x.2.1 16) (mF x.2.1 17) (mF x.2.1 18) (mF x.2.1 19) (mF x.2.1 20)) = (mS x.2.1, 0, -1, 1) := (if_neg (ne_f c7)).trans ((if_neg c18).trans ((if_neg c48).trans (if_pos c69)))
          rw [e]
          exact ⟨x, rfl, FD.rf x, ⟨fun _ _ => rfl, fun h => absurd h (show ¬ (1 : Int32) = 0 by decide)⟩, rfl⟩
        · obtain ⟨c1, hc, ec, ec2⟩ := inR_col c69
          refine pw_aload_n (tk tkX8_does 34 rfl) rfl ?_
          refine pw_aload_n (tk tkX8_does 35 rfl) rfl ?_
          refine g8_line (tk tkX8_does 36 rfl) fkX8_157 ?_
          refine pw_aload_n (tk tkX8_does 37 rfl) rfl ?_
          refine g8_one (tk tkX8_does 38 rfl) fkX8_163 ?_
          refine pw_aload_n (tk tkX8_does 39 rfl) rfl ?_
          refine g8_two (tk tkX8_does 40 rfl) fkX8_166 ?_
          refine pw_callV (ct_X8_updatesW x u hv r1 c1 er ec _ hr hc) okX8_updates (tk tkX8_does 41 rfl) mkX8_112 imX8_updates seX8_updates (hp_ot _ 11) rfl rfl rfl (by decide) (by decide) (Nat.le_of_ble_eq_true rfl) (fun r h2 q => ?_) (fun E h2 q => by obtain ⟨y, e1, e2, e3, ho, e4⟩ := q; cases ho)
          obtain ⟨y, rfl, fa, es, ho, hw⟩ := q
          cases ho
          refine pw_ifb (tgt := 95) (tk tkX8_does 42 rfl) (by decide) (fun c88 => ?_) (fun c88 => ?_)
          · refine pw_iconst (v := 0) (tk tkX8_does 45 rfl) (by decide) ?_
            refine pw_ireturn (tk tkX8_does 46 rfl) rfl (by decide) (by first | rfl | exact nar_bI _) ?_
            have e : (doT u (mS x.2.1) (mF x.2.1 16) (mF x.2.1 17) (mF x.2.1 18) (mF x.2.1 19) (mF x.2.1 20)) = (updR u (mS x.2.1) r1 c1 (mF x.2.1 19)) := (if_neg (ne_f c7)).trans ((if_neg c18).trans ((if_neg c48).trans ((if_neg (ne_f c69)).trans (by rw [er2, ec2]))))
            rw [e]
            exact ⟨y, rfl, fa.fd, es, by rw [show decide ((updR u (mS x.2.1) r1 c1 (mF x.2.1 19)).2.2.2 = 0) = _ from c88]; rfl⟩
          · refine pw_iconst (v := 1) (tk tkX8_does 43 rfl) (by decide) ?_
            refine pw_goto (tgt := 96) (tk tkX8_does 44 rfl) (by decide) ?_
            refine pw_ireturn (tk tkX8_does 46 rfl) rfl (by decide) (by first | rfl | exact nar_bI _) ?_
            have e : (doT u (mS x.2.1) (mF x.2.1 16) (mF x.2.1 17) (mF x.2.1 18) (mF x.2.1 19) (mF x.2.1 20)) = (updR u (mS x.2.1) r1 c1 (mF x.2.1 19)) := (if_neg (ne_f c7)).trans ((if_neg c18).trans ((if_neg c48).trans ((if_neg (ne_f c69)).trans (by rw [er2, ec2]))))
            rw [e]
            exact ⟨y, rfl, fa.fd, es, by rw [show decide ((updR u (mS x.2.1) r1 c1 (mF x.2.1 19)).2.2.2 = 0) = _ from c88]; rfl⟩
      · refine pw_aload_n (tk tkX8_does 25 rfl) rfl ?_
        refine pw_aload_n (tk tkX8_does 26 rfl) rfl ?_
        refine g8_line (tk tkX8_does 27 rfl) fkX8_157 ?_
        refine pw_callV (ct_X8_removesW x u hv r1 er hr) okX8_removes (tk tkX8_does 28 rfl) mkX8_115 imX8_removes seX8_removes (hp_ot _ 11) rfl rfl rfl (by decide) (by decide) (Nat.le_of_ble_eq_true rfl) (fun r h2 q => ?_) (fun E h2 q => by obtain ⟨y, e1, e2, e3, ho, e4⟩ := q; cases ho)
        obtain ⟨y, rfl, fa, es, ho, hw⟩ := q
        cases ho
        refine pw_goto (tgt := 96) (tk tkX8_does 29 rfl) (by decide) ?_
        refine pw_ireturn (tk tkX8_does 46 rfl) rfl (by decide) (by first | rfl | exact nar_bI _) ?_
        have e : (doT u (mS x.2.1) (mF x.2.1 16) (mF x.2.1 17) (mF x.2.1 18) (mF x.2.1 19) (mF x.2.1 20)) = (remR u (mS x.2.1) r1) := (if_neg (ne_f c7)).trans ((if_neg c18).trans ((if_pos c48).trans (by rw [er2])))
        rw [e]
        exact ⟨y, rfl, fa.fd, es, rfl⟩
    · refine pw_aload_n (tk tkX8_does 10 rfl) rfl ?_
      refine pw_aload_n (tk tkX8_does 11 rfl) rfl ?_
      refine g8_line (tk tkX8_does 12 rfl) fkX8_157 ?_
      refine pw_aload_n (tk tkX8_does 13 rfl) rfl ?_
      refine g8_one (tk tkX8_does 14 rfl) fkX8_163 ?_
      refine pw_aload_n (tk tkX8_does 15 rfl) rfl ?_
      refine g8_two (tk tkX8_does 16 rfl) fkX8_166 ?_
      refine pw_aload_n (tk tkX8_does 17 rfl) rfl ?_
      refine g8_three (tk tkX8_does 18 rfl) fkX8_169 ?_
      refine pw_callV (ct_X8_insertsW x u hv r1 er _ _ _ hr) okX8_inserts (tk tkX8_does 19 rfl) mkX8_109 imX8_inserts seX8_inserts (hp_ot _ 11) rfl rfl rfl (by decide) (by decide) (Nat.le_of_ble_eq_true rfl) (fun r h2 q => ?_) (fun E h2 q => by obtain ⟨y, e1, e2, e3, ho, e4⟩ := q; cases ho)
      obtain ⟨y, rfl, fa, es, ho, hw⟩ := q
      cases ho
      refine pw_ireturn (tk tkX8_does 20 rfl) rfl (by decide) (by first | rfl | exact nar_bI _) ?_
      have e : (doT u (mS x.2.1) (mF x.2.1 16) (mF x.2.1 17) (mF x.2.1 18) (mF x.2.1 19) (mF x.2.1 20)) = (insR u (mS x.2.1) r1 (mF x.2.1 18) (mF x.2.1 19) (mF x.2.1 20)) := (if_neg (ne_f c7)).trans ((if_pos c18).trans (by rw [er2]))
      rw [e]
      exact ⟨y, rfl, fa.fd, es, rfl⟩
  · refine pw_iconst (v := 0) (tk tkX8_does 4 rfl) (by decide) ?_
    refine pw_ireturn (tk tkX8_does 5 rfl) rfl (by decide) (by first | rfl | exact nar_bI _) ?_
    have e : (doT u (mS x.2.1) (mF x.2.1 16) (mF x.2.1 17) (mF x.2.1 18) (mF x.2.1 19) (mF x.2.1 20)) = (mS x.2.1, 0, -1, 1) := if_pos c7
    rw [e]
    exact ⟨x, rfl, FD.rf x, ⟨fun _ _ => rfl, fun h => absurd h (show ¬ (1 : Int32) = 0 by decide)⟩, rfl⟩
