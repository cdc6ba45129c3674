def er (T : Nat → Int32) (n : Nat) : Nat → Nat → Bool × Nat
  | 0, sp => (true, sp)
  | f + 1, sp => if (!(rdP T n sp).1 && decide ((rdP T n sp).2.1 < n)) = true then (if tkB T n 59 59 (rdP T n sp).2.1 false = true then er T n f ((rdP T n sp).2.1 + 1) else (true, (rdP T n sp).2.1)) else ((rdP T n sp).1, (rdP T n sp).2.1)
theorem goP_er (u : Nat) (T : Nat → Int32) (n : Nat) : ∀ (f sp : Nat) (s : Nat → Int32) (dn : Int32), (goP u T n f sp false s dn).1 = (er T n f sp).1 ∧ (goP u T n f sp false s dn).2.1 = (er T n f sp).2 ∧ (goP u T n f sp false s dn).2.2.1 = s ∧ (goP u T n f sp false s dn).2.2.2 = dn
  | 0, _, _, _ => ⟨rfl, rfl, rfl, rfl⟩
  | f + 1, sp, s, dn => by
    have e : goP u T n (f + 1) sp false s dn = goN (goP u T n f) T n (rdP T n sp) false s (dn + 0) := rfl
    rw [e, Int32.add_zero]
    unfold goN er
    by_cases h : (!(rdP T n sp).1 && decide ((rdP T n sp).2.1 < n)) = true
    · rw [if_pos h, if_pos h]
      by_cases g : tkB T n 59 59 (rdP T n sp).2.1 false = true
      · rw [if_pos g, if_pos g]; exact goP_er u T n f _ s dn
      · rw [if_neg g, if_neg g]; exact ⟨rfl, rfl, rfl, rfl⟩
    · rw [if_neg h, if_neg h]; exact ⟨rfl, rfl, rfl, rfl⟩
theorem FT2.rc {a : AM} {x y : XW} (h : FT2 x y) (hc : RC a x.1) : RC a y.1 := by
  obtain ⟨f1, f2, f3, f4, f5, f6, f7, f8⟩ := h
  obtain ⟨c1, ⟨nx, g1, g2, g3, g4, g5⟩, c3, c4, c5, c6⟩ := hc
  exact ⟨by rw [f2]; exact c1, ⟨nx, g1, by rw [f7]; exact g2, by rw [f7]; exact g3, g4, fun i hi => by rw [f2]; exact g5 i hi⟩, fun i hi => ⟨by rw [f8]; exact (c3 i hi).1, fun hb => by rw [f2]; exact (c3 i hi).2 hb⟩, f6.trans c4, c5, fun i hi => by rw [f5]; exact c6 i hi⟩
def feQ (x : XW) (E : Bool × Nat) : Out → Hp → Prop := fun o h2 => o = .inl (some (.int (if E.1 = false then -1 else nI E.2))) ∧ ∃ y, h2 = hp y ∧ FT2 x y
theorem er_le (T : Nat → Int32) (n : Nat) : ∀ f sp, sp ≤ n → (er T n f sp).2 ≤ n
  | 0, sp, h => h
  | f + 1, sp, h => by
    have hle := (rdP_ok T h).1
    unfold er
    split
    · next q =>
      rw [Bool.and_eq_true] at q
      have := of_decide_eq_true q.2
      split
      · exact er_le T n f _ (by omega)
      · exact hle
    · exact hle
set_option maxRecDepth 100000 in
set_option maxHeartbeats 4000000 in
theorem ct_X6_firstError (x : XW) (T : Nat → Int32) (n : Nat) (h1 : cTx x.1 0 = nI n) (h2 : n ≤ 80) (h3 : ∀ i, i < n → cSg x.1 i = T i) (hch : ∀ i, i < n → ∃ c, c < 65536 ∧ T i = nI c) : CT MX6_firstError 6 0 [.ref 164] (hp x) (feQ x (er T n (n + 1) 0)) := by
  refine ct_of (by decide +kernel) (by decide) rfl (k := 1) (ls := [some (.ref 164), none]) rfl (Nat.le_of_ble_eq_true rfl) ?_
  have L : ∀ k m sp f (y : XW), m + k = 80 → 2 * m ≤ sp → n + 1 ≤ f + sp → FT2 x y → TXH y T n sp → PW MX6_firstError 6 0 7 [some (.ref 164), some (.int (nI m))] [] (hp y) (feQ x (er T n f sp)) := by
    intro k
    induction k with
    | zero =>
      intro m sp f y hm h2m hf fy ty
      have := ty.2.2.2.2
      exfalso; omega
    | succ k ih =>
      intro m sp f y hm h2m hf fy ty
      have hsn := ty.2.2.2.2
      obtain ⟨f, rfl⟩ : ∃ g, f = g + 1 := ⟨f - 1, by omega⟩
      obtain ⟨R, eR⟩ : ∃ R, R = rdP T n sp := ⟨_, rfl⟩
      obtain ⟨hle, hgo⟩ := rdP_ok T hsn
      have ee : er T n (f + 1) sp = if (!R.1 && decide (R.2.1 < n)) = true then (if tkB T n 59 59 R.2.1 false = true then er T n f (R.2.1 + 1) else (true, R.2.1)) else (R.1, R.2.1) := by rw [eR]; rfl
      have crd := ct_X6_readCommand y T n sp ty hch
      rw [← eR] at hle hgo crd
      rw [ee]
      refine pw_iload_n (tk tkX6_firstError 5 rfl) rfl ?_
      refine pw_bipush (v := 80) (tk tkX6_firstError 6 rfl) (by decide) ?_
      refine pw_icmp_ge (tgt := 58) (tk tkX6_firstError 7 rfl) (by decide) (fun c10 => absurd c10 (nI_ge (b := 80) (by omega) (by decide))) (fun c10 => ?_)
      refine pw_aload_n (tk tkX6_firstError 8 rfl) rfl ?_
      refine pw_callV crd okX6_readCommand (tk tkX6_firstError 9 rfl) mkX6_26 imX6_readCommand seX6_readCommand (hp_ot _ 4) rfl rfl rfl (by decide) (by decide) (Nat.le_of_ble_eq_true rfl) (fun r h2 q => ?_) (fun E h2 q => by cases q.1)
      obtain ⟨ho, z, rfl, fz, z1, _⟩ := q
      cases ho
      have tz : TXH z T n R.2.1 := ty.ft fz z1 hle
      refine pw_ifnb (tgt := 25) (tk tkX6_firstError 10 rfl) (by decide) (fun c17 => ?_) (fun c17 => ?_)
      · refine pw_aload_n (tk tkX6_firstError 14 rfl) rfl ?_
        refine g6_at (tk tkX6_firstError 15 rfl) fkX6_23 ?_
        refine pw_aload_n (tk tkX6_firstError 16 rfl) rfl ?_
        refine g6_length (tk tkX6_firstError 17 rfl) fkX6_19 ?_
        rw [z1, tz.1]
        refine pw_icmp_ne (tgt := 38) (tk tkX6_firstError 18 rfl) (by decide) (fun c33 => ?_) (fun c33 => ?_)
        · refine pw_aload_n (tk tkX6_firstError 21 rfl) rfl ?_
          refine pw_bipush (v := 59) (tk tkX6_firstError 22 rfl) (by decide) ?_
          refine pw_cV (ct_X6_readSign z T n R.2.1 tz 59) okX6_readSign (tk tkX6_firstError 23 rfl) mkX6_30 imX6_readSign seX6_readSign (hp_ot _ 4) rfl rfl rfl (by decide) (by decide) (Nat.le_of_ble_eq_true rfl) ?_
          refine pw_ifnb (tgt := 52) (tk tkX6_firstError 24 rfl) (by decide) (fun c44 => ?_) (fun c44 => ?_)
          · refine pw_inc1 (tk tkX6_firstError 28 rfl) rfl (by decide) (nI_1 m) ?_
            refine pw_goto (tgt := 7) (tk tkX6_firstError 29 rfl) (by decide) ?_
            have w : R.1 = false := by cases e : R.1; rfl; rw [e] at c17; cases c17
            have e9 : R.2.1 < n := by
              rcases Nat.lt_or_ge R.2.1 n with q | q
              · exact q
              · exact absurd (by rw [show R.2.1 = n by omega]) c33
            rw [if_pos (by rw [w, decide_eq_true e9]; rfl), if_pos c44, c44]
            have := (hgo w).1
            exact ih (m + 1) (R.2.1 + 1) f _ (by omega) (by omega) (by omega) ((fy.tr fz).tr (FT2.aw z _)) (tz.aw (s2 := R.2.1 + 1) e9)
          · refine pw_aload_n (tk tkX6_firstError 25 rfl) rfl ?_
            refine g6_at (tk tkX6_firstError 26 rfl) fkX6_23 ?_
            rw [c44]
            refine pw_ireturn (tk tkX6_firstError 27 rfl) rfl (by decide) rfl ?_
            have w : R.1 = false := by cases e : R.1; rfl; rw [e] at c17; cases c17
            have e9 : R.2.1 < n := by
              rcases Nat.lt_or_ge R.2.1 n with q | q
              · exact q
              · exact absurd (by rw [show R.2.1 = n by omega]) c33
            rw [if_pos (by rw [w, decide_eq_true e9]; rfl), if_neg Bool.false_ne_true]
            exact ⟨rfl, _, rfl, (fy.tr fz).tr (FT2.aw z _)⟩
        · refine pw_iconst (v := (-1)) (tk tkX6_firstError 19 rfl) (by decide) ?_
          refine pw_ireturn (tk tkX6_firstError 20 rfl) rfl (by decide) rfl ?_
          have w : R.1 = false := by cases e : R.1; rfl; rw [e] at c17; cases c17
          have e9 : R.2.1 = n := (nI_eq (by omega) (by omega)).mp c33
          rw [if_neg (by rw [w, e9, decide_eq_false (Nat.lt_irrefl n)]; decide), w]
          exact ⟨rfl, z, rfl, fy.tr fz⟩
      · refine pw_aload_n (tk tkX6_firstError 11 rfl) rfl ?_
        refine g6_at (tk tkX6_firstError 12 rfl) fkX6_23 ?_
        rw [z1]
        refine pw_ireturn (tk tkX6_firstError 13 rfl) rfl (by decide) rfl ?_
        have w : R.1 = true := by cases e : R.1; rw [e] at c17; cases c17; rfl
        rw [if_neg (by rw [w]; exact Bool.false_ne_true), w]
        exact ⟨rfl, z, rfl, fy.tr fz⟩
  refine pw_aload_n (tk tkX6_firstError 0 rfl) rfl ?_
  refine pw_iconst (v := 0) (tk tkX6_firstError 1 rfl) (by decide) ?_
  refine p6_at (tk tkX6_firstError 2 rfl) fkX6_23 ?_
  refine pw_iconst (v := 0) (tk tkX6_firstError 3 rfl) (by decide) ?_
  refine pw_ist1 (tk tkX6_firstError 4 rfl) rfl (by decide) ?_
  exact L 80 0 0 (n + 1) (aW x 0) (by omega) (by omega) (by omega) (FT2.aw x 0) ⟨h1, h2, h3, rfl, Nat.zero_le n⟩
/-- the text's signs are characters -/
def VT (a : AM) : Prop := ∀ i, i < aN a → ∃ c, c < 65536 ∧ aT a i = nI c
theorem te_er (a : AM) : stextError a = (0, (if (er (aT a) (aN a) (aN a + 1) 0).1 = false then -1 else nI (er (aT a) (aN a) (aN a + 1) 0).2), a) := by
  obtain ⟨e1, e2, _, _⟩ := goP_er (uN (aS a)) (aT a) (aN a) (aN a + 1) 0 (aS a) 0
  unfold stextError gA
  rw [e1, e2]
set_option maxRecDepth 100000 in
set_option maxHeartbeats 4000000 in
theorem ct_X7_textError (x : XW) (a : AM) (hc : RC a x.1) (hv : VS (uN (aS a)) (aS a)) (hT : VT a)  : CT MX7_textError 30 6 [.ref 160] (hp x) (CQ [] x (stextError a )) := by
  refine ct_of (by decide +kernel) (by decide) rfl (k := 0) (ls := [some (.ref 160)]) rfl (Nat.le_of_ble_eq_true rfl) ?_
  obtain ⟨u, eu⟩ : ∃ u, u = uN (aS a) := ⟨_, rfl⟩
  have hvu := hv
  rw [← eu] at hvu
  have hu8 := hvu.1
  have hu : sSc (cSt x.1 0) 0 = nI u := hc.1.2.2.1.trans hvu.2.1
  have e25 : aS a 25 = nI u := hvu.2.1
  refine pw_aload_n (tk tkX7_textError 0 rfl) rfl ?_
  refine g7_text (tk tkX7_textError 1 rfl) fkX7_33 ?_
  refine pw_callV (ct_X6_firstError x (aT a) (aN a) hc.2.2.2.1 hc.2.2.2.2.1 hc.2.2.2.2.2 hT) okX6_firstError (tk tkX7_textError 2 rfl) mkX7_241 imX6_firstError seX6_firstError (hp_ot _ 4) rfl rfl rfl (by decide) (by decide) (Nat.le_of_ble_eq_true rfl) (fun r h2 q => ?_) (fun E h2 q => by cases q.1)
  obtain ⟨ho, y, rfl, fy⟩ := q
  cases ho
  exact pw_ireturn (tk tkX7_textError 3 rfl) rfl (by decide) rfl (CQ.ret (fy.rc hc) fy.1 (te_er a))
theorem do_i (u : Nat) (s : Nat → Int32) (ln p q w : Int32) : doT u s 105 ln p q w = piR u s ln p q w := by
  unfold doT piR bad0; rw [if_pos (show (105 : Int32) = 105 from rfl)]
theorem do_r (u : Nat) (s : Nat → Int32) (ln p q w : Int32) : doT u s 114 ln p q w = toR u s ln := by
  unfold doT toR bad0; rw [if_neg (show ¬ (114 : Int32) = 105 by decide), if_pos (show (114 : Int32) = 114 from rfl)]
theorem do_u (u : Nat) (s : Nat → Int32) (ln p q w : Int32) : doT u s 117 ln p q w = chR u s ln p q := by
  unfold doT chR bad0; rw [if_neg (show ¬ (117 : Int32) = 105 by decide), if_neg (show ¬ (117 : Int32) = 114 by decide)]
theorem fin_bad {D : TT} {s : Nat → Int32} (h : ¬ D.2.2.2 = 0) : fin D s = s := if_neg h
def exQ (x : XW) (a : AM) (D : TT) : Out → Hp → Prop := fun o h2 => o = .inl (some (.int (bI (decide (D.2.2.2 = 0))))) ∧ ∃ y, h2 = hp y ∧ y.2 = x.2 ∧ RC (fin D (aS a), a.2) y.1 ∧ cTx y.1 = cTx x.1 ∧ cSg y.1 = cSg x.1
set_option maxRecDepth 100000 in
set_option maxHeartbeats 4000000 in
theorem ct_X7_execute (x : XW) (a : AM) (u : Nat) (hc : RC a x.1) (hv : VS u (aS a)) (sg ln p q w : Int32) (hs : sg = 105 ∨ sg = 117 ∨ sg = 114) (k2 : cTx x.1 2 = sg) (k0 : cNu x.1 0 = ln) (ki : sg = 105 → cNu x.1 1 = p ∧ cNu x.1 2 = q ∧ cNu x.1 3 = w) (ku : sg = 117 → cNu x.1 1 = p ∧ cNu x.1 2 = q) : CT MX7_execute 20 0 [.ref 160] (hp x) (exQ x a (doT u (aS a) sg ln p q w)) := by
  refine ct_of (by decide +kernel) (by decide) rfl (k := 1) (ls := [some (.ref 160), none]) rfl (Nat.le_of_ble_eq_true rfl) ?_
  obtain ⟨D, eD⟩ : ∃ D, D = doT u (aS a) sg ln p q w := ⟨_, rfl⟩
  have hD : VS u D.1 := by rw [eD]; exact doT_VS hv sg ln p q w
  rw [← eD]
  have J : ∀ y, FC x y → RT y D → PW MX7_execute 20 0 121 [some (.ref 160), some (.int ln)] [] (hp y) (exQ x a D) := by
    intro y fy ry
    have hc2 := fy.rc hc
    refine pw_aload_n (tk tkX7_execute 61 rfl) rfl ?_
    refine g7_trial (tk tkX7_execute 62 rfl) fkX7_19 ?_
    refine g5_refusal (tk tkX7_execute 63 rfl) fkX7_146 ?_
    rw [ry.2.2.2]
    refine pw_if_eq (tgt := 133) (tk tkX7_execute 64 rfl) (by decide) (fun c128 => ?_) (fun c128 => ?_)
    · refine pw_aload_n (tk tkX7_execute 67 rfl) rfl ?_
      refine g7_now (tk tkX7_execute 68 rfl) fkX7_10 ?_
      refine pw_aload_n (tk tkX7_execute 69 rfl) rfl ?_
      refine g7_trial (tk tkX7_execute 70 rfl) fkX7_19 ?_
      refine g5_state (tk tkX7_execute 71 rfl) fkX7_164 ?_
      refine pw_cV0 (ct_X4_copyFrom y 0 1 u (by decide) (by decide) (by decide) (ry.1.wb hD)) okX4_copyFrom (tk tkX7_execute 72 rfl) mkX7_167 imX4_copyFrom seX4_copyFrom (hp_st _ (by decide : 0 < 10) (by decide : 0 < 16)) rfl rfl rfl (by decide) (by decide) (Nat.le_of_ble_eq_true rfl) ?_
      refine pw_iconst (v := 1) (tk tkX7_execute 73 rfl) (by decide) ?_
      refine pw_ireturn (tk tkX7_execute 74 rfl) rfl (by decide) (by first | rfl | exact nar_bI _) ?_
      refine ⟨by rw [decide_eq_true c128]; rfl, _, rfl, fy.1, ?_, congrArg (fun c => c.2.2.1) fy.2.2, congrArg (fun c => c.2.1) fy.2.2⟩
      refine hc2.now ?_
      rw [show fin D (aS a) = upd D.1 98 (D.1 98 + D.2.1) from if_pos c128]
      exact ((ry.1.cp _ hD.un).n98 (by rw [hD.un]; exact hD.1) _).rs (upd_at _ _ _)
    · refine pw_iconst (v := 0) (tk tkX7_execute 65 rfl) (by decide) ?_
      refine pw_ireturn (tk tkX7_execute 66 rfl) rfl (by decide) (by first | rfl | exact nar_bI _) ?_
      refine ⟨by rw [decide_eq_false c128]; rfl, y, rfl, fy.1, ?_, congrArg (fun c => c.2.2.1) fy.2.2, congrArg (fun c => c.2.1) fy.2.2⟩
      rw [fin_bad c128]; exact hc2
  refine pw_aload_n (tk tkX7_execute 0 rfl) rfl ?_
  refine g7_text (tk tkX7_execute 1 rfl) fkX7_33 ?_
  refine g6_numbers (tk tkX7_execute 2 rfl) fkX7_260 ?_
  refine pw_iconst (v := 0) (tk tkX7_execute 3 rfl) (by decide) ?_
  refine al_numbers_e (e := 0) (tk tkX7_execute 4 rfl) rfl (by first | decide | omega) ?_
  rw [k0]
  refine pw_ist1 (tk tkX7_execute 5 rfl) rfl (by decide) ?_
  refine pw_aload_n (tk tkX7_execute 6 rfl) rfl ?_
  refine g7_text (tk tkX7_execute 7 rfl) fkX7_33 ?_
  refine g6_command (tk tkX7_execute 8 rfl) fkX7_263 ?_
  rw [k2]
  refine pw_bipush (v := 105) (tk tkX7_execute 9 rfl) (by decide) ?_
  refine pw_icmp_ne (tgt := 64) (tk tkX7_execute 10 rfl) (by decide) (fun c19 => ?_) (fun c19 => ?_)
  · refine pw_aload_n (tk tkX7_execute 33 rfl) rfl ?_
    refine g7_text (tk tkX7_execute 34 rfl) fkX7_33 ?_
    refine g6_command (tk tkX7_execute 35 rfl) fkX7_263 ?_
    rw [k2]
    refine pw_bipush (v := 117) (tk tkX7_execute 36 rfl) (by decide) ?_
    refine pw_icmp_ne (tgt := 109) (tk tkX7_execute 37 rfl) (by decide) (fun c73 => ?_) (fun c73 => ?_)
    · refine pw_aload_n (tk tkX7_execute 55 rfl) rfl ?_
      refine g7_trial (tk tkX7_execute 56 rfl) fkX7_19 ?_
      refine pw_aload_n (tk tkX7_execute 57 rfl) rfl ?_
      refine g7_now (tk tkX7_execute 58 rfl) fkX7_10 ?_
      refine pw_iload_n (tk tkX7_execute 59 rfl) rfl ?_
      refine pw_callV (ct_X5_takeOut x (aS a) u hc.1 hv ln) okX5_takeOut (tk tkX7_execute 60 rfl) mkX7_142 imX5_takeOut seX5_takeOut (hp_ot _ 1) rfl rfl rfl (by decide) (by decide) (Nat.le_of_ble_eq_true rfl) (fun r h2 q => ?_) (fun E h2 q => by cases q.1)
      obtain ⟨ho, y, rfl, fy, ry⟩ := q
      cases ho
      exact J y fy (by rw [eD, (hs.resolve_left c19).resolve_left c73, do_r]; exact ry)
    · obtain ⟨j1, j2⟩ := ku c73
      refine pw_aload_n (tk tkX7_execute 38 rfl) rfl ?_
      refine g7_trial (tk tkX7_execute 39 rfl) fkX7_19 ?_
      refine pw_aload_n (tk tkX7_execute 40 rfl) rfl ?_
      refine g7_now (tk tkX7_execute 41 rfl) fkX7_10 ?_
      refine pw_iload_n (tk tkX7_execute 42 rfl) rfl ?_
      refine pw_aload_n (tk tkX7_execute 43 rfl) rfl ?_
      refine g7_text (tk tkX7_execute 44 rfl) fkX7_33 ?_
      refine g6_numbers (tk tkX7_execute 45 rfl) fkX7_260 ?_
      refine pw_iconst (v := 1) (tk tkX7_execute 46 rfl) (by decide) ?_
      refine al_numbers_e (e := 1) (tk tkX7_execute 47 rfl) rfl (by first | decide | omega) ?_
      rw [j1]
      refine pw_aload_n (tk tkX7_execute 48 rfl) rfl ?_
      refine g7_text (tk tkX7_execute 49 rfl) fkX7_33 ?_
      refine g6_numbers (tk tkX7_execute 50 rfl) fkX7_260 ?_
      refine pw_iconst (v := 2) (tk tkX7_execute 51 rfl) (by decide) ?_
      refine al_numbers_e (e := 2) (tk tkX7_execute 52 rfl) rfl (by first | decide | omega) ?_
      rw [j2]
      refine pw_callV (ct_X5_change x (aS a) u hc.1 hv ln p q) okX5_change (tk tkX7_execute 53 rfl) mkX7_158 imX5_change seX5_change (hp_ot _ 1) rfl rfl rfl (by decide) (by decide) (Nat.le_of_ble_eq_true rfl) (fun r h2 q => ?_) (fun E h2 q => by cases q.1)
      obtain ⟨ho, y, rfl, fy, ry⟩ := q
      cases ho
      refine pw_goto (tgt := 121) (tk tkX7_execute 54 rfl) (by decide) ?_
      exact J y fy (by rw [eD, c73, do_u]; exact ry)
  · obtain ⟨i1, i2, i3⟩ := ki c19
    refine pw_aload_n (tk tkX7_execute 11 rfl) rfl ?_
    refine g7_trial (tk tkX7_execute 12 rfl) fkX7_19 ?_
    refine pw_aload_n (tk tkX7_execute 13 rfl) rfl ?_
    refine g7_now (tk tkX7_execute 14 rfl) fkX7_10 ?_
    refine pw_iload_n (tk tkX7_execute 15 rfl) rfl ?_
    refine pw_aload_n (tk tkX7_execute 16 rfl) rfl ?_
    refine g7_text (tk tkX7_execute 17 rfl) fkX7_33 ?_
    refine g6_numbers (tk tkX7_execute 18 rfl) fkX7_260 ?_
    refine pw_iconst (v := 1) (tk tkX7_execute 19 rfl) (by decide) ?_
    refine al_numbers_e (e := 1) (tk tkX7_execute 20 rfl) rfl (by first | decide | omega) ?_
    rw [i1]
    refine pw_aload_n (tk tkX7_execute 21 rfl) rfl ?_
    refine g7_text (tk tkX7_execute 22 rfl) fkX7_33 ?_
    refine g6_numbers (tk tkX7_execute 23 rfl) fkX7_260 ?_
    refine pw_iconst (v := 2) (tk tkX7_execute 24 rfl) (by decide) ?_
    refine al_numbers_e (e := 2) (tk tkX7_execute 25 rfl) rfl (by first | decide | omega) ?_
    rw [i2]
    refine pw_aload_n (tk tkX7_execute 26 rfl) rfl ?_
    refine g7_text (tk tkX7_execute 27 rfl) fkX7_33 ?_
    refine g6_numbers (tk tkX7_execute 28 rfl) fkX7_260 ?_
    refine pw_iconst (v := 3) (tk tkX7_execute 29 rfl) (by decide) ?_
    refine al_numbers_e (e := 3) (tk tkX7_execute 30 rfl) rfl (by first | decide | omega) ?_
    rw [i3]
    refine pw_callV (ct_X5_putIn x (aS a) u hc.1 hv ln p q w) okX5_putIn (tk tkX7_execute 31 rfl) mkX7_131 imX5_putIn seX5_putIn (hp_ot _ 1) rfl rfl rfl (by decide) (by decide) (Nat.le_of_ble_eq_true rfl) (fun r h2 q => ?_) (fun E h2 q => by cases q.1)
    obtain ⟨ho, y, rfl, fy, ry⟩ := q
    cases ho
    refine pw_goto (tgt := 121) (tk tkX7_execute 32 rfl) (by decide) ?_
    exact J y fy (by rw [eD, c19, do_i]; exact ry)
set_option maxRecDepth 100000 in
set_option maxHeartbeats 4000000 in
theorem ct_X7_runText (x : XW) (a : AM) (hc : RC a x.1) (hv : VS (uN (aS a)) (aS a)) (hT : VT a)  : CT MX7_runText 30 6 [.ref 160] (hp x) (CQ [(1, "java/lang/IllegalStateException")] x (srunText a )) := by
  refine ct_of (by decide +kernel) (by decide) rfl (k := 1) (ls := [some (.ref 160), none]) rfl (Nat.le_of_ble_eq_true rfl) ?_
  obtain ⟨u, eu⟩ : ∃ u, u = uN (aS a) := ⟨_, rfl⟩
  have hvu := hv
  rw [← eu] at hvu
  have hu8 := hvu.1
  have hu : sSc (cSt x.1 0) 0 = nI u := hc.1.2.2.1.trans hvu.2.1
  have e25 : aS a 25 = nI u := hvu.2.1
  obtain ⟨T, eT⟩ : ∃ T, T = aT a := ⟨_, rfl⟩
  obtain ⟨n, en⟩ : ∃ n, n = aN a := ⟨_, rfl⟩
  have hch : ∀ i, i < n → ∃ c, c < 65536 ∧ T i = nI c := by rw [en, eT]; exact hT
  obtain ⟨E, eE⟩ : ∃ E, E = er T n (n + 1) 0 := ⟨_, rfl⟩
  obtain ⟨G, eG⟩ : ∃ G, G = goP u T n (n + 1) 0 true (aS a) (nI 0) := ⟨_, rfl⟩
  have eS : srunText a = if E.1 = true then (1, 0, a) else (0, G.2.2.2, (G.2.2.1, recH a (aS a), a.2.2.1, (0, aT a))) := by
    obtain ⟨e1, _, _, _⟩ := goP_er (uN (aS a)) (aT a) (aN a) (aN a + 1) 0 (aS a) 0
    rw [eE, eG, eT, en, eu]
    unfold srunText gA
    rw [e1]; rfl
  have hn80 : n ≤ 80 := by rw [en]; exact hc.2.2.2.2.1
  have hfe : CT MX6_firstError 6 0 [.ref 164] (hp x) (feQ x E) := by
    rw [eE, eT, en]; exact ct_X6_firstError x (aT a) (aN a) hc.2.2.2.1 hc.2.2.2.2.1 hc.2.2.2.2.2 hT
  have J81 : E.1 = false → ∀ (y : XW) (s2 : Nat → Int32) (m : Nat), RC (s2, recH a (aS a), a.2.2) y.1 → y.2 = x.2 → G.2.2 = (s2, nI m) → PW MX7_runText 30 6 81 [some (.ref 160), some (.int (nI m))] [] (hp y) (CQ [(1, "java/lang/IllegalStateException")] x (srunText a)) := by
    intro hE y s2 m hc2 hy2 hG
    refine pw_aload_n (tk tkX7_runText 38 rfl) rfl ?_
    refine g7_text (tk tkX7_runText 39 rfl) fkX7_33 ?_
    refine pw_iconst (v := 0) (tk tkX7_runText 40 rfl) (by decide) ?_
    refine p6_length (tk tkX7_runText 41 rfl) fkX7_228 ?_
    refine pw_iload_n (tk tkX7_runText 42 rfl) rfl ?_
    refine pw_ireturn (tk tkX7_runText 43 rfl) rfl (by decide) rfl ?_
    rw [eS, if_neg (ne_t hE), show G.2.2.1 = s2 from congrArg Prod.fst hG, show G.2.2.2 = nI m from congrArg Prod.snd hG]
    obtain ⟨c1, c2, c3, c4, c5, c6⟩ := hc2
    exact CQ.ret (a := (s2, recH a (aS a), a.2.2.1, (0, aT a))) ⟨c1, c2, c3, rfl, Nat.zero_le _, fun i hi => absurd hi (Nat.not_lt_zero i)⟩ hy2 rfl
  have B : E.1 = false → ∀ (y : XW) (s2 : Nat → Int32) (m : Nat), m ≤ 41 → RC (s2, recH a (aS a), a.2.2) y.1 → y.2 = x.2 → TXH y T n n → G.2.2 = (s2, nI m) → PW MX7_runText 30 6 42 [some (.ref 160), some (.int (nI m))] [] (hp y) (CQ [(1, "java/lang/IllegalStateException")] x (srunText a)) := by
    intro hE y s2 m hm hc2 hy2 ty hG
    have er1 : rdP T n n = (true, n, 0, 0, 0, 0, 0) := if_pos rfl
    have crd := ct_X6_readCommand y T n n ty hch
    rw [er1] at crd
    refine pw_iload_n (tk tkX7_runText 21 rfl) rfl ?_
    refine pw_bipush (v := 80) (tk tkX7_runText 22 rfl) (by decide) ?_
    refine pw_icmp_ge (tgt := 81) (tk tkX7_runText 23 rfl) (by decide) (fun c45 => absurd c45 (nI_ge (b := 80) (by omega) (by decide))) (fun c45 => ?_)
    refine pw_aload_n (tk tkX7_runText 24 rfl) rfl ?_
    refine g7_text (tk tkX7_runText 25 rfl) fkX7_33 ?_
    refine pw_callV crd okX6_readCommand (tk tkX7_runText 26 rfl) mkX7_249 imX6_readCommand seX6_readCommand (hp_ot _ 4) rfl rfl rfl (by decide) (by decide) (Nat.le_of_ble_eq_true rfl) (fun r h2 q => ?_) (fun E h2 q => by cases q.1)
    obtain ⟨ho, z, rfl, fz, z1, _⟩ := q
    cases ho
    refine pw_ifb (tgt := 81) (tk tkX7_runText 27 rfl) (by decide) (fun c55 => ?_) (fun c55 => absurd (show false = true from c55) Bool.false_ne_true)
    exact J81 hE z s2 m (fz.rc hc2) (fz.1.trans hy2) hG
  have L : E.1 = false → ∀ (f sp m : Nat) (y : XW) (s2 : Nat → Int32), 2 * m ≤ sp → RC (s2, recH a (aS a), a.2.2) y.1 → VS u s2 → y.2 = x.2 → TXH y T n sp → (er T n f sp).1 = false → (goP u T n f sp true s2 (nI m)).2.2 = G.2.2 → PW MX7_runText 30 6 42 [some (.ref 160), some (.int (nI m))] [] (hp y) (CQ [(1, "java/lang/IllegalStateException")] x (srunText a)) := by
    intro hE f
    induction f with
    | zero => intro sp m y s2 _ _ _ _ _ h _; cases h
    | succ f ih =>
      intro sp m y s2 h2m hc2 hv2 hy2 ty her hgo
      have hsn := ty.2.2.2.2
      obtain ⟨R, eR⟩ : ∃ R, R = rdP T n sp := ⟨_, rfl⟩
      obtain ⟨hle, hok⟩ := rdP_ok T hsn
      have ee : er T n (f + 1) sp = if (!R.1 && decide (R.2.1 < n)) = true then (if tkB T n 59 59 R.2.1 false = true then er T n f (R.2.1 + 1) else (true, R.2.1)) else (R.1, R.2.1) := by rw [eR]; rfl
      have crd := ct_X6_readCommand y T n sp ty hch
      have hR1 : R.1 = false := by
        cases w : R.1 with
        | false => rfl
        | true => rw [ee, w, if_neg (show ¬ (!true && decide (R.2.1 < n)) = true from Bool.false_ne_true)] at her; cases her
      obtain ⟨D, eD⟩ : ∃ D, D = rdD u s2 R := ⟨_, rfl⟩
      have eg : goP u T n (f + 1) sp true s2 (nI m) = if decide (D.2.2.2 = 0) = true then goN (goP u T n f) T n R true (fin D s2) (nI m + 1) else goN (goP u T n f) T n R false (fin D s2) (nI m + 0) := by
        rw [eD, eR]; exact if_pos (by rw [← eR, hR1]; rfl)
      rw [← eR] at hle hok crd
      obtain ⟨hsp2, hsg⟩ := hok hR1
      have hDs : D = doT u s2 R.2.2.1 R.2.2.2.1 R.2.2.2.2.1 R.2.2.2.2.2.1 R.2.2.2.2.2.2 := eD
      have hv3 : VS u (fin D s2) := fin_VS hv2 (by rw [hDs]; exact doT_VS hv2 _ _ _ _ _)
      refine pw_iload_n (tk tkX7_runText 21 rfl) rfl ?_
      refine pw_bipush (v := 80) (tk tkX7_runText 22 rfl) (by decide) ?_
      refine pw_icmp_ge (tgt := 81) (tk tkX7_runText 23 rfl) (by decide) (fun c45 => absurd c45 (nI_ge (b := 80) (by omega) (by decide))) (fun c45 => ?_)
      refine pw_aload_n (tk tkX7_runText 24 rfl) rfl ?_
      refine g7_text (tk tkX7_runText 25 rfl) fkX7_33 ?_
      refine pw_callV crd okX6_readCommand (tk tkX7_runText 26 rfl) mkX7_249 imX6_readCommand seX6_readCommand (hp_ot _ 4) rfl rfl rfl (by decide) (by decide) (Nat.le_of_ble_eq_true rfl) (fun r h2 q => ?_) (fun E h2 q => by cases q.1)
      obtain ⟨ho, z, rfl, fz, z1, zc, zi, zu⟩ := q
      cases ho
      obtain ⟨qa, qb⟩ := zc hR1
      have cex := ct_X7_execute z (s2, recH a (aS a), a.2.2) u (fz.rc hc2) hv2 R.2.2.1 R.2.2.2.1 R.2.2.2.2.1 R.2.2.2.2.2.1 R.2.2.2.2.2.2 (hsg.elim .inl (fun q => q.elim (fun q => .inr (.inl q)) (fun q => .inr (.inr q)))) qa qb (fun q => zi hR1 q) (fun q => zu hR1 q)
      rw [show doT u (aS (s2, recH a (aS a), a.2.2)) R.2.2.1 R.2.2.2.1 R.2.2.2.2.1 R.2.2.2.2.2.1 R.2.2.2.2.2.2 = D from hDs.symm] at cex
      rw [hR1]
      refine pw_ifb (tgt := 81) (tk tkX7_runText 27 rfl) (by decide) (fun c55 => absurd c55 (by decide)) (fun c55 => ?_)
      refine pw_aload_n (tk tkX7_runText 28 rfl) rfl ?_
      refine pw_callV cex okX7_execute (tk tkX7_runText 29 rfl) mkX7_253 imX7_execute seX7_execute (hp_ot _ 0) rfl rfl rfl (by decide) (by decide) (Nat.le_of_ble_eq_true rfl) (fun r h2 q => ?_) (fun E h2 q => by cases q.1)
      obtain ⟨ho, v, rfl, v2, vc, vt, vg⟩ := q
      cases ho
      refine pw_ifb (tgt := 81) (tk tkX7_runText 30 rfl) (by decide) (fun c62 => ?_) (fun c62 => ?_)
      · have c9 := of_decide_eq_false c62
        have hr : G.2.2 = (s2, nI m) := by
          rw [← hgo, eg, if_neg (ne_t c62), Int32.add_zero, fin_bad c9]
          unfold goN
          obtain ⟨_, _, e3, e4⟩ := goP_er u T n f (R.2.1 + 1) s2 (nI m)
          split
          · split
            · exact Prod.ext e3 e4
            · rfl
          · rfl
        rw [show fin D (aS (s2, recH a (aS a), a.2.2)) = s2 from fin_bad c9] at vc
        exact J81 hE v s2 m vc (v2.trans (fz.1.trans hy2)) hr
      · have tv : TXH v T n R.2.1 := by
          have tz := ty.ft fz z1 hle
          exact ⟨by rw [vt]; exact tz.1, tz.2.1, fun i hi => by rw [vg]; exact tz.2.2.1 i hi, by rw [vt]; exact tz.2.2.2.1, hle⟩
        refine pw_inc1 (tk tkX7_runText 31 rfl) rfl (by decide) (nI_1 m) ?_
        refine pw_aload_n (tk tkX7_runText 32 rfl) rfl ?_
        refine g7_text (tk tkX7_runText 33 rfl) fkX7_33 ?_
        refine pw_bipush (v := 59) (tk tkX7_runText 34 rfl) (by decide) ?_
        refine pw_cV (ct_X6_readSign v T n R.2.1 tv 59) okX6_readSign (tk tkX7_runText 35 rfl) mkX7_256 imX6_readSign seX6_readSign (hp_ot _ 4) rfl rfl rfl (by decide) (by decide) (Nat.le_of_ble_eq_true rfl) ?_
        refine pw_pop (tk tkX7_runText 36 rfl) rfl ?_
        refine pw_goto (tgt := 42) (tk tkX7_runText 37 rfl) (by decide) ?_
        have c9 := of_decide_eq_true c62
        rw [eg, if_pos c62, nI_1] at hgo
        by_cases lt : R.2.1 < n
        · have cnd : (!R.1 && decide (R.2.1 < n)) = true := by rw [hR1, decide_eq_true lt]; rfl
          have sg59 : tkB T n 59 59 R.2.1 false = true := by
            cases w : tkB T n 59 59 R.2.1 false with
            | true => rfl
            | false => rw [ee, if_pos cnd, if_neg (by rw [w]; decide)] at her; cases her
          rw [ee, if_pos cnd, if_pos sg59] at her
          rw [show goN (goP u T n f) T n R true (fin D s2) (nI (m + 1)) = goP u T n f (R.2.1 + 1) true (fin D s2) (nI (m + 1)) from (if_pos cnd).trans (if_pos sg59)] at hgo
          rw [sg59]
          exact ih (R.2.1 + 1) (m + 1) (aW v (R.2.1 + 1)) (fin D s2) (by omega) ((FT2.aw v _).rc vc) hv3 (v2.trans (fz.1.trans hy2)) (tv.aw (s2 := R.2.1 + 1) lt) her hgo
        · have e9 : R.2.1 = n := by omega
          have sg59 : tkB T n 59 59 R.2.1 false = false := by rw [tk_f, decide_eq_false lt]; rfl
          rw [show goN (goP u T n f) T n R true (fin D s2) (nI (m + 1)) = (R.1, R.2.1, fin D s2, nI (m + 1)) from if_neg (by rw [decide_eq_false lt, Bool.and_false]; decide)] at hgo
          rw [sg59]
          rw [e9] at tv
          exact B hE (aW v (adv false R.2.1)) (fin D s2) (m + 1) (by omega) ((FT2.aw v _).rc vc) (v2.trans (fz.1.trans hy2)) (by rw [e9]; exact tv.aw (Nat.le_refl n)) hgo.symm
  refine pw_aload_n (tk tkX7_runText 0 rfl) rfl ?_
  refine g7_text (tk tkX7_runText 1 rfl) fkX7_33 ?_
  refine pw_callV hfe okX6_firstError (tk tkX7_runText 2 rfl) mkX7_241 imX6_firstError seX6_firstError (hp_ot _ 4) rfl rfl rfl (by decide) (by decide) (Nat.le_of_ble_eq_true rfl) (fun r h2 q => ?_) (fun E h2 q => by cases q.1)
  obtain ⟨ho, y, rfl, fy⟩ := q
  cases ho
  have hcy : RC a y.1 := fy.rc hc
  obtain ⟨nx, hnx, g0, g1, g6, gh⟩ := hcy.2.1
  obtain ⟨z, ez⟩ : ∃ z, z = kpX y u 0 nx (aK a) := ⟨_, rfl⟩
  obtain ⟨rz, rz2, rz0⟩ : RC (aS a, recH a (aS a), a.2.2) z.1 ∧ z.2 = y.2 ∧ cSt z.1 0 = cSt y.1 0 := by rw [ez]; exact kp_RC hcy hvu hnx g1 g6 gh
  have rs : RS (cSt z.1 0) (aS a) := rz.1
  have huz : sSc (cSt z.1 0) 0 = nI u := rs.2.2.1.trans e25
  refine pw_iconst (v := (-1)) (tk tkX7_runText 3 rfl) (by decide) ?_
  refine pw_icmp_eq (tgt := 21) (tk tkX7_runText 4 rfl) (by decide) (fun c8 => ?_) (fun c8 => ?_)
  · have hE : E.1 = false := by
      cases w : E.1 with
      | false => rfl
      | true => rw [w, if_neg (by decide)] at c8; exact absurd (show nI E.2 < 0 by rw [c8]; decide) (nI_pos (by have := er_le T n (n + 1) 0 (Nat.zero_le n); rw [← eE] at this; omega))
    refine pw_aload_n (tk tkX7_runText 10 rfl) rfl ?_
    refine g7_history (tk tkX7_runText 11 rfl) fkX7_40 ?_
    refine pw_aload_n (tk tkX7_runText 12 rfl) rfl ?_
    refine g7_now (tk tkX7_runText 13 rfl) fkX7_10 ?_
    refine pw_cV0 (ct_X1_keep y u 0 nx (aK a) (by decide) hnx g6 g0 g1 (hcy.1.wb hvu)) okX1_keep (tk tkX7_runText 14 rfl) mkX7_75 imX1_keep seX1_keep (hp_ot _ 7) rfl rfl rfl (by decide) (by decide) (Nat.le_of_ble_eq_true rfl) ?_
    rw [← ez]
    refine pw_iconst (v := 0) (tk tkX7_runText 15 rfl) (by decide) ?_
    refine pw_ist1 (tk tkX7_runText 16 rfl) rfl (by decide) ?_
    refine pw_aload_n (tk tkX7_runText 17 rfl) rfl ?_
    refine g7_text (tk tkX7_runText 18 rfl) fkX7_33 ?_
    refine pw_iconst (v := 0) (tk tkX7_runText 19 rfl) (by decide) ?_
    refine p6_at (tk tkX7_runText 20 rfl) fkX7_246 ?_
    exact L hE (n + 1) 0 0 (aW z 0) (aS a) (by omega) ((FT2.aw z 0).rc rz) hvu (rz2.trans fy.1) ⟨rz.2.2.2.1.trans (by rw [en]), hn80, (fun i hi => (rz.2.2.2.2.2 i (by rw [en] at hi; exact hi)).trans (by rw [eT])), rfl, Nat.zero_le n⟩ (by rw [← eE]; exact hE) (by rw [← eG])
  · have hE : E.1 = true := by
      cases w : E.1 with
      | true => rfl
      | false => rw [w, if_pos rfl] at c8; exact absurd rfl c8
    exact pw_throw twISE rfl rfl rfl ckX7_70 (tx := "the text has an error") (List.mem_of_getElem? (i := 13) rfl) (tk tkX7_runText 5 rfl) (tk tkX7_runText 6 rfl) (tk tkX7_runText 7 rfl) (tk tkX7_runText 8 rfl) (tk tkX7_runText 9 rfl) (by decide) (by decide) (CQ.thr hcy fy.1 List.mem_cons_self (by rw [eS, if_pos hE]))
