def FT2 (x y : XW) : Prop := y.2 = x.2 ∧ cSt y.1 = cSt x.1 ∧ cSm y.1 = cSm x.1 ∧ cCt y.1 = cCt x.1 ∧ cSg y.1 = cSg x.1 ∧ cTx y.1 0 = cTx x.1 0 ∧ cHi y.1 = cHi x.1 ∧ cSf y.1 = cSf x.1
theorem FT2.rf (x : XW) : FT2 x x := ⟨rfl, rfl, rfl, rfl, rfl, rfl, rfl, rfl⟩
theorem FT2.tr {x y z : XW} (h : FT2 x y) (g : FT2 y z) : FT2 x z := ⟨g.1.trans h.1, g.2.1.trans h.2.1, g.2.2.1.trans h.2.2.1, g.2.2.2.1.trans h.2.2.2.1, g.2.2.2.2.1.trans h.2.2.2.2.1, g.2.2.2.2.2.1.trans h.2.2.2.2.2.1, g.2.2.2.2.2.2.1.trans h.2.2.2.2.2.2.1, g.2.2.2.2.2.2.2.trans h.2.2.2.2.2.2.2⟩
theorem FT2.aw (x : XW) (sp : Nat) : FT2 x (aW x sp) := ⟨rfl, rfl, rfl, rfl, rfl, rfl, rfl, rfl⟩
theorem FT2.nu (x : XW) (f : Nat → Int32) : FT2 x (uC6 x f) := ⟨rfl, rfl, rfl, rfl, rfl, rfl, rfl, rfl⟩
theorem FT2.cm (x : XW) (v : Int32) : FT2 x (uC5 x (upd (cTx x.1) 2 v)) := ⟨rfl, rfl, rfl, rfl, rfl, rfl, rfl, rfl⟩
theorem TXH.ft {x y : XW} {T : Nat → Int32} {n sp s2 : Nat} (h : TXH x T n sp) (g : FT2 x y) (h2 : cTx y.1 1 = nI s2) (h3 : s2 ≤ n) : TXH y T n s2 := ⟨g.2.2.2.2.2.1.trans h.1, h.2.1, fun i hi => by rw [g.2.2.2.2.1]; exact h.2.2.1 i hi, h2, h3⟩
theorem numP_nn (T : Nat → Int32) (n : Nat) : ∀ f a sp, a ≤ 999 → ∃ b, b ≤ 999 ∧ (numP T n f (nI a) sp).1 = nI b
  | 0, a, _, h => ⟨a, h, rfl⟩
  | f + 1, a, sp, h => by
    show ∃ b, b ≤ 999 ∧ (if nI a ≤ 0 then (nI a, sp) else if 100 ≤ nI a then (nI a, sp) else if sp < n ∧ inR (T sp) 48 57 = true then numP T n f (10 * nI a + T sp - 48) (sp + 1) else (nI a, sp)).1 = nI b
    by_cases c1 : nI a ≤ 0
    · rw [if_pos c1]; exact ⟨a, h, rfl⟩
    · rw [if_neg c1]
      by_cases c2 : (100 : Int32) ≤ nI a
      · rw [if_pos c2]; exact ⟨a, h, rfl⟩
      · rw [if_neg c2]
        by_cases c3 : sp < n ∧ inR (T sp) 48 57 = true
        · rw [if_pos c3]
          have hd : dgB T n sp = true := by unfold dgB; rw [tk_f, decide_eq_true c3.1, c3.2]; rfl
          obtain ⟨_, d, hd9, _, et⟩ := dg_v hd
          rw [num_v a d et]
          have ha : a < 100 := by
            rcases Nat.lt_or_ge a 100 with q | q
            · exact q
            · exact absurd (nI_le (a := 100) q (by omega)) c2
          exact numP_nn T n f (10 * a + d) (sp + 1) (by omega)
        · rw [if_neg c3]; exact ⟨a, h, rfl⟩
theorem rn3_t {T : Nat → Int32} {n sp : Nat} (h : dgB T n sp = true) : ¬ (rn3 T n sp).1 = -1 ∧ nuP T n sp false = ((rn3 T n sp).1, (rn3 T n sp).2, false) := by
  obtain ⟨_, d, hd9, ed, _⟩ := dg_v h
  have e : rn3 T n sp = numP T n n (T sp - 48) (sp + 1) := if_pos h
  rw [e]
  refine ⟨?_, if_pos h⟩
  rw [ed]
  obtain ⟨b, hb, eb⟩ := numP_nn T n n d (sp + 1) (by omega)
  rw [eb]
  intro q
  exact absurd (show nI b < 0 by rw [q]; decide) (nI_pos (by omega))
theorem rn3_f {T : Nat → Int32} {n sp : Nat} (h : dgB T n sp = false) : rn3 T n sp = (-1, sp) ∧ nuP T n sp false = (0, sp, true) := ⟨if_neg (fun q => Bool.noConfusion (h.symm.trans q)), if_neg (fun q => Bool.noConfusion (h.symm.trans q))⟩
theorem rn3_le {T : Nat → Int32} {n sp : Nat} (h : sp ≤ n) : (rn3 T n sp).2 ≤ n := by
  unfold rn3
  split
  · next q => exact numP_le _ _ _ _ _ (dg_v q).1
  · exact h
theorem rn1_t {T : Nat → Int32} {n sp : Nat} (h : dgB T n sp = true) : rn1 T n sp = (T sp - 48, sp + 1) ∧ ¬ T sp - 48 = -1 := by
  obtain ⟨_, d, hd9, ed, _⟩ := dg_v h
  refine ⟨if_pos h, ?_⟩
  rw [ed]
  intro q
  exact absurd (show nI d < 0 by rw [q]; decide) (nI_pos (by omega))
theorem rn1_f {T : Nat → Int32} {n sp : Nat} (h : dgB T n sp = false) : rn1 T n sp = (-1, sp) := if_neg (fun q => Bool.noConfusion (h.symm.trans q))
def iq6 (T : Nat → Int32) (n : Nat) (l a b : Int32) (sp : Nat) (wr : Bool) : RDT := ((nuP T n sp wr).2.2, (nuP T n sp wr).2.1, 105, l, a, b, (nuP T n sp wr).1)
def iq5 (T : Nat → Int32) (n : Nat) (l a b : Int32) (sp : Nat) (wr : Bool) : RDT := iq6 T n l a b (adv (tkB T n 44 44 sp wr) sp) (wr || !(tkB T n 44 44 sp wr))
def iq4 (T : Nat → Int32) (n : Nat) (l a : Int32) (sp : Nat) (wr : Bool) : RDT := iq5 T n l a (nuP T n sp wr).1 (nuP T n sp wr).2.1 (nuP T n sp wr).2.2
def iq3 (T : Nat → Int32) (n : Nat) (l a : Int32) (sp : Nat) (wr : Bool) : RDT := iq4 T n l a (adv (tkB T n 44 44 sp wr) sp) (wr || !(tkB T n 44 44 sp wr))
def iq2 (T : Nat → Int32) (n : Nat) (l : Int32) (sp : Nat) (wr : Bool) : RDT := iq3 T n l (nuP T n sp wr).1 (nuP T n sp wr).2.1 (nuP T n sp wr).2.2
def iq1 (T : Nat → Int32) (n : Nat) (l : Int32) (sp : Nat) (wr : Bool) : RDT := iq2 T n l (adv (tkB T n 61 61 sp wr) sp) (wr || !(tkB T n 61 61 sp wr))
def iq0 (T : Nat → Int32) (n : Nat) (sp : Nat) (wr : Bool) : RDT := iq1 T n (dgV T (tkB T n 48 57 sp wr) sp) (adv (tkB T n 48 57 sp wr) sp) (wr || !(tkB T n 48 57 sp wr))
def uq4 (T : Nat → Int32) (n : Nat) (l a : Int32) (sp : Nat) (wr : Bool) : RDT := ((nuP T n sp wr).2.2, (nuP T n sp wr).2.1, 117, l, a, (nuP T n sp wr).1, 0)
def uq3 (T : Nat → Int32) (n : Nat) (l a : Int32) (sp : Nat) (wr : Bool) : RDT := uq4 T n l a (adv (tkB T n 61 61 sp wr) sp) (wr || !(tkB T n 61 61 sp wr))
def uq2 (T : Nat → Int32) (n : Nat) (l : Int32) (sp : Nat) (wr : Bool) : RDT := uq3 T n l (dgV T (tkB T n 48 57 sp wr) sp) (adv (tkB T n 48 57 sp wr) sp) (wr || !(tkB T n 48 57 sp wr))
def uq1 (T : Nat → Int32) (n : Nat) (l : Int32) (sp : Nat) (wr : Bool) : RDT := uq2 T n l (adv (tkB T n 46 46 sp wr) sp) (wr || !(tkB T n 46 46 sp wr))
def uq0 (T : Nat → Int32) (n : Nat) (sp : Nat) (wr : Bool) : RDT := uq1 T n (dgV T (tkB T n 48 57 sp wr) sp) (adv (tkB T n 48 57 sp wr) sp) (wr || !(tkB T n 48 57 sp wr))
def rq1 (l : Int32) (sp : Nat) (wr : Bool) : RDT := (wr, sp, 114, l, 0, 0, 0)
def rq0 (T : Nat → Int32) (n : Nat) (sp : Nat) (wr : Bool) : RDT := rq1 (dgV T (tkB T n 48 57 sp wr) sp) (adv (tkB T n 48 57 sp wr) sp) (wr || !(tkB T n 48 57 sp wr))
theorem rdP_q (T : Nat → Int32) (n sp : Nat) : rdP T n sp = if nI sp = nI n then (true, sp, 0, 0, 0, 0, 0) else if T sp = 105 then iq0 T n (sp + 1) false else if T sp = 117 then uq0 T n (sp + 1) false else if T sp = 114 then rq0 T n (sp + 1) false else (true, sp, 0, 0, 0, 0, 0) := rfl
def rcQ (x : XW) (R : RDT) : Out → Hp → Prop := fun o h2 => o = .inl (some (.int (bI (!R.1)))) ∧ ∃ y, h2 = hp y ∧ FT2 x y ∧ cTx y.1 1 = nI R.2.1 ∧ (R.1 = false → cTx y.1 2 = R.2.2.1 ∧ cNu y.1 0 = R.2.2.2.1) ∧ (R.1 = false → R.2.2.1 = 105 → cNu y.1 1 = R.2.2.2.2.1 ∧ cNu y.1 2 = R.2.2.2.2.2.1 ∧ cNu y.1 3 = R.2.2.2.2.2.2) ∧ (R.1 = false → R.2.2.1 = 117 → cNu y.1 1 = R.2.2.2.2.1 ∧ cNu y.1 2 = R.2.2.2.2.2.1)
theorem rcQ.bad {x y : XW} {R : RDT} (fy : FT2 x y) (h1 : R.1 = true) (h2 : cTx y.1 1 = nI R.2.1) : rcQ x R (.inl (some (.int 0))) (hp y) := ⟨by rw [h1]; rfl, y, rfl, fy, h2, (fun q => Bool.noConfusion (h1.symm.trans q)), (fun q => Bool.noConfusion (h1.symm.trans q)), (fun q => Bool.noConfusion (h1.symm.trans q))⟩
set_option maxRecDepth 100000 in
set_option maxHeartbeats 4000000 in
theorem ct_X6_readCommand (x : XW) (T : Nat → Int32) (n sp : Nat) (hx : TXH x T n sp) (hch : ∀ i, i < n → ∃ c, c < 65536 ∧ T i = nI c) : CT MX6_readCommand 5 0 [.ref 164] (hp x) (rcQ x (rdP T n sp)) := by
  refine ct_of (by decide +kernel) (by decide) rfl (k := 5) (ls := [some (.ref 164), none, none, none, none, none]) rfl (Nat.le_of_ble_eq_true rfl) ?_
  have P0_7 : ∀ (y : XW) (l a b c : Int32) (sp : Nat) (b4 b5 : Option Value) (R : RDT), FT2 x y → TXH y T n sp → cTx y.1 2 = 105 → cNu y.1 0 = l → cNu y.1 1 = a → cNu y.1 2 = b → cNu y.1 3 = c → R = (false, sp, 105, l, a, b, c) → PW MX6_readCommand 5 0 57 [some (.ref 164), some (.ref (1000 + 0)), some (.int (nI 4)), some (.int (nI 7)), b4, b5] [] (hp y) (rcQ x R) := by
    intro y l a b c sp b4 b5 R fy ty ey n0 n1 n2 n3 hR
    refine pw_iload_n (tk tkX6_readCommand 33 rfl) rfl ?_
    refine pw_aload_n (tk tkX6_readCommand 34 rfl) rfl ?_
    refine pw_callVS (o := .inl (some (.int (nI (tlen.getD 0 0))))) (show 0 < 4 by decide) (ct_J0_length (hp y) 0 (by decide)) rfl rfl okJ0_length_8abf5 (tk tkX6_readCommand 35 rfl) mkX6_47 imJ0_length_8abf5 seJ0_length_8abf5 rfl rfl (by decide) (by decide) (Nat.le_of_ble_eq_true rfl) ?_
    refine pw_icmp_ge (tgt := 148) (tk tkX6_readCommand 36 rfl) (by decide) (fun c62 => ?_) (fun c62 => absurd (show nI (tlen.getD 0 0) ≤ nI 7 by decide) c62)
    refine pw_iconst (v := 1) (tk tkX6_readCommand 79 rfl) (by decide) ?_
    refine pw_ireturn (tk tkX6_readCommand 80 rfl) rfl (by decide) (by first | rfl | exact nar_bI _) ?_
    subst hR
    exact ⟨rfl, y, rfl, fy, ty.2.2.2.1, (fun _ => ⟨ey, n0⟩), (fun _ _ => ⟨n1, n2, n3⟩), (fun _ q => absurd q (show ¬ (105 : Int32) = 117 by decide))⟩
  have P0_6 : ∀ (y : XW) (l a b : Int32) (sp : Nat) (b4 b5 : Option Value) (R : RDT), FT2 x y → TXH y T n sp → cTx y.1 2 = 105 → cNu y.1 0 = l → cNu y.1 1 = a → cNu y.1 2 = b → R = (iq6 T n l a b sp false) → PW MX6_readCommand 5 0 57 [some (.ref 164), some (.ref (1000 + 0)), some (.int (nI 3)), some (.int (nI 6)), b4, b5] [] (hp y) (rcQ x R) := by
    intro y l a b sp b4 b5 R fy ty ey n0 n1 n2 hR
    refine pw_iload_n (tk tkX6_readCommand 33 rfl) rfl ?_
    refine pw_aload_n (tk tkX6_readCommand 34 rfl) rfl ?_
    refine pw_callVS (o := .inl (some (.int (nI (tlen.getD 0 0))))) (show 0 < 4 by decide) (ct_J0_length (hp y) 0 (by decide)) rfl rfl okJ0_length_8abf5 (tk tkX6_readCommand 35 rfl) mkX6_47 imJ0_length_8abf5 seJ0_length_8abf5 rfl rfl (by decide) (by decide) (Nat.le_of_ble_eq_true rfl) ?_
    refine pw_icmp_ge (tgt := 148) (tk tkX6_readCommand 36 rfl) (by decide) (fun c62 => absurd c62 (show ¬ nI (tlen.getD 0 0) ≤ nI 6 by decide)) (fun c62 => ?_)
    refine pw_aload_n (tk tkX6_readCommand 37 rfl) rfl ?_
    refine pw_iload_n (tk tkX6_readCommand 38 rfl) rfl ?_
    refine pw_callVS (o := .inl (some (.int ((tbyt.getD 0 []).getD 6 0)))) (show 0 < 4 by decide) (ct_J0_charAt y 0 6 (by decide) (by decide)) rfl rfl okJ0_charAt_5068e (tk tkX6_readCommand 39 rfl) mkX6_50 imJ0_charAt_5068e seJ0_charAt_5068e rfl rfl (by decide) (by decide) (Nat.le_of_ble_eq_true rfl) ?_
    rw [show (tbyt.getD 0 []).getD 6 0 = (118 : Int32) from rfl]
    refine pw_ist4 (tk tkX6_readCommand 40 rfl) rfl (by decide) ?_
    refine pw_iload (tk tkX6_readCommand 41 rfl) rfl ?_
    refine pw_bipush (v := 100) (tk tkX6_readCommand 42 rfl) (by decide) ?_
    refine pw_icmp_eq (tgt := 86) (tk tkX6_readCommand 43 rfl) (by decide) (fun c76 => absurd c76 (by decide)) (fun c76 => ?_)
    refine pw_iload (tk tkX6_readCommand 44 rfl) rfl ?_
    refine pw_bipush (v := 118) (tk tkX6_readCommand 45 rfl) (by decide) ?_
    refine pw_icmp_ne (tgt := 131) (tk tkX6_readCommand 46 rfl) (by decide) (fun c83 => (c83 rfl).elim) (fun c83 => ?_)
    refine pw_aload_n (tk tkX6_readCommand 47 rfl) rfl ?_
    refine pw_iload (tk tkX6_readCommand 48 rfl) rfl ?_
    refine pw_bipush (v := 100) (tk tkX6_readCommand 49 rfl) (by decide) ?_
    refine pw_icmp_ne (tgt := 98) (tk tkX6_readCommand 50 rfl) (by decide) (fun c91 => ?_) (fun c91 => absurd c91 (by decide))
    refine pw_iconst (v := 3) (tk tkX6_readCommand 53 rfl) (by decide) ?_
    refine pw_cV (ct_X6_readNumber3 y T n sp ty) okX6_readNumber (tk tkX6_readCommand 54 rfl) mkX6_54 imX6_readNumber seX6_readNumber (hp_ot _ 4) rfl rfl rfl (by decide) (by decide) (Nat.le_of_ble_eq_true rfl) ?_
    by_cases hdg : dgB T n sp = true
    · obtain ⟨e2, e1⟩ := rn3_t hdg
      refine pw_ist5 (tk tkX6_readCommand 55 rfl) rfl (by decide) ?_
      refine pw_iload (tk tkX6_readCommand 56 rfl) rfl ?_
      refine pw_iconst (v := (-1)) (tk tkX6_readCommand 57 rfl) (by decide) ?_
      refine pw_icmp_eq (tgt := 115) (tk tkX6_readCommand 58 rfl) (by decide) (fun c107 => absurd c107 e2) (fun c107 => ?_)
      refine pw_iload_n (tk tkX6_readCommand 59 rfl) rfl ?_
      refine pw_iconst (v := 4) (tk tkX6_readCommand 60 rfl) (by decide) ?_
      refine pw_icmp_lt (tgt := 117) (tk tkX6_readCommand 61 rfl) (by decide) (fun c112 => ?_) (fun c112 => absurd (show nI 3 < 4 by decide) c112)
      refine pw_aload_n (tk tkX6_readCommand 64 rfl) rfl ?_
      refine g6_numbers (tk tkX6_readCommand 65 rfl) fkX6_15 ?_
      refine pw_iload_n (tk tkX6_readCommand 66 rfl) rfl ?_
      refine pw_iload (tk tkX6_readCommand 67 rfl) rfl ?_
      refine as_numbers_e (e := 3) (tk tkX6_readCommand 68 rfl) rfl (by first | decide | omega) ?_
      refine pw_inc2 (tk tkX6_readCommand 69 rfl) rfl (by decide) (nI_1 3) ?_
      refine pw_goto (tgt := 142) (tk tkX6_readCommand 70 rfl) (by decide) ?_
      refine pw_inc3 (tk tkX6_readCommand 77 rfl) rfl (by decide) (nI_1 6) ?_
      refine pw_goto (tgt := 57) (tk tkX6_readCommand 78 rfl) (by decide) ?_
      exact P0_7 (uC6 (aW y (rn3 T n sp).2) (upd (cNu y.1) 3 (rn3 T n sp).1)) l a b (rn3 T n sp).1 (rn3 T n sp).2 _ _ R ((fy.tr (FT2.aw y (rn3 T n sp).2)).tr (FT2.nu _ _)) ((ty.aw (s2 := (rn3 T n sp).2) (rn3_le ty.2.2.2.2)).ft (FT2.nu _ _) rfl (rn3_le ty.2.2.2.2)) ey ((upd_nt (k := 3) (j := 0) (cNu y.1) (rn3 T n sp).1 (by decide)).trans n0) ((upd_nt (k := 3) (j := 1) (cNu y.1) (rn3 T n sp).1 (by decide)).trans n1) ((upd_nt (k := 3) (j := 2) (cNu y.1) (rn3 T n sp).1 (by decide)).trans n2) (upd_at (cNu y.1) 3 (rn3 T n sp).1) (by rw [hR]; show ((nuP T n sp false).2.2, (nuP T n sp false).2.1, 105, l, a, b, (nuP T n sp false).1) = _; rw [e1])
    · obtain ⟨e1, e3⟩ := rn3_f (Bool.eq_false_iff.mpr hdg)
      rw [e1]
      have hR2 : R = (true, sp, 105, l, a, b, 0) := by rw [hR]; show ((nuP T n sp false).2.2, (nuP T n sp false).2.1, 105, l, a, b, (nuP T n sp false).1) = _; rw [e3]
      refine pw_ist5 (tk tkX6_readCommand 55 rfl) rfl (by decide) ?_
      refine pw_iload (tk tkX6_readCommand 56 rfl) rfl ?_
      refine pw_iconst (v := (-1)) (tk tkX6_readCommand 57 rfl) (by decide) ?_
      refine pw_icmp_eq (tgt := 115) (tk tkX6_readCommand 58 rfl) (by decide) (fun c107 => ?_) (fun c107 => absurd rfl c107)
      refine pw_iconst (v := 0) (tk tkX6_readCommand 62 rfl) (by decide) ?_
      exact pw_ireturn (tk tkX6_readCommand 63 rfl) rfl (by decide) (by first | rfl | exact nar_bI _) (rcQ.bad (fy.tr (FT2.aw y sp)) (by rw [hR2] <;> rfl) (by rw [hR2] <;> rfl))
  have P0_5 : ∀ (y : XW) (l a b : Int32) (sp : Nat) (b4 b5 : Option Value) (R : RDT), FT2 x y → TXH y T n sp → cTx y.1 2 = 105 → cNu y.1 0 = l → cNu y.1 1 = a → cNu y.1 2 = b → R = (iq5 T n l a b sp false) → PW MX6_readCommand 5 0 57 [some (.ref 164), some (.ref (1000 + 0)), some (.int (nI 3)), some (.int (nI 5)), b4, b5] [] (hp y) (rcQ x R) := by
    intro y l a b sp b4 b5 R fy ty ey n0 n1 n2 hR
    refine pw_iload_n (tk tkX6_readCommand 33 rfl) rfl ?_
    refine pw_aload_n (tk tkX6_readCommand 34 rfl) rfl ?_
    refine pw_callVS (o := .inl (some (.int (nI (tlen.getD 0 0))))) (show 0 < 4 by decide) (ct_J0_length (hp y) 0 (by decide)) rfl rfl okJ0_length_8abf5 (tk tkX6_readCommand 35 rfl) mkX6_47 imJ0_length_8abf5 seJ0_length_8abf5 rfl rfl (by decide) (by decide) (Nat.le_of_ble_eq_true rfl) ?_
    refine pw_icmp_ge (tgt := 148) (tk tkX6_readCommand 36 rfl) (by decide) (fun c62 => absurd c62 (show ¬ nI (tlen.getD 0 0) ≤ nI 5 by decide)) (fun c62 => ?_)
    refine pw_aload_n (tk tkX6_readCommand 37 rfl) rfl ?_
    refine pw_iload_n (tk tkX6_readCommand 38 rfl) rfl ?_
    refine pw_callVS (o := .inl (some (.int ((tbyt.getD 0 []).getD 5 0)))) (show 0 < 4 by decide) (ct_J0_charAt y 0 5 (by decide) (by decide)) rfl rfl okJ0_charAt_5068e (tk tkX6_readCommand 39 rfl) mkX6_50 imJ0_charAt_5068e seJ0_charAt_5068e rfl rfl (by decide) (by decide) (Nat.le_of_ble_eq_true rfl) ?_
    rw [show (tbyt.getD 0 []).getD 5 0 = (44 : Int32) from rfl]
    refine pw_ist4 (tk tkX6_readCommand 40 rfl) rfl (by decide) ?_
    refine pw_iload (tk tkX6_readCommand 41 rfl) rfl ?_
    refine pw_bipush (v := 100) (tk tkX6_readCommand 42 rfl) (by decide) ?_
    refine pw_icmp_eq (tgt := 86) (tk tkX6_readCommand 43 rfl) (by decide) (fun c76 => absurd c76 (by decide)) (fun c76 => ?_)
    refine pw_iload (tk tkX6_readCommand 44 rfl) rfl ?_
    refine pw_bipush (v := 118) (tk tkX6_readCommand 45 rfl) (by decide) ?_
    refine pw_icmp_ne (tgt := 131) (tk tkX6_readCommand 46 rfl) (by decide) (fun c83 => ?_) (fun c83 => absurd c83 (by decide))
    refine pw_aload_n (tk tkX6_readCommand 71 rfl) rfl ?_
    refine pw_iload (tk tkX6_readCommand 72 rfl) rfl ?_
    refine pw_cV (ct_X6_readSign y T n sp ty 44) okX6_readSign (tk tkX6_readCommand 73 rfl) mkX6_30 imX6_readSign seX6_readSign (hp_ot _ 4) rfl rfl rfl (by decide) (by decide) (Nat.le_of_ble_eq_true rfl) ?_
    refine pw_ifnb (tgt := 142) (tk tkX6_readCommand 74 rfl) (by decide) (fun c137 => ?_) (fun c137 => ?_)
    · rw [c137]
      have hlt : sp < n := by
        have z := c137
        rw [tk_f, Bool.and_eq_true] at z
        exact of_decide_eq_true z.1
      refine pw_inc3 (tk tkX6_readCommand 77 rfl) rfl (by decide) (nI_1 5) ?_
      refine pw_goto (tgt := 57) (tk tkX6_readCommand 78 rfl) (by decide) ?_
      exact P0_6 (aW y (adv true sp)) l a b (sp + 1) _ _ R (fy.tr (FT2.aw y _)) (ty.aw (s2 := sp + 1) hlt) ey n0 n1 n2 (by rw [hR]; show (iq6 T n l a b (adv (tkB T n 44 44 sp false) sp) (false || !(tkB T n 44 44 sp false))) = _; rw [c137]; rfl)
    · refine pw_iconst (v := 0) (tk tkX6_readCommand 75 rfl) (by decide) ?_
      refine pw_ireturn (tk tkX6_readCommand 76 rfl) rfl (by decide) (by first | rfl | exact nar_bI _) ?_
      have hR2 : R = (iq6 T n l a b (adv false sp) (false || !false)) := by rw [hR]; show (iq6 T n l a b (adv (tkB T n 44 44 sp false) sp) (false || !(tkB T n 44 44 sp false))) = _; rw [c137]
      rw [c137]
      exact rcQ.bad (fy.tr (FT2.aw y _)) (by rw [hR2] <;> rfl) (by rw [hR2] <;> rfl)
  have P0_4 : ∀ (y : XW) (l a : Int32) (sp : Nat) (b4 b5 : Option Value) (R : RDT), FT2 x y → TXH y T n sp → cTx y.1 2 = 105 → cNu y.1 0 = l → cNu y.1 1 = a → R = (iq4 T n l a sp false) → PW MX6_readCommand 5 0 57 [some (.ref 164), some (.ref (1000 + 0)), some (.int (nI 2)), some (.int (nI 4)), b4, b5] [] (hp y) (rcQ x R) := by
    intro y l a sp b4 b5 R fy ty ey n0 n1 hR
    refine pw_iload_n (tk tkX6_readCommand 33 rfl) rfl ?_
    refine pw_aload_n (tk tkX6_readCommand 34 rfl) rfl ?_
    refine pw_callVS (o := .inl (some (.int (nI (tlen.getD 0 0))))) (show 0 < 4 by decide) (ct_J0_length (hp y) 0 (by decide)) rfl rfl okJ0_length_8abf5 (tk tkX6_readCommand 35 rfl) mkX6_47 imJ0_length_8abf5 seJ0_length_8abf5 rfl rfl (by decide) (by decide) (Nat.le_of_ble_eq_true rfl) ?_
    refine pw_icmp_ge (tgt := 148) (tk tkX6_readCommand 36 rfl) (by decide) (fun c62 => absurd c62 (show ¬ nI (tlen.getD 0 0) ≤ nI 4 by decide)) (fun c62 => ?_)
    refine pw_aload_n (tk tkX6_readCommand 37 rfl) rfl ?_
    refine pw_iload_n (tk tkX6_readCommand 38 rfl) rfl ?_
    refine pw_callVS (o := .inl (some (.int ((tbyt.getD 0 []).getD 4 0)))) (show 0 < 4 by decide) (ct_J0_charAt y 0 4 (by decide) (by decide)) rfl rfl okJ0_charAt_5068e (tk tkX6_readCommand 39 rfl) mkX6_50 imJ0_charAt_5068e seJ0_charAt_5068e rfl rfl (by decide) (by decide) (Nat.le_of_ble_eq_true rfl) ?_
    rw [show (tbyt.getD 0 []).getD 4 0 = (118 : Int32) from rfl]
    refine pw_ist4 (tk tkX6_readCommand 40 rfl) rfl (by decide) ?_
    refine pw_iload (tk tkX6_readCommand 41 rfl) rfl ?_
    refine pw_bipush (v := 100) (tk tkX6_readCommand 42 rfl) (by decide) ?_
    refine pw_icmp_eq (tgt := 86) (tk tkX6_readCommand 43 rfl) (by decide) (fun c76 => absurd c76 (by decide)) (fun c76 => ?_)
    refine pw_iload (tk tkX6_readCommand 44 rfl) rfl ?_
    refine pw_bipush (v := 118) (tk tkX6_readCommand 45 rfl) (by decide) ?_
    refine pw_icmp_ne (tgt := 131) (tk tkX6_readCommand 46 rfl) (by decide) (fun c83 => (c83 rfl).elim) (fun c83 => ?_)
    refine pw_aload_n (tk tkX6_readCommand 47 rfl) rfl ?_
    refine pw_iload (tk tkX6_readCommand 48 rfl) rfl ?_
    refine pw_bipush (v := 100) (tk tkX6_readCommand 49 rfl) (by decide) ?_
    refine pw_icmp_ne (tgt := 98) (tk tkX6_readCommand 50 rfl) (by decide) (fun c91 => ?_) (fun c91 => absurd c91 (by decide))
    refine pw_iconst (v := 3) (tk tkX6_readCommand 53 rfl) (by decide) ?_
    refine pw_cV (ct_X6_readNumber3 y T n sp ty) okX6_readNumber (tk tkX6_readCommand 54 rfl) mkX6_54 imX6_readNumber seX6_readNumber (hp_ot _ 4) rfl rfl rfl (by decide) (by decide) (Nat.le_of_ble_eq_true rfl) ?_
    by_cases hdg : dgB T n sp = true
    · obtain ⟨e2, e1⟩ := rn3_t hdg
      refine pw_ist5 (tk tkX6_readCommand 55 rfl) rfl (by decide) ?_
      refine pw_iload (tk tkX6_readCommand 56 rfl) rfl ?_
      refine pw_iconst (v := (-1)) (tk tkX6_readCommand 57 rfl) (by decide) ?_
      refine pw_icmp_eq (tgt := 115) (tk tkX6_readCommand 58 rfl) (by decide) (fun c107 => absurd c107 e2) (fun c107 => ?_)
      refine pw_iload_n (tk tkX6_readCommand 59 rfl) rfl ?_
      refine pw_iconst (v := 4) (tk tkX6_readCommand 60 rfl) (by decide) ?_
      refine pw_icmp_lt (tgt := 117) (tk tkX6_readCommand 61 rfl) (by decide) (fun c112 => ?_) (fun c112 => absurd (show nI 2 < 4 by decide) c112)
      refine pw_aload_n (tk tkX6_readCommand 64 rfl) rfl ?_
      refine g6_numbers (tk tkX6_readCommand 65 rfl) fkX6_15 ?_
      refine pw_iload_n (tk tkX6_readCommand 66 rfl) rfl ?_
      refine pw_iload (tk tkX6_readCommand 67 rfl) rfl ?_
      refine as_numbers_e (e := 2) (tk tkX6_readCommand 68 rfl) rfl (by first | decide | omega) ?_
      refine pw_inc2 (tk tkX6_readCommand 69 rfl) rfl (by decide) (nI_1 2) ?_
      refine pw_goto (tgt := 142) (tk tkX6_readCommand 70 rfl) (by decide) ?_
      refine pw_inc3 (tk tkX6_readCommand 77 rfl) rfl (by decide) (nI_1 4) ?_
      refine pw_goto (tgt := 57) (tk tkX6_readCommand 78 rfl) (by decide) ?_
      exact P0_5 (uC6 (aW y (rn3 T n sp).2) (upd (cNu y.1) 2 (rn3 T n sp).1)) l a (rn3 T n sp).1 (rn3 T n sp).2 _ _ R ((fy.tr (FT2.aw y (rn3 T n sp).2)).tr (FT2.nu _ _)) ((ty.aw (s2 := (rn3 T n sp).2) (rn3_le ty.2.2.2.2)).ft (FT2.nu _ _) rfl (rn3_le ty.2.2.2.2)) ey ((upd_nt (k := 2) (j := 0) (cNu y.1) (rn3 T n sp).1 (by decide)).trans n0) ((upd_nt (k := 2) (j := 1) (cNu y.1) (rn3 T n sp).1 (by decide)).trans n1) (upd_at (cNu y.1) 2 (rn3 T n sp).1) (by rw [hR]; show (iq5 T n l a (nuP T n sp false).1 (nuP T n sp false).2.1 (nuP T n sp false).2.2) = _; rw [e1])
    · obtain ⟨e1, e3⟩ := rn3_f (Bool.eq_false_iff.mpr hdg)
      rw [e1]
      have hR2 : R = (iq5 T n l a 0 sp true) := by rw [hR]; show (iq5 T n l a (nuP T n sp false).1 (nuP T n sp false).2.1 (nuP T n sp false).2.2) = _; rw [e3]
      refine pw_ist5 (tk tkX6_readCommand 55 rfl) rfl (by decide) ?_
      refine pw_iload (tk tkX6_readCommand 56 rfl) rfl ?_
      refine pw_iconst (v := (-1)) (tk tkX6_readCommand 57 rfl) (by decide) ?_
      refine pw_icmp_eq (tgt := 115) (tk tkX6_readCommand 58 rfl) (by decide) (fun c107 => ?_) (fun c107 => absurd rfl c107)
      refine pw_iconst (v := 0) (tk tkX6_readCommand 62 rfl) (by decide) ?_
      exact pw_ireturn (tk tkX6_readCommand 63 rfl) rfl (by decide) (by first | rfl | exact nar_bI _) (rcQ.bad (fy.tr (FT2.aw y sp)) (by rw [hR2] <;> rfl) (by rw [hR2] <;> rfl))
  have P0_3 : ∀ (y : XW) (l a : Int32) (sp : Nat) (b4 b5 : Option Value) (R : RDT), FT2 x y → TXH y T n sp → cTx y.1 2 = 105 → cNu y.1 0 = l → cNu y.1 1 = a → R = (iq3 T n l a sp false) → PW MX6_readCommand 5 0 57 [some (.ref 164), some (.ref (1000 + 0)), some (.int (nI 2)), some (.int (nI 3)), b4, b5] [] (hp y) (rcQ x R) := by
    intro y l a sp b4 b5 R fy ty ey n0 n1 hR
    refine pw_iload_n (tk tkX6_readCommand 33 rfl) rfl ?_
    refine pw_aload_n (tk tkX6_readCommand 34 rfl) rfl ?_
    refine pw_callVS (o := .inl (some (.int (nI (tlen.getD 0 0))))) (show 0 < 4 by decide) (ct_J0_length (hp y) 0 (by decide)) rfl rfl okJ0_length_8abf5 (tk tkX6_readCommand 35 rfl) mkX6_47 imJ0_length_8abf5 seJ0_length_8abf5 rfl rfl (by decide) (by decide) (Nat.le_of_ble_eq_true rfl) ?_
    refine pw_icmp_ge (tgt := 148) (tk tkX6_readCommand 36 rfl) (by decide) (fun c62 => absurd c62 (show ¬ nI (tlen.getD 0 0) ≤ nI 3 by decide)) (fun c62 => ?_)
    refine pw_aload_n (tk tkX6_readCommand 37 rfl) rfl ?_
    refine pw_iload_n (tk tkX6_readCommand 38 rfl) rfl ?_
    refine pw_callVS (o := .inl (some (.int ((tbyt.getD 0 []).getD 3 0)))) (show 0 < 4 by decide) (ct_J0_charAt y 0 3 (by decide) (by decide)) rfl rfl okJ0_charAt_5068e (tk tkX6_readCommand 39 rfl) mkX6_50 imJ0_charAt_5068e seJ0_charAt_5068e rfl rfl (by decide) (by decide) (Nat.le_of_ble_eq_true rfl) ?_
    rw [show (tbyt.getD 0 []).getD 3 0 = (44 : Int32) from rfl]
    refine pw_ist4 (tk tkX6_readCommand 40 rfl) rfl (by decide) ?_
    refine pw_iload (tk tkX6_readCommand 41 rfl) rfl ?_
    refine pw_bipush (v := 100) (tk tkX6_readCommand 42 rfl) (by decide) ?_
    refine pw_icmp_eq (tgt := 86) (tk tkX6_readCommand 43 rfl) (by decide) (fun c76 => absurd c76 (by decide)) (fun c76 => ?_)
    refine pw_iload (tk tkX6_readCommand 44 rfl) rfl ?_
    refine pw_bipush (v := 118) (tk tkX6_readCommand 45 rfl) (by decide) ?_
    refine pw_icmp_ne (tgt := 131) (tk tkX6_readCommand 46 rfl) (by decide) (fun c83 => ?_) (fun c83 => absurd c83 (by decide))
    refine pw_aload_n (tk tkX6_readCommand 71 rfl) rfl ?_
    refine pw_iload (tk tkX6_readCommand 72 rfl) rfl ?_
    refine pw_cV (ct_X6_readSign y T n sp ty 44) okX6_readSign (tk tkX6_readCommand 73 rfl) mkX6_30 imX6_readSign seX6_readSign (hp_ot _ 4) rfl rfl rfl (by decide) (by decide) (Nat.le_of_ble_eq_true rfl) ?_
    refine pw_ifnb (tgt := 142) (tk tkX6_readCommand 74 rfl) (by decide) (fun c137 => ?_) (fun c137 => ?_)
    · rw [c137]
      have hlt : sp < n := by
        have z := c137
        rw [tk_f, Bool.and_eq_true] at z
        exact of_decide_eq_true z.1
      refine pw_inc3 (tk tkX6_readCommand 77 rfl) rfl (by decide) (nI_1 3) ?_
      refine pw_goto (tgt := 57) (tk tkX6_readCommand 78 rfl) (by decide) ?_
      exact P0_4 (aW y (adv true sp)) l a (sp + 1) _ _ R (fy.tr (FT2.aw y _)) (ty.aw (s2 := sp + 1) hlt) ey n0 n1 (by rw [hR]; show (iq4 T n l a (adv (tkB T n 44 44 sp false) sp) (false || !(tkB T n 44 44 sp false))) = _; rw [c137]; rfl)
    · refine pw_iconst (v := 0) (tk tkX6_readCommand 75 rfl) (by decide) ?_
      refine pw_ireturn (tk tkX6_readCommand 76 rfl) rfl (by decide) (by first | rfl | exact nar_bI _) ?_
      have hR2 : R = (iq4 T n l a (adv false sp) (false || !false)) := by rw [hR]; show (iq4 T n l a (adv (tkB T n 44 44 sp false) sp) (false || !(tkB T n 44 44 sp false))) = _; rw [c137]
      rw [c137]
      exact rcQ.bad (fy.tr (FT2.aw y _)) (by rw [hR2] <;> rfl) (by rw [hR2] <;> rfl)
  have P0_2 : ∀ (y : XW) (l : Int32) (sp : Nat) (b4 b5 : Option Value) (R : RDT), FT2 x y → TXH y T n sp → cTx y.1 2 = 105 → cNu y.1 0 = l → R = (iq2 T n l sp false) → PW MX6_readCommand 5 0 57 [some (.ref 164), some (.ref (1000 + 0)), some (.int (nI 1)), some (.int (nI 2)), b4, b5] [] (hp y) (rcQ x R) := by
    intro y l sp b4 b5 R fy ty ey n0 hR
    refine pw_iload_n (tk tkX6_readCommand 33 rfl) rfl ?_
    refine pw_aload_n (tk tkX6_readCommand 34 rfl) rfl ?_
    refine pw_callVS (o := .inl (some (.int (nI (tlen.getD 0 0))))) (show 0 < 4 by decide) (ct_J0_length (hp y) 0 (by decide)) rfl rfl okJ0_length_8abf5 (tk tkX6_readCommand 35 rfl) mkX6_47 imJ0_length_8abf5 seJ0_length_8abf5 rfl rfl (by decide) (by decide) (Nat.le_of_ble_eq_true rfl) ?_
    refine pw_icmp_ge (tgt := 148) (tk tkX6_readCommand 36 rfl) (by decide) (fun c62 => absurd c62 (show ¬ nI (tlen.getD 0 0) ≤ nI 2 by decide)) (fun c62 => ?_)
    refine pw_aload_n (tk tkX6_readCommand 37 rfl) rfl ?_
    refine pw_iload_n (tk tkX6_readCommand 38 rfl) rfl ?_
    refine pw_callVS (o := .inl (some (.int ((tbyt.getD 0 []).getD 2 0)))) (show 0 < 4 by decide) (ct_J0_charAt y 0 2 (by decide) (by decide)) rfl rfl okJ0_charAt_5068e (tk tkX6_readCommand 39 rfl) mkX6_50 imJ0_charAt_5068e seJ0_charAt_5068e rfl rfl (by decide) (by decide) (Nat.le_of_ble_eq_true rfl) ?_
    rw [show (tbyt.getD 0 []).getD 2 0 = (118 : Int32) from rfl]
    refine pw_ist4 (tk tkX6_readCommand 40 rfl) rfl (by decide) ?_
    refine pw_iload (tk tkX6_readCommand 41 rfl) rfl ?_
    refine pw_bipush (v := 100) (tk tkX6_readCommand 42 rfl) (by decide) ?_
    refine pw_icmp_eq (tgt := 86) (tk tkX6_readCommand 43 rfl) (by decide) (fun c76 => absurd c76 (by decide)) (fun c76 => ?_)
    refine pw_iload (tk tkX6_readCommand 44 rfl) rfl ?_
    refine pw_bipush (v := 118) (tk tkX6_readCommand 45 rfl) (by decide) ?_
    refine pw_icmp_ne (tgt := 131) (tk tkX6_readCommand 46 rfl) (by decide) (fun c83 => (c83 rfl).elim) (fun c83 => ?_)
    refine pw_aload_n (tk tkX6_readCommand 47 rfl) rfl ?_
    refine pw_iload (tk tkX6_readCommand 48 rfl) rfl ?_
    refine pw_bipush (v := 100) (tk tkX6_readCommand 49 rfl) (by decide) ?_
    refine pw_icmp_ne (tgt := 98) (tk tkX6_readCommand 50 rfl) (by decide) (fun c91 => ?_) (fun c91 => absurd c91 (by decide))
    refine pw_iconst (v := 3) (tk tkX6_readCommand 53 rfl) (by decide) ?_
    refine pw_cV (ct_X6_readNumber3 y T n sp ty) okX6_readNumber (tk tkX6_readCommand 54 rfl) mkX6_54 imX6_readNumber seX6_readNumber (hp_ot _ 4) rfl rfl rfl (by decide) (by decide) (Nat.le_of_ble_eq_true rfl) ?_
    by_cases hdg : dgB T n sp = true
    · obtain ⟨e2, e1⟩ := rn3_t hdg
      refine pw_ist5 (tk tkX6_readCommand 55 rfl) rfl (by decide) ?_
      refine pw_iload (tk tkX6_readCommand 56 rfl) rfl ?_
      refine pw_iconst (v := (-1)) (tk tkX6_readCommand 57 rfl) (by decide) ?_
      refine pw_icmp_eq (tgt := 115) (tk tkX6_readCommand 58 rfl) (by decide) (fun c107 => absurd c107 e2) (fun c107 => ?_)
      refine pw_iload_n (tk tkX6_readCommand 59 rfl) rfl ?_
      refine pw_iconst (v := 4) (tk tkX6_readCommand 60 rfl) (by decide) ?_
      refine pw_icmp_lt (tgt := 117) (tk tkX6_readCommand 61 rfl) (by decide) (fun c112 => ?_) (fun c112 => absurd (show nI 1 < 4 by decide) c112)
      refine pw_aload_n (tk tkX6_readCommand 64 rfl) rfl ?_
      refine g6_numbers (tk tkX6_readCommand 65 rfl) fkX6_15 ?_
      refine pw_iload_n (tk tkX6_readCommand 66 rfl) rfl ?_
      refine pw_iload (tk tkX6_readCommand 67 rfl) rfl ?_
      refine as_numbers_e (e := 1) (tk tkX6_readCommand 68 rfl) rfl (by first | decide | omega) ?_
      refine pw_inc2 (tk tkX6_readCommand 69 rfl) rfl (by decide) (nI_1 1) ?_
      refine pw_goto (tgt := 142) (tk tkX6_readCommand 70 rfl) (by decide) ?_
      refine pw_inc3 (tk tkX6_readCommand 77 rfl) rfl (by decide) (nI_1 2) ?_
      refine pw_goto (tgt := 57) (tk tkX6_readCommand 78 rfl) (by decide) ?_
      exact P0_3 (uC6 (aW y (rn3 T n sp).2) (upd (cNu y.1) 1 (rn3 T n sp).1)) l (rn3 T n sp).1 (rn3 T n sp).2 _ _ R ((fy.tr (FT2.aw y (rn3 T n sp).2)).tr (FT2.nu _ _)) ((ty.aw (s2 := (rn3 T n sp).2) (rn3_le ty.2.2.2.2)).ft (FT2.nu _ _) rfl (rn3_le ty.2.2.2.2)) ey ((upd_nt (k := 1) (j := 0) (cNu y.1) (rn3 T n sp).1 (by decide)).trans n0) (upd_at (cNu y.1) 1 (rn3 T n sp).1) (by rw [hR]; show (iq3 T n l (nuP T n sp false).1 (nuP T n sp false).2.1 (nuP T n sp false).2.2) = _; rw [e1])
    · obtain ⟨e1, e3⟩ := rn3_f (Bool.eq_false_iff.mpr hdg)
      rw [e1]
      have hR2 : R = (iq3 T n l 0 sp true) := by rw [hR]; show (iq3 T n l (nuP T n sp false).1 (nuP T n sp false).2.1 (nuP T n sp false).2.2) = _; rw [e3]
      refine pw_ist5 (tk tkX6_readCommand 55 rfl) rfl (by decide) ?_
      refine pw_iload (tk tkX6_readCommand 56 rfl) rfl ?_
      refine pw_iconst (v := (-1)) (tk tkX6_readCommand 57 rfl) (by decide) ?_
      refine pw_icmp_eq (tgt := 115) (tk tkX6_readCommand 58 rfl) (by decide) (fun c107 => ?_) (fun c107 => absurd rfl c107)
      refine pw_iconst (v := 0) (tk tkX6_readCommand 62 rfl) (by decide) ?_
      exact pw_ireturn (tk tkX6_readCommand 63 rfl) rfl (by decide) (by first | rfl | exact nar_bI _) (rcQ.bad (fy.tr (FT2.aw y sp)) (by rw [hR2] <;> rfl) (by rw [hR2] <;> rfl))
  have P0_1 : ∀ (y : XW) (l : Int32) (sp : Nat) (b4 b5 : Option Value) (R : RDT), FT2 x y → TXH y T n sp → cTx y.1 2 = 105 → cNu y.1 0 = l → R = (iq1 T n l sp false) → PW MX6_readCommand 5 0 57 [some (.ref 164), some (.ref (1000 + 0)), some (.int (nI 1)), some (.int (nI 1)), b4, b5] [] (hp y) (rcQ x R) := by
    intro y l sp b4 b5 R fy ty ey n0 hR
    refine pw_iload_n (tk tkX6_readCommand 33 rfl) rfl ?_
    refine pw_aload_n (tk tkX6_readCommand 34 rfl) rfl ?_
    refine pw_callVS (o := .inl (some (.int (nI (tlen.getD 0 0))))) (show 0 < 4 by decide) (ct_J0_length (hp y) 0 (by decide)) rfl rfl okJ0_length_8abf5 (tk tkX6_readCommand 35 rfl) mkX6_47 imJ0_length_8abf5 seJ0_length_8abf5 rfl rfl (by decide) (by decide) (Nat.le_of_ble_eq_true rfl) ?_
    refine pw_icmp_ge (tgt := 148) (tk tkX6_readCommand 36 rfl) (by decide) (fun c62 => absurd c62 (show ¬ nI (tlen.getD 0 0) ≤ nI 1 by decide)) (fun c62 => ?_)
    refine pw_aload_n (tk tkX6_readCommand 37 rfl) rfl ?_
    refine pw_iload_n (tk tkX6_readCommand 38 rfl) rfl ?_
    refine pw_callVS (o := .inl (some (.int ((tbyt.getD 0 []).getD 1 0)))) (show 0 < 4 by decide) (ct_J0_charAt y 0 1 (by decide) (by decide)) rfl rfl okJ0_charAt_5068e (tk tkX6_readCommand 39 rfl) mkX6_50 imJ0_charAt_5068e seJ0_charAt_5068e rfl rfl (by decide) (by decide) (Nat.le_of_ble_eq_true rfl) ?_
    rw [show (tbyt.getD 0 []).getD 1 0 = (61 : Int32) from rfl]
    refine pw_ist4 (tk tkX6_readCommand 40 rfl) rfl (by decide) ?_
    refine pw_iload (tk tkX6_readCommand 41 rfl) rfl ?_
    refine pw_bipush (v := 100) (tk tkX6_readCommand 42 rfl) (by decide) ?_
    refine pw_icmp_eq (tgt := 86) (tk tkX6_readCommand 43 rfl) (by decide) (fun c76 => absurd c76 (by decide)) (fun c76 => ?_)
    refine pw_iload (tk tkX6_readCommand 44 rfl) rfl ?_
    refine pw_bipush (v := 118) (tk tkX6_readCommand 45 rfl) (by decide) ?_
    refine pw_icmp_ne (tgt := 131) (tk tkX6_readCommand 46 rfl) (by decide) (fun c83 => ?_) (fun c83 => absurd c83 (by decide))
    refine pw_aload_n (tk tkX6_readCommand 71 rfl) rfl ?_
    refine pw_iload (tk tkX6_readCommand 72 rfl) rfl ?_
    refine pw_cV (ct_X6_readSign y T n sp ty 61) okX6_readSign (tk tkX6_readCommand 73 rfl) mkX6_30 imX6_readSign seX6_readSign (hp_ot _ 4) rfl rfl rfl (by decide) (by decide) (Nat.le_of_ble_eq_true rfl) ?_
    refine pw_ifnb (tgt := 142) (tk tkX6_readCommand 74 rfl) (by decide) (fun c137 => ?_) (fun c137 => ?_)
    · rw [c137]
      have hlt : sp < n := by
        have z := c137
        rw [tk_f, Bool.and_eq_true] at z
        exact of_decide_eq_true z.1
      refine pw_inc3 (tk tkX6_readCommand 77 rfl) rfl (by decide) (nI_1 1) ?_
      refine pw_goto (tgt := 57) (tk tkX6_readCommand 78 rfl) (by decide) ?_
      exact P0_2 (aW y (adv true sp)) l (sp + 1) _ _ R (fy.tr (FT2.aw y _)) (ty.aw (s2 := sp + 1) hlt) ey n0 (by rw [hR]; show (iq2 T n l (adv (tkB T n 61 61 sp false) sp) (false || !(tkB T n 61 61 sp false))) = _; rw [c137]; rfl)
    · refine pw_iconst (v := 0) (tk tkX6_readCommand 75 rfl) (by decide) ?_
      refine pw_ireturn (tk tkX6_readCommand 76 rfl) rfl (by decide) (by first | rfl | exact nar_bI _) ?_
      have hR2 : R = (iq2 T n l (adv false sp) (false || !false)) := by rw [hR]; show (iq2 T n l (adv (tkB T n 61 61 sp false) sp) (false || !(tkB T n 61 61 sp false))) = _; rw [c137]
      rw [c137]
      exact rcQ.bad (fy.tr (FT2.aw y _)) (by rw [hR2] <;> rfl) (by rw [hR2] <;> rfl)
  have P0_0 : ∀ (y : XW) (sp : Nat) (b4 b5 : Option Value) (R : RDT), FT2 x y → TXH y T n sp → cTx y.1 2 = 105 → R = (iq0 T n  sp false) → PW MX6_readCommand 5 0 57 [some (.ref 164), some (.ref (1000 + 0)), some (.int (nI 0)), some (.int (nI 0)), b4, b5] [] (hp y) (rcQ x R) := by
    intro y  sp b4 b5 R fy ty ey  hR
    refine pw_iload_n (tk tkX6_readCommand 33 rfl) rfl ?_
    refine pw_aload_n (tk tkX6_readCommand 34 rfl) rfl ?_
    refine pw_callVS (o := .inl (some (.int (nI (tlen.getD 0 0))))) (show 0 < 4 by decide) (ct_J0_length (hp y) 0 (by decide)) rfl rfl okJ0_length_8abf5 (tk tkX6_readCommand 35 rfl) mkX6_47 imJ0_length_8abf5 seJ0_length_8abf5 rfl rfl (by decide) (by decide) (Nat.le_of_ble_eq_true rfl) ?_
    refine pw_icmp_ge (tgt := 148) (tk tkX6_readCommand 36 rfl) (by decide) (fun c62 => absurd c62 (show ¬ nI (tlen.getD 0 0) ≤ nI 0 by decide)) (fun c62 => ?_)
    refine pw_aload_n (tk tkX6_readCommand 37 rfl) rfl ?_
    refine pw_iload_n (tk tkX6_readCommand 38 rfl) rfl ?_
    refine pw_callVS (o := .inl (some (.int ((tbyt.getD 0 []).getD 0 0)))) (show 0 < 4 by decide) (ct_J0_charAt y 0 0 (by decide) (by decide)) rfl rfl okJ0_charAt_5068e (tk tkX6_readCommand 39 rfl) mkX6_50 imJ0_charAt_5068e seJ0_charAt_5068e rfl rfl (by decide) (by decide) (Nat.le_of_ble_eq_true rfl) ?_
    rw [show (tbyt.getD 0 []).getD 0 0 = (100 : Int32) from rfl]
    refine pw_ist4 (tk tkX6_readCommand 40 rfl) rfl (by decide) ?_
    refine pw_iload (tk tkX6_readCommand 41 rfl) rfl ?_
    refine pw_bipush (v := 100) (tk tkX6_readCommand 42 rfl) (by decide) ?_
    refine pw_icmp_eq (tgt := 86) (tk tkX6_readCommand 43 rfl) (by decide) (fun c76 => ?_) (fun c76 => absurd rfl c76)
    refine pw_aload_n (tk tkX6_readCommand 47 rfl) rfl ?_
    refine pw_iload (tk tkX6_readCommand 48 rfl) rfl ?_
    refine pw_bipush (v := 100) (tk tkX6_readCommand 49 rfl) (by decide) ?_
    refine pw_icmp_ne (tgt := 98) (tk tkX6_readCommand 50 rfl) (by decide) (fun c91 => (c91 rfl).elim) (fun c91 => ?_)
    refine pw_iconst (v := 1) (tk tkX6_readCommand 51 rfl) (by decide) ?_
    refine pw_goto (tgt := 99) (tk tkX6_readCommand 52 rfl) (by decide) ?_
    refine pw_cV (ct_X6_readNumber1 y T n sp ty) okX6_readNumber (tk tkX6_readCommand 54 rfl) mkX6_54 imX6_readNumber seX6_readNumber (hp_ot _ 4) rfl rfl rfl (by decide) (by decide) (Nat.le_of_ble_eq_true rfl) ?_
    by_cases hdg : dgB T n sp = true
    · obtain ⟨e1, e2⟩ := rn1_t hdg
      rw [e1]
      refine pw_ist5 (tk tkX6_readCommand 55 rfl) rfl (by decide) ?_
      refine pw_iload (tk tkX6_readCommand 56 rfl) rfl ?_
      refine pw_iconst (v := (-1)) (tk tkX6_readCommand 57 rfl) (by decide) ?_
      refine pw_icmp_eq (tgt := 115) (tk tkX6_readCommand 58 rfl) (by decide) (fun c107 => absurd c107 e2) (fun c107 => ?_)
      refine pw_iload_n (tk tkX6_readCommand 59 rfl) rfl ?_
      refine pw_iconst (v := 4) (tk tkX6_readCommand 60 rfl) (by decide) ?_
      refine pw_icmp_lt (tgt := 117) (tk tkX6_readCommand 61 rfl) (by decide) (fun c112 => ?_) (fun c112 => absurd (show nI 0 < 4 by decide) c112)
      refine pw_aload_n (tk tkX6_readCommand 64 rfl) rfl ?_
      refine g6_numbers (tk tkX6_readCommand 65 rfl) fkX6_15 ?_
      refine pw_iload_n (tk tkX6_readCommand 66 rfl) rfl ?_
      refine pw_iload (tk tkX6_readCommand 67 rfl) rfl ?_
      refine as_numbers_e (e := 0) (tk tkX6_readCommand 68 rfl) rfl (by first | decide | omega) ?_
      refine pw_inc2 (tk tkX6_readCommand 69 rfl) rfl (by decide) (nI_1 0) ?_
      refine pw_goto (tgt := 142) (tk tkX6_readCommand 70 rfl) (by decide) ?_
      refine pw_inc3 (tk tkX6_readCommand 77 rfl) rfl (by decide) (nI_1 0) ?_
      refine pw_goto (tgt := 57) (tk tkX6_readCommand 78 rfl) (by decide) ?_
      exact P0_1 (uC6 (aW y (sp + 1)) (upd (cNu y.1) 0 (T sp - 48))) (T sp - 48) (sp + 1) _ _ R ((fy.tr (FT2.aw y (sp + 1))).tr (FT2.nu _ _)) ((ty.aw (s2 := (sp + 1)) (dg_v hdg).1).ft (FT2.nu _ _) rfl (dg_v hdg).1) ey (upd_at (cNu y.1) 0 (T sp - 48)) (by rw [hR]; show (iq1 T n (dgV T (tkB T n 48 57 sp false) sp) (adv (tkB T n 48 57 sp false) sp) (false || !(tkB T n 48 57 sp false))) = _; rw [show tkB T n 48 57 sp false = true from hdg]; rfl)
    · have e1 := rn1_f (Bool.eq_false_iff.mpr hdg)
      rw [e1]
      have hR2 : R = (iq1 T n (dgV T false sp) (adv false sp) (false || !false)) := by rw [hR]; show (iq1 T n (dgV T (tkB T n 48 57 sp false) sp) (adv (tkB T n 48 57 sp false) sp) (false || !(tkB T n 48 57 sp false))) = _; rw [show tkB T n 48 57 sp false = false from Bool.eq_false_iff.mpr hdg]
      refine pw_ist5 (tk tkX6_readCommand 55 rfl) rfl (by decide) ?_
      refine pw_iload (tk tkX6_readCommand 56 rfl) rfl ?_
      refine pw_iconst (v := (-1)) (tk tkX6_readCommand 57 rfl) (by decide) ?_
      refine pw_icmp_eq (tgt := 115) (tk tkX6_readCommand 58 rfl) (by decide) (fun c107 => ?_) (fun c107 => absurd rfl c107)
      refine pw_iconst (v := 0) (tk tkX6_readCommand 62 rfl) (by decide) ?_
      exact pw_ireturn (tk tkX6_readCommand 63 rfl) rfl (by decide) (by first | rfl | exact nar_bI _) (rcQ.bad (fy.tr (FT2.aw y sp)) (by rw [hR2] <;> rfl) (by rw [hR2] <;> rfl))
  have P1_5 : ∀ (y : XW) (l a b : Int32) (sp : Nat) (b4 b5 : Option Value) (R : RDT), FT2 x y → TXH y T n sp → cTx y.1 2 = 117 → cNu y.1 0 = l → cNu y.1 1 = a → cNu y.1 2 = b → R = (false, sp, 117, l, a, b, 0) → PW MX6_readCommand 5 0 57 [some (.ref 164), some (.ref (1000 + 1)), some (.int (nI 3)), some (.int (nI 5)), b4, b5] [] (hp y) (rcQ x R) := by
    intro y l a b sp b4 b5 R fy ty ey n0 n1 n2 hR
    refine pw_iload_n (tk tkX6_readCommand 33 rfl) rfl ?_
    refine pw_aload_n (tk tkX6_readCommand 34 rfl) rfl ?_
    refine pw_callVS (o := .inl (some (.int (nI (tlen.getD 1 0))))) (show 1 < 4 by decide) (ct_J0_length (hp y) 1 (by decide)) rfl rfl okJ0_length_8abf5 (tk tkX6_readCommand 35 rfl) mkX6_47 imJ0_length_8abf5 seJ0_length_8abf5 rfl rfl (by decide) (by decide) (Nat.le_of_ble_eq_true rfl) ?_
    refine pw_icmp_ge (tgt := 148) (tk tkX6_readCommand 36 rfl) (by decide) (fun c62 => ?_) (fun c62 => absurd (show nI (tlen.getD 1 0) ≤ nI 5 by decide) c62)
    refine pw_iconst (v := 1) (tk tkX6_readCommand 79 rfl) (by decide) ?_
    refine pw_ireturn (tk tkX6_readCommand 80 rfl) rfl (by decide) (by first | rfl | exact nar_bI _) ?_
    subst hR
    exact ⟨rfl, y, rfl, fy, ty.2.2.2.1, (fun _ => ⟨ey, n0⟩), (fun _ q => absurd q (show ¬ (117 : Int32) = 105 by decide)), (fun _ _ => ⟨n1, n2⟩)⟩
  have P1_4 : ∀ (y : XW) (l a : Int32) (sp : Nat) (b4 b5 : Option Value) (R : RDT), FT2 x y → TXH y T n sp → cTx y.1 2 = 117 → cNu y.1 0 = l → cNu y.1 1 = a → R = (uq4 T n l a sp false) → PW MX6_readCommand 5 0 57 [some (.ref 164), some (.ref (1000 + 1)), some (.int (nI 2)), some (.int (nI 4)), b4, b5] [] (hp y) (rcQ x R) := by
    intro y l a sp b4 b5 R fy ty ey n0 n1 hR
    refine pw_iload_n (tk tkX6_readCommand 33 rfl) rfl ?_
    refine pw_aload_n (tk tkX6_readCommand 34 rfl) rfl ?_
    refine pw_callVS (o := .inl (some (.int (nI (tlen.getD 1 0))))) (show 1 < 4 by decide) (ct_J0_length (hp y) 1 (by decide)) rfl rfl okJ0_length_8abf5 (tk tkX6_readCommand 35 rfl) mkX6_47 imJ0_length_8abf5 seJ0_length_8abf5 rfl rfl (by decide) (by decide) (Nat.le_of_ble_eq_true rfl) ?_
    refine pw_icmp_ge (tgt := 148) (tk tkX6_readCommand 36 rfl) (by decide) (fun c62 => absurd c62 (show ¬ nI (tlen.getD 1 0) ≤ nI 4 by decide)) (fun c62 => ?_)
    refine pw_aload_n (tk tkX6_readCommand 37 rfl) rfl ?_
    refine pw_iload_n (tk tkX6_readCommand 38 rfl) rfl ?_
    refine pw_callVS (o := .inl (some (.int ((tbyt.getD 1 []).getD 4 0)))) (show 1 < 4 by decide) (ct_J0_charAt y 1 4 (by decide) (by decide)) rfl rfl okJ0_charAt_5068e (tk tkX6_readCommand 39 rfl) mkX6_50 imJ0_charAt_5068e seJ0_charAt_5068e rfl rfl (by decide) (by decide) (Nat.le_of_ble_eq_true rfl) ?_
    rw [show (tbyt.getD 1 []).getD 4 0 = (118 : Int32) from rfl]
    refine pw_ist4 (tk tkX6_readCommand 40 rfl) rfl (by decide) ?_
    refine pw_iload (tk tkX6_readCommand 41 rfl) rfl ?_
    refine pw_bipush (v := 100) (tk tkX6_readCommand 42 rfl) (by decide) ?_
    refine pw_icmp_eq (tgt := 86) (tk tkX6_readCommand 43 rfl) (by decide) (fun c76 => absurd c76 (by decide)) (fun c76 => ?_)
    refine pw_iload (tk tkX6_readCommand 44 rfl) rfl ?_
    refine pw_bipush (v := 118) (tk tkX6_readCommand 45 rfl) (by decide) ?_
    refine pw_icmp_ne (tgt := 131) (tk tkX6_readCommand 46 rfl) (by decide) (fun c83 => (c83 rfl).elim) (fun c83 => ?_)
    refine pw_aload_n (tk tkX6_readCommand 47 rfl) rfl ?_
    refine pw_iload (tk tkX6_readCommand 48 rfl) rfl ?_
    refine pw_bipush (v := 100) (tk tkX6_readCommand 49 rfl) (by decide) ?_
    refine pw_icmp_ne (tgt := 98) (tk tkX6_readCommand 50 rfl) (by decide) (fun c91 => ?_) (fun c91 => absurd c91 (by decide))
    refine pw_iconst (v := 3) (tk tkX6_readCommand 53 rfl) (by decide) ?_
    refine pw_cV (ct_X6_readNumber3 y T n sp ty) okX6_readNumber (tk tkX6_readCommand 54 rfl) mkX6_54 imX6_readNumber seX6_readNumber (hp_ot _ 4) rfl rfl rfl (by decide) (by decide) (Nat.le_of_ble_eq_true rfl) ?_
    by_cases hdg : dgB T n sp = true
    · obtain ⟨e2, e1⟩ := rn3_t hdg
      refine pw_ist5 (tk tkX6_readCommand 55 rfl) rfl (by decide) ?_
      refine pw_iload (tk tkX6_readCommand 56 rfl) rfl ?_
      refine pw_iconst (v := (-1)) (tk tkX6_readCommand 57 rfl) (by decide) ?_
      refine pw_icmp_eq (tgt := 115) (tk tkX6_readCommand 58 rfl) (by decide) (fun c107 => absurd c107 e2) (fun c107 => ?_)
      refine pw_iload_n (tk tkX6_readCommand 59 rfl) rfl ?_
      refine pw_iconst (v := 4) (tk tkX6_readCommand 60 rfl) (by decide) ?_
      refine pw_icmp_lt (tgt := 117) (tk tkX6_readCommand 61 rfl) (by decide) (fun c112 => ?_) (fun c112 => absurd (show nI 2 < 4 by decide) c112)
      refine pw_aload_n (tk tkX6_readCommand 64 rfl) rfl ?_
      refine g6_numbers (tk tkX6_readCommand 65 rfl) fkX6_15 ?_
      refine pw_iload_n (tk tkX6_readCommand 66 rfl) rfl ?_
      refine pw_iload (tk tkX6_readCommand 67 rfl) rfl ?_
      refine as_numbers_e (e := 2) (tk tkX6_readCommand 68 rfl) rfl (by first | decide | omega) ?_
      refine pw_inc2 (tk tkX6_readCommand 69 rfl) rfl (by decide) (nI_1 2) ?_
      refine pw_goto (tgt := 142) (tk tkX6_readCommand 70 rfl) (by decide) ?_
      refine pw_inc3 (tk tkX6_readCommand 77 rfl) rfl (by decide) (nI_1 4) ?_
      refine pw_goto (tgt := 57) (tk tkX6_readCommand 78 rfl) (by decide) ?_
      exact P1_5 (uC6 (aW y (rn3 T n sp).2) (upd (cNu y.1) 2 (rn3 T n sp).1)) l a (rn3 T n sp).1 (rn3 T n sp).2 _ _ R ((fy.tr (FT2.aw y (rn3 T n sp).2)).tr (FT2.nu _ _)) ((ty.aw (s2 := (rn3 T n sp).2) (rn3_le ty.2.2.2.2)).ft (FT2.nu _ _) rfl (rn3_le ty.2.2.2.2)) ey ((upd_nt (k := 2) (j := 0) (cNu y.1) (rn3 T n sp).1 (by decide)).trans n0) ((upd_nt (k := 2) (j := 1) (cNu y.1) (rn3 T n sp).1 (by decide)).trans n1) (upd_at (cNu y.1) 2 (rn3 T n sp).1) (by rw [hR]; show ((nuP T n sp false).2.2, (nuP T n sp false).2.1, 117, l, a, (nuP T n sp false).1, 0) = _; rw [e1])
    · obtain ⟨e1, e3⟩ := rn3_f (Bool.eq_false_iff.mpr hdg)
      rw [e1]
      have hR2 : R = (true, sp, 117, l, a, 0, 0) := by rw [hR]; show ((nuP T n sp false).2.2, (nuP T n sp false).2.1, 117, l, a, (nuP T n sp false).1, 0) = _; rw [e3]
      refine pw_ist5 (tk tkX6_readCommand 55 rfl) rfl (by decide) ?_
      refine pw_iload (tk tkX6_readCommand 56 rfl) rfl ?_
      refine pw_iconst (v := (-1)) (tk tkX6_readCommand 57 rfl) (by decide) ?_
      refine pw_icmp_eq (tgt := 115) (tk tkX6_readCommand 58 rfl) (by decide) (fun c107 => ?_) (fun c107 => absurd rfl c107)
      refine pw_iconst (v := 0) (tk tkX6_readCommand 62 rfl) (by decide) ?_
      exact pw_ireturn (tk tkX6_readCommand 63 rfl) rfl (by decide) (by first | rfl | exact nar_bI _) (rcQ.bad (fy.tr (FT2.aw y sp)) (by rw [hR2] <;> rfl) (by rw [hR2] <;> rfl))
  have P1_3 : ∀ (y : XW) (l a : Int32) (sp : Nat) (b4 b5 : Option Value) (R : RDT), FT2 x y → TXH y T n sp → cTx y.1 2 = 117 → cNu y.1 0 = l → cNu y.1 1 = a → R = (uq3 T n l a sp false) → PW MX6_readCommand 5 0 57 [some (.ref 164), some (.ref (1000 + 1)), some (.int (nI 2)), some (.int (nI 3)), b4, b5] [] (hp y) (rcQ x R) := by
    intro y l a sp b4 b5 R fy ty ey n0 n1 hR
    refine pw_iload_n (tk tkX6_readCommand 33 rfl) rfl ?_
    refine pw_aload_n (tk tkX6_readCommand 34 rfl) rfl ?_
    refine pw_callVS (o := .inl (some (.int (nI (tlen.getD 1 0))))) (show 1 < 4 by decide) (ct_J0_length (hp y) 1 (by decide)) rfl rfl okJ0_length_8abf5 (tk tkX6_readCommand 35 rfl) mkX6_47 imJ0_length_8abf5 seJ0_length_8abf5 rfl rfl (by decide) (by decide) (Nat.le_of_ble_eq_true rfl) ?_
    refine pw_icmp_ge (tgt := 148) (tk tkX6_readCommand 36 rfl) (by decide) (fun c62 => absurd c62 (show ¬ nI (tlen.getD 1 0) ≤ nI 3 by decide)) (fun c62 => ?_)
    refine pw_aload_n (tk tkX6_readCommand 37 rfl) rfl ?_
    refine pw_iload_n (tk tkX6_readCommand 38 rfl) rfl ?_
    refine pw_callVS (o := .inl (some (.int ((tbyt.getD 1 []).getD 3 0)))) (show 1 < 4 by decide) (ct_J0_charAt y 1 3 (by decide) (by decide)) rfl rfl okJ0_charAt_5068e (tk tkX6_readCommand 39 rfl) mkX6_50 imJ0_charAt_5068e seJ0_charAt_5068e rfl rfl (by decide) (by decide) (Nat.le_of_ble_eq_true rfl) ?_
    rw [show (tbyt.getD 1 []).getD 3 0 = (61 : Int32) from rfl]
    refine pw_ist4 (tk tkX6_readCommand 40 rfl) rfl (by decide) ?_
    refine pw_iload (tk tkX6_readCommand 41 rfl) rfl ?_
    refine pw_bipush (v := 100) (tk tkX6_readCommand 42 rfl) (by decide) ?_
    refine pw_icmp_eq (tgt := 86) (tk tkX6_readCommand 43 rfl) (by decide) (fun c76 => absurd c76 (by decide)) (fun c76 => ?_)
    refine pw_iload (tk tkX6_readCommand 44 rfl) rfl ?_
    refine pw_bipush (v := 118) (tk tkX6_readCommand 45 rfl) (by decide) ?_
    refine pw_icmp_ne (tgt := 131) (tk tkX6_readCommand 46 rfl) (by decide) (fun c83 => ?_) (fun c83 => absurd c83 (by decide))
    refine pw_aload_n (tk tkX6_readCommand 71 rfl) rfl ?_
    refine pw_iload (tk tkX6_readCommand 72 rfl) rfl ?_
    refine pw_cV (ct_X6_readSign y T n sp ty 61) okX6_readSign (tk tkX6_readCommand 73 rfl) mkX6_30 imX6_readSign seX6_readSign (hp_ot _ 4) rfl rfl rfl (by decide) (by decide) (Nat.le_of_ble_eq_true rfl) ?_
    refine pw_ifnb (tgt := 142) (tk tkX6_readCommand 74 rfl) (by decide) (fun c137 => ?_) (fun c137 => ?_)
    · rw [c137]
      have hlt : sp < n := by
        have z := c137
        rw [tk_f, Bool.and_eq_true] at z
        exact of_decide_eq_true z.1
      refine pw_inc3 (tk tkX6_readCommand 77 rfl) rfl (by decide) (nI_1 3) ?_
      refine pw_goto (tgt := 57) (tk tkX6_readCommand 78 rfl) (by decide) ?_
      exact P1_4 (aW y (adv true sp)) l a (sp + 1) _ _ R (fy.tr (FT2.aw y _)) (ty.aw (s2 := sp + 1) hlt) ey n0 n1 (by rw [hR]; show (uq4 T n l a (adv (tkB T n 61 61 sp false) sp) (false || !(tkB T n 61 61 sp false))) = _; rw [c137]; rfl)
    · refine pw_iconst (v := 0) (tk tkX6_readCommand 75 rfl) (by decide) ?_
      refine pw_ireturn (tk tkX6_readCommand 76 rfl) rfl (by decide) (by first | rfl | exact nar_bI _) ?_
      have hR2 : R = (uq4 T n l a (adv false sp) (false || !false)) := by rw [hR]; show (uq4 T n l a (adv (tkB T n 61 61 sp false) sp) (false || !(tkB T n 61 61 sp false))) = _; rw [c137]
      rw [c137]
      exact rcQ.bad (fy.tr (FT2.aw y _)) (by rw [hR2] <;> rfl) (by rw [hR2] <;> rfl)
  have P1_2 : ∀ (y : XW) (l : Int32) (sp : Nat) (b4 b5 : Option Value) (R : RDT), FT2 x y → TXH y T n sp → cTx y.1 2 = 117 → cNu y.1 0 = l → R = (uq2 T n l sp false) → PW MX6_readCommand 5 0 57 [some (.ref 164), some (.ref (1000 + 1)), some (.int (nI 1)), some (.int (nI 2)), b4, b5] [] (hp y) (rcQ x R) := by
    intro y l sp b4 b5 R fy ty ey n0 hR
    refine pw_iload_n (tk tkX6_readCommand 33 rfl) rfl ?_
    refine pw_aload_n (tk tkX6_readCommand 34 rfl) rfl ?_
    refine pw_callVS (o := .inl (some (.int (nI (tlen.getD 1 0))))) (show 1 < 4 by decide) (ct_J0_length (hp y) 1 (by decide)) rfl rfl okJ0_length_8abf5 (tk tkX6_readCommand 35 rfl) mkX6_47 imJ0_length_8abf5 seJ0_length_8abf5 rfl rfl (by decide) (by decide) (Nat.le_of_ble_eq_true rfl) ?_
    refine pw_icmp_ge (tgt := 148) (tk tkX6_readCommand 36 rfl) (by decide) (fun c62 => absurd c62 (show ¬ nI (tlen.getD 1 0) ≤ nI 2 by decide)) (fun c62 => ?_)
    refine pw_aload_n (tk tkX6_readCommand 37 rfl) rfl ?_
    refine pw_iload_n (tk tkX6_readCommand 38 rfl) rfl ?_
    refine pw_callVS (o := .inl (some (.int ((tbyt.getD 1 []).getD 2 0)))) (show 1 < 4 by decide) (ct_J0_charAt y 1 2 (by decide) (by decide)) rfl rfl okJ0_charAt_5068e (tk tkX6_readCommand 39 rfl) mkX6_50 imJ0_charAt_5068e seJ0_charAt_5068e rfl rfl (by decide) (by decide) (Nat.le_of_ble_eq_true rfl) ?_
    rw [show (tbyt.getD 1 []).getD 2 0 = (100 : Int32) from rfl]
    refine pw_ist4 (tk tkX6_readCommand 40 rfl) rfl (by decide) ?_
    refine pw_iload (tk tkX6_readCommand 41 rfl) rfl ?_
    refine pw_bipush (v := 100) (tk tkX6_readCommand 42 rfl) (by decide) ?_
    refine pw_icmp_eq (tgt := 86) (tk tkX6_readCommand 43 rfl) (by decide) (fun c76 => ?_) (fun c76 => absurd rfl c76)
    refine pw_aload_n (tk tkX6_readCommand 47 rfl) rfl ?_
    refine pw_iload (tk tkX6_readCommand 48 rfl) rfl ?_
    refine pw_bipush (v := 100) (tk tkX6_readCommand 49 rfl) (by decide) ?_
    refine pw_icmp_ne (tgt := 98) (tk tkX6_readCommand 50 rfl) (by decide) (fun c91 => (c91 rfl).elim) (fun c91 => ?_)
    refine pw_iconst (v := 1) (tk tkX6_readCommand 51 rfl) (by decide) ?_
    refine pw_goto (tgt := 99) (tk tkX6_readCommand 52 rfl) (by decide) ?_
    refine pw_cV (ct_X6_readNumber1 y T n sp ty) okX6_readNumber (tk tkX6_readCommand 54 rfl) mkX6_54 imX6_readNumber seX6_readNumber (hp_ot _ 4) rfl rfl rfl (by decide) (by decide) (Nat.le_of_ble_eq_true rfl) ?_
    by_cases hdg : dgB T n sp = true
    · obtain ⟨e1, e2⟩ := rn1_t hdg
      rw [e1]
      refine pw_ist5 (tk tkX6_readCommand 55 rfl) rfl (by decide) ?_
      refine pw_iload (tk tkX6_readCommand 56 rfl) rfl ?_
      refine pw_iconst (v := (-1)) (tk tkX6_readCommand 57 rfl) (by decide) ?_
      refine pw_icmp_eq (tgt := 115) (tk tkX6_readCommand 58 rfl) (by decide) (fun c107 => absurd c107 e2) (fun c107 => ?_)
      refine pw_iload_n (tk tkX6_readCommand 59 rfl) rfl ?_
      refine pw_iconst (v := 4) (tk tkX6_readCommand 60 rfl) (by decide) ?_
      refine pw_icmp_lt (tgt := 117) (tk tkX6_readCommand 61 rfl) (by decide) (fun c112 => ?_) (fun c112 => absurd (show nI 1 < 4 by decide) c112)
      refine pw_aload_n (tk tkX6_readCommand 64 rfl) rfl ?_
      refine g6_numbers (tk tkX6_readCommand 65 rfl) fkX6_15 ?_
      refine pw_iload_n (tk tkX6_readCommand 66 rfl) rfl ?_
      refine pw_iload (tk tkX6_readCommand 67 rfl) rfl ?_
      refine as_numbers_e (e := 1) (tk tkX6_readCommand 68 rfl) rfl (by first | decide | omega) ?_
      refine pw_inc2 (tk tkX6_readCommand 69 rfl) rfl (by decide) (nI_1 1) ?_
      refine pw_goto (tgt := 142) (tk tkX6_readCommand 70 rfl) (by decide) ?_
      refine pw_inc3 (tk tkX6_readCommand 77 rfl) rfl (by decide) (nI_1 2) ?_
      refine pw_goto (tgt := 57) (tk tkX6_readCommand 78 rfl) (by decide) ?_
      exact P1_3 (uC6 (aW y (sp + 1)) (upd (cNu y.1) 1 (T sp - 48))) l (T sp - 48) (sp + 1) _ _ R ((fy.tr (FT2.aw y (sp + 1))).tr (FT2.nu _ _)) ((ty.aw (s2 := (sp + 1)) (dg_v hdg).1).ft (FT2.nu _ _) rfl (dg_v hdg).1) ey ((upd_nt (k := 1) (j := 0) (cNu y.1) (T sp - 48) (by decide)).trans n0) (upd_at (cNu y.1) 1 (T sp - 48)) (by rw [hR]; show (uq3 T n l (dgV T (tkB T n 48 57 sp false) sp) (adv (tkB T n 48 57 sp false) sp) (false || !(tkB T n 48 57 sp false))) = _; rw [show tkB T n 48 57 sp false = true from hdg]; rfl)
    · have e1 := rn1_f (Bool.eq_false_iff.mpr hdg)
      rw [e1]
      have hR2 : R = (uq3 T n l (dgV T false sp) (adv false sp) (false || !false)) := by rw [hR]; show (uq3 T n l (dgV T (tkB T n 48 57 sp false) sp) (adv (tkB T n 48 57 sp false) sp) (false || !(tkB T n 48 57 sp false))) = _; rw [show tkB T n 48 57 sp false = false from Bool.eq_false_iff.mpr hdg]
      refine pw_ist5 (tk tkX6_readCommand 55 rfl) rfl (by decide) ?_
      refine pw_iload (tk tkX6_readCommand 56 rfl) rfl ?_
      refine pw_iconst (v := (-1)) (tk tkX6_readCommand 57 rfl) (by decide) ?_
      refine pw_icmp_eq (tgt := 115) (tk tkX6_readCommand 58 rfl) (by decide) (fun c107 => ?_) (fun c107 => absurd rfl c107)
      refine pw_iconst (v := 0) (tk tkX6_readCommand 62 rfl) (by decide) ?_
      exact pw_ireturn (tk tkX6_readCommand 63 rfl) rfl (by decide) (by first | rfl | exact nar_bI _) (rcQ.bad (fy.tr (FT2.aw y sp)) (by rw [hR2] <;> rfl) (by rw [hR2] <;> rfl))
  have P1_1 : ∀ (y : XW) (l : Int32) (sp : Nat) (b4 b5 : Option Value) (R : RDT), FT2 x y → TXH y T n sp → cTx y.1 2 = 117 → cNu y.1 0 = l → R = (uq1 T n l sp false) → PW MX6_readCommand 5 0 57 [some (.ref 164), some (.ref (1000 + 1)), some (.int (nI 1)), some (.int (nI 1)), b4, b5] [] (hp y) (rcQ x R) := by
    intro y l sp b4 b5 R fy ty ey n0 hR
    refine pw_iload_n (tk tkX6_readCommand 33 rfl) rfl ?_
    refine pw_aload_n (tk tkX6_readCommand 34 rfl) rfl ?_
    refine pw_callVS (o := .inl (some (.int (nI (tlen.getD 1 0))))) (show 1 < 4 by decide) (ct_J0_length (hp y) 1 (by decide)) rfl rfl okJ0_length_8abf5 (tk tkX6_readCommand 35 rfl) mkX6_47 imJ0_length_8abf5 seJ0_length_8abf5 rfl rfl (by decide) (by decide) (Nat.le_of_ble_eq_true rfl) ?_
    refine pw_icmp_ge (tgt := 148) (tk tkX6_readCommand 36 rfl) (by decide) (fun c62 => absurd c62 (show ¬ nI (tlen.getD 1 0) ≤ nI 1 by decide)) (fun c62 => ?_)
    refine pw_aload_n (tk tkX6_readCommand 37 rfl) rfl ?_
    refine pw_iload_n (tk tkX6_readCommand 38 rfl) rfl ?_
    refine pw_callVS (o := .inl (some (.int ((tbyt.getD 1 []).getD 1 0)))) (show 1 < 4 by decide) (ct_J0_charAt y 1 1 (by decide) (by decide)) rfl rfl okJ0_charAt_5068e (tk tkX6_readCommand 39 rfl) mkX6_50 imJ0_charAt_5068e seJ0_charAt_5068e rfl rfl (by decide) (by decide) (Nat.le_of_ble_eq_true rfl) ?_
    rw [show (tbyt.getD 1 []).getD 1 0 = (46 : Int32) from rfl]
    refine pw_ist4 (tk tkX6_readCommand 40 rfl) rfl (by decide) ?_
    refine pw_iload (tk tkX6_readCommand 41 rfl) rfl ?_
    refine pw_bipush (v := 100) (tk tkX6_readCommand 42 rfl) (by decide) ?_
    refine pw_icmp_eq (tgt := 86) (tk tkX6_readCommand 43 rfl) (by decide) (fun c76 => absurd c76 (by decide)) (fun c76 => ?_)
    refine pw_iload (tk tkX6_readCommand 44 rfl) rfl ?_
    refine pw_bipush (v := 118) (tk tkX6_readCommand 45 rfl) (by decide) ?_
    refine pw_icmp_ne (tgt := 131) (tk tkX6_readCommand 46 rfl) (by decide) (fun c83 => ?_) (fun c83 => absurd c83 (by decide))
    refine pw_aload_n (tk tkX6_readCommand 71 rfl) rfl ?_
    refine pw_iload (tk tkX6_readCommand 72 rfl) rfl ?_
    refine pw_cV (ct_X6_readSign y T n sp ty 46) okX6_readSign (tk tkX6_readCommand 73 rfl) mkX6_30 imX6_readSign seX6_readSign (hp_ot _ 4) rfl rfl rfl (by decide) (by decide) (Nat.le_of_ble_eq_true rfl) ?_
    refine pw_ifnb (tgt := 142) (tk tkX6_readCommand 74 rfl) (by decide) (fun c137 => ?_) (fun c137 => ?_)
    · rw [c137]
      have hlt : sp < n := by
        have z := c137
        rw [tk_f, Bool.and_eq_true] at z
        exact of_decide_eq_true z.1
      refine pw_inc3 (tk tkX6_readCommand 77 rfl) rfl (by decide) (nI_1 1) ?_
      refine pw_goto (tgt := 57) (tk tkX6_readCommand 78 rfl) (by decide) ?_
      exact P1_2 (aW y (adv true sp)) l (sp + 1) _ _ R (fy.tr (FT2.aw y _)) (ty.aw (s2 := sp + 1) hlt) ey n0 (by rw [hR]; show (uq2 T n l (adv (tkB T n 46 46 sp false) sp) (false || !(tkB T n 46 46 sp false))) = _; rw [c137]; rfl)
    · refine pw_iconst (v := 0) (tk tkX6_readCommand 75 rfl) (by decide) ?_
      refine pw_ireturn (tk tkX6_readCommand 76 rfl) rfl (by decide) (by first | rfl | exact nar_bI _) ?_
      have hR2 : R = (uq2 T n l (adv false sp) (false || !false)) := by rw [hR]; show (uq2 T n l (adv (tkB T n 46 46 sp false) sp) (false || !(tkB T n 46 46 sp false))) = _; rw [c137]
      rw [c137]
      exact rcQ.bad (fy.tr (FT2.aw y _)) (by rw [hR2] <;> rfl) (by rw [hR2] <;> rfl)
  have P1_0 : ∀ (y : XW) (sp : Nat) (b4 b5 : Option Value) (R : RDT), FT2 x y → TXH y T n sp → cTx y.1 2 = 117 → R = (uq0 T n  sp false) → PW MX6_readCommand 5 0 57 [some (.ref 164), some (.ref (1000 + 1)), some (.int (nI 0)), some (.int (nI 0)), b4, b5] [] (hp y) (rcQ x R) := by
    intro y  sp b4 b5 R fy ty ey  hR
    refine pw_iload_n (tk tkX6_readCommand 33 rfl) rfl ?_
    refine pw_aload_n (tk tkX6_readCommand 34 rfl) rfl ?_
    refine pw_callVS (o := .inl (some (.int (nI (tlen.getD 1 0))))) (show 1 < 4 by decide) (ct_J0_length (hp y) 1 (by decide)) rfl rfl okJ0_length_8abf5 (tk tkX6_readCommand 35 rfl) mkX6_47 imJ0_length_8abf5 seJ0_length_8abf5 rfl rfl (by decide) (by decide) (Nat.le_of_ble_eq_true rfl) ?_
    refine pw_icmp_ge (tgt := 148) (tk tkX6_readCommand 36 rfl) (by decide) (fun c62 => absurd c62 (show ¬ nI (tlen.getD 1 0) ≤ nI 0 by decide)) (fun c62 => ?_)
    refine pw_aload_n (tk tkX6_readCommand 37 rfl) rfl ?_
    refine pw_iload_n (tk tkX6_readCommand 38 rfl) rfl ?_
    refine pw_callVS (o := .inl (some (.int ((tbyt.getD 1 []).getD 0 0)))) (show 1 < 4 by decide) (ct_J0_charAt y 1 0 (by decide) (by decide)) rfl rfl okJ0_charAt_5068e (tk tkX6_readCommand 39 rfl) mkX6_50 imJ0_charAt_5068e seJ0_charAt_5068e rfl rfl (by decide) (by decide) (Nat.le_of_ble_eq_true rfl) ?_
    rw [show (tbyt.getD 1 []).getD 0 0 = (100 : Int32) from rfl]
    refine pw_ist4 (tk tkX6_readCommand 40 rfl) rfl (by decide) ?_
    refine pw_iload (tk tkX6_readCommand 41 rfl) rfl ?_
    refine pw_bipush (v := 100) (tk tkX6_readCommand 42 rfl) (by decide) ?_
    refine pw_icmp_eq (tgt := 86) (tk tkX6_readCommand 43 rfl) (by decide) (fun c76 => ?_) (fun c76 => absurd rfl c76)
    refine pw_aload_n (tk tkX6_readCommand 47 rfl) rfl ?_
    refine pw_iload (tk tkX6_readCommand 48 rfl) rfl ?_
    refine pw_bipush (v := 100) (tk tkX6_readCommand 49 rfl) (by decide) ?_
    refine pw_icmp_ne (tgt := 98) (tk tkX6_readCommand 50 rfl) (by decide) (fun c91 => (c91 rfl).elim) (fun c91 => ?_)
    refine pw_iconst (v := 1) (tk tkX6_readCommand 51 rfl) (by decide) ?_
    refine pw_goto (tgt := 99) (tk tkX6_readCommand 52 rfl) (by decide) ?_
    refine pw_cV (ct_X6_readNumber1 y T n sp ty) okX6_readNumber (tk tkX6_readCommand 54 rfl) mkX6_54 imX6_readNumber seX6_readNumber (hp_ot _ 4) rfl rfl rfl (by decide) (by decide) (Nat.le_of_ble_eq_true rfl) ?_
    by_cases hdg : dgB T n sp = true
    · obtain ⟨e1, e2⟩ := rn1_t hdg
      rw [e1]
      refine pw_ist5 (tk tkX6_readCommand 55 rfl) rfl (by decide) ?_
      refine pw_iload (tk tkX6_readCommand 56 rfl) rfl ?_
      refine pw_iconst (v := (-1)) (tk tkX6_readCommand 57 rfl) (by decide) ?_
      refine pw_icmp_eq (tgt := 115) (tk tkX6_readCommand 58 rfl) (by decide) (fun c107 => absurd c107 e2) (fun c107 => ?_)
      refine pw_iload_n (tk tkX6_readCommand 59 rfl) rfl ?_
      refine pw_iconst (v := 4) (tk tkX6_readCommand 60 rfl) (by decide) ?_
      refine pw_icmp_lt (tgt := 117) (tk tkX6_readCommand 61 rfl) (by decide) (fun c112 => ?_) (fun c112 => absurd (show nI 0 < 4 by decide) c112)
      refine pw_aload_n (tk tkX6_readCommand 64 rfl) rfl ?_
      refine g6_numbers (tk tkX6_readCommand 65 rfl) fkX6_15 ?_
      refine pw_iload_n (tk tkX6_readCommand 66 rfl) rfl ?_
      refine pw_iload (tk tkX6_readCommand 67 rfl) rfl ?_
      refine as_numbers_e (e := 0) (tk tkX6_readCommand 68 rfl) rfl (by first | decide | omega) ?_
      refine pw_inc2 (tk tkX6_readCommand 69 rfl) rfl (by decide) (nI_1 0) ?_
      refine pw_goto (tgt := 142) (tk tkX6_readCommand 70 rfl) (by decide) ?_
      refine pw_inc3 (tk tkX6_readCommand 77 rfl) rfl (by decide) (nI_1 0) ?_
      refine pw_goto (tgt := 57) (tk tkX6_readCommand 78 rfl) (by decide) ?_
      exact P1_1 (uC6 (aW y (sp + 1)) (upd (cNu y.1) 0 (T sp - 48))) (T sp - 48) (sp + 1) _ _ R ((fy.tr (FT2.aw y (sp + 1))).tr (FT2.nu _ _)) ((ty.aw (s2 := (sp + 1)) (dg_v hdg).1).ft (FT2.nu _ _) rfl (dg_v hdg).1) ey (upd_at (cNu y.1) 0 (T sp - 48)) (by rw [hR]; show (uq1 T n (dgV T (tkB T n 48 57 sp false) sp) (adv (tkB T n 48 57 sp false) sp) (false || !(tkB T n 48 57 sp false))) = _; rw [show tkB T n 48 57 sp false = true from hdg]; rfl)
    · have e1 := rn1_f (Bool.eq_false_iff.mpr hdg)
      rw [e1]
      have hR2 : R = (uq1 T n (dgV T false sp) (adv false sp) (false || !false)) := by rw [hR]; show (uq1 T n (dgV T (tkB T n 48 57 sp false) sp) (adv (tkB T n 48 57 sp false) sp) (false || !(tkB T n 48 57 sp false))) = _; rw [show tkB T n 48 57 sp false = false from Bool.eq_false_iff.mpr hdg]
      refine pw_ist5 (tk tkX6_readCommand 55 rfl) rfl (by decide) ?_
      refine pw_iload (tk tkX6_readCommand 56 rfl) rfl ?_
      refine pw_iconst (v := (-1)) (tk tkX6_readCommand 57 rfl) (by decide) ?_
      refine pw_icmp_eq (tgt := 115) (tk tkX6_readCommand 58 rfl) (by decide) (fun c107 => ?_) (fun c107 => absurd rfl c107)
      refine pw_iconst (v := 0) (tk tkX6_readCommand 62 rfl) (by decide) ?_
      exact pw_ireturn (tk tkX6_readCommand 63 rfl) rfl (by decide) (by first | rfl | exact nar_bI _) (rcQ.bad (fy.tr (FT2.aw y sp)) (by rw [hR2] <;> rfl) (by rw [hR2] <;> rfl))
  have P2_1 : ∀ (y : XW) (l : Int32) (sp : Nat) (b4 b5 : Option Value) (R : RDT), FT2 x y → TXH y T n sp → cTx y.1 2 = 114 → cNu y.1 0 = l → R = (false, sp, 114, l, 0, 0, 0) → PW MX6_readCommand 5 0 57 [some (.ref 164), some (.ref (1000 + 2)), some (.int (nI 1)), some (.int (nI 1)), b4, b5] [] (hp y) (rcQ x R) := by
    intro y l sp b4 b5 R fy ty ey n0 hR
    refine pw_iload_n (tk tkX6_readCommand 33 rfl) rfl ?_
    refine pw_aload_n (tk tkX6_readCommand 34 rfl) rfl ?_
    refine pw_callVS (o := .inl (some (.int (nI (tlen.getD 2 0))))) (show 2 < 4 by decide) (ct_J0_length (hp y) 2 (by decide)) rfl rfl okJ0_length_8abf5 (tk tkX6_readCommand 35 rfl) mkX6_47 imJ0_length_8abf5 seJ0_length_8abf5 rfl rfl (by decide) (by decide) (Nat.le_of_ble_eq_true rfl) ?_
    refine pw_icmp_ge (tgt := 148) (tk tkX6_readCommand 36 rfl) (by decide) (fun c62 => ?_) (fun c62 => absurd (show nI (tlen.getD 2 0) ≤ nI 1 by decide) c62)
    refine pw_iconst (v := 1) (tk tkX6_readCommand 79 rfl) (by decide) ?_
    refine pw_ireturn (tk tkX6_readCommand 80 rfl) rfl (by decide) (by first | rfl | exact nar_bI _) ?_
    subst hR
    exact ⟨rfl, y, rfl, fy, ty.2.2.2.1, (fun _ => ⟨ey, n0⟩), (fun _ q => absurd q (show ¬ (114 : Int32) = 105 by decide)), (fun _ q => absurd q (show ¬ (114 : Int32) = 117 by decide))⟩
  have P2_0 : ∀ (y : XW) (sp : Nat) (b4 b5 : Option Value) (R : RDT), FT2 x y → TXH y T n sp → cTx y.1 2 = 114 → R = (rq0 T n  sp false) → PW MX6_readCommand 5 0 57 [some (.ref 164), some (.ref (1000 + 2)), some (.int (nI 0)), some (.int (nI 0)), b4, b5] [] (hp y) (rcQ x R) := by
    intro y  sp b4 b5 R fy ty ey  hR
    refine pw_iload_n (tk tkX6_readCommand 33 rfl) rfl ?_
    refine pw_aload_n (tk tkX6_readCommand 34 rfl) rfl ?_
    refine pw_callVS (o := .inl (some (.int (nI (tlen.getD 2 0))))) (show 2 < 4 by decide) (ct_J0_length (hp y) 2 (by decide)) rfl rfl okJ0_length_8abf5 (tk tkX6_readCommand 35 rfl) mkX6_47 imJ0_length_8abf5 seJ0_length_8abf5 rfl rfl (by decide) (by decide) (Nat.le_of_ble_eq_true rfl) ?_
    refine pw_icmp_ge (tgt := 148) (tk tkX6_readCommand 36 rfl) (by decide) (fun c62 => absurd c62 (show ¬ nI (tlen.getD 2 0) ≤ nI 0 by decide)) (fun c62 => ?_)
    refine pw_aload_n (tk tkX6_readCommand 37 rfl) rfl ?_
    refine pw_iload_n (tk tkX6_readCommand 38 rfl) rfl ?_
    refine pw_callVS (o := .inl (some (.int ((tbyt.getD 2 []).getD 0 0)))) (show 2 < 4 by decide) (ct_J0_charAt y 2 0 (by decide) (by decide)) rfl rfl okJ0_charAt_5068e (tk tkX6_readCommand 39 rfl) mkX6_50 imJ0_charAt_5068e seJ0_charAt_5068e rfl rfl (by decide) (by decide) (Nat.le_of_ble_eq_true rfl) ?_
    rw [show (tbyt.getD 2 []).getD 0 0 = (100 : Int32) from rfl]
    refine pw_ist4 (tk tkX6_readCommand 40 rfl) rfl (by decide) ?_
    refine pw_iload (tk tkX6_readCommand 41 rfl) rfl ?_
    refine pw_bipush (v := 100) (tk tkX6_readCommand 42 rfl) (by decide) ?_
    refine pw_icmp_eq (tgt := 86) (tk tkX6_readCommand 43 rfl) (by decide) (fun c76 => ?_) (fun c76 => absurd rfl c76)
    refine pw_aload_n (tk tkX6_readCommand 47 rfl) rfl ?_
    refine pw_iload (tk tkX6_readCommand 48 rfl) rfl ?_
    refine pw_bipush (v := 100) (tk tkX6_readCommand 49 rfl) (by decide) ?_
    refine pw_icmp_ne (tgt := 98) (tk tkX6_readCommand 50 rfl) (by decide) (fun c91 => (c91 rfl).elim) (fun c91 => ?_)
    refine pw_iconst (v := 1) (tk tkX6_readCommand 51 rfl) (by decide) ?_
    refine pw_goto (tgt := 99) (tk tkX6_readCommand 52 rfl) (by decide) ?_
    refine pw_cV (ct_X6_readNumber1 y T n sp ty) okX6_readNumber (tk tkX6_readCommand 54 rfl) mkX6_54 imX6_readNumber seX6_readNumber (hp_ot _ 4) rfl rfl rfl (by decide) (by decide) (Nat.le_of_ble_eq_true rfl) ?_
    by_cases hdg : dgB T n sp = true
    · obtain ⟨e1, e2⟩ := rn1_t hdg
      rw [e1]
      refine pw_ist5 (tk tkX6_readCommand 55 rfl) rfl (by decide) ?_
      refine pw_iload (tk tkX6_readCommand 56 rfl) rfl ?_
      refine pw_iconst (v := (-1)) (tk tkX6_readCommand 57 rfl) (by decide) ?_
      refine pw_icmp_eq (tgt := 115) (tk tkX6_readCommand 58 rfl) (by decide) (fun c107 => absurd c107 e2) (fun c107 => ?_)
      refine pw_iload_n (tk tkX6_readCommand 59 rfl) rfl ?_
      refine pw_iconst (v := 4) (tk tkX6_readCommand 60 rfl) (by decide) ?_
      refine pw_icmp_lt (tgt := 117) (tk tkX6_readCommand 61 rfl) (by decide) (fun c112 => ?_) (fun c112 => absurd (show nI 0 < 4 by decide) c112)
      refine pw_aload_n (tk tkX6_readCommand 64 rfl) rfl ?_
      refine g6_numbers (tk tkX6_readCommand 65 rfl) fkX6_15 ?_
      refine pw_iload_n (tk tkX6_readCommand 66 rfl) rfl ?_
      refine pw_iload (tk tkX6_readCommand 67 rfl) rfl ?_
      refine as_numbers_e (e := 0) (tk tkX6_readCommand 68 rfl) rfl (by first | decide | omega) ?_
      refine pw_inc2 (tk tkX6_readCommand 69 rfl) rfl (by decide) (nI_1 0) ?_
      refine pw_goto (tgt := 142) (tk tkX6_readCommand 70 rfl) (by decide) ?_
      refine pw_inc3 (tk tkX6_readCommand 77 rfl) rfl (by decide) (nI_1 0) ?_
      refine pw_goto (tgt := 57) (tk tkX6_readCommand 78 rfl) (by decide) ?_
      exact P2_1 (uC6 (aW y (sp + 1)) (upd (cNu y.1) 0 (T sp - 48))) (T sp - 48) (sp + 1) _ _ R ((fy.tr (FT2.aw y (sp + 1))).tr (FT2.nu _ _)) ((ty.aw (s2 := (sp + 1)) (dg_v hdg).1).ft (FT2.nu _ _) rfl (dg_v hdg).1) ey (upd_at (cNu y.1) 0 (T sp - 48)) (by rw [hR]; show rq1 (dgV T (tkB T n 48 57 sp false) sp) (adv (tkB T n 48 57 sp false) sp) (false || !(tkB T n 48 57 sp false)) = _; rw [show tkB T n 48 57 sp false = true from hdg]; rfl)
    · have e1 := rn1_f (Bool.eq_false_iff.mpr hdg)
      rw [e1]
      have hR2 : R = rq1 (dgV T false sp) (adv false sp) (false || !false) := by rw [hR]; show rq1 (dgV T (tkB T n 48 57 sp false) sp) (adv (tkB T n 48 57 sp false) sp) (false || !(tkB T n 48 57 sp false)) = _; rw [show tkB T n 48 57 sp false = false from Bool.eq_false_iff.mpr hdg]
      refine pw_ist5 (tk tkX6_readCommand 55 rfl) rfl (by decide) ?_
      refine pw_iload (tk tkX6_readCommand 56 rfl) rfl ?_
      refine pw_iconst (v := (-1)) (tk tkX6_readCommand 57 rfl) (by decide) ?_
      refine pw_icmp_eq (tgt := 115) (tk tkX6_readCommand 58 rfl) (by decide) (fun c107 => ?_) (fun c107 => absurd rfl c107)
      refine pw_iconst (v := 0) (tk tkX6_readCommand 62 rfl) (by decide) ?_
      exact pw_ireturn (tk tkX6_readCommand 63 rfl) rfl (by decide) (by first | rfl | exact nar_bI _) (rcQ.bad (fy.tr (FT2.aw y sp)) (by rw [hR2] <;> rfl) (by rw [hR2] <;> rfl))
  have hx0 := hx
  obtain ⟨h1, h2, h3, h4, h5⟩ := hx
  have nn : sp < n → ¬ nI sp = nI n := fun q e => by have := (nI_eq (by omega) (by omega)).mp e; omega
  obtain ⟨R, eR⟩ : ∃ R, R = rdP T n sp := ⟨_, rfl⟩
  rw [← eR]
  rw [rdP_q] at eR
  have J34 : sp < n → ∀ y : XW, FT2 x y → TXH y T n sp → cTx y.1 2 = T sp → PW MX6_readCommand 5 0 34 [some (.ref 164), some (.ref (1000 + fiN (T sp))), none, none, none, none] [] (hp y) (rcQ x R) := by
    intro hsp y fy ty ey
    rw [if_neg (nn hsp)] at eR
    by_cases e0 : T sp = 105
    · rw [if_pos e0] at eR
      rw [show fiN (T sp) = 0 from if_pos e0]
      refine pw_aload_n (tk tkX6_readCommand 18 rfl) rfl ?_
      refine pw_callVS (o := .inl (some (.int (bI (decide (0 = 3)))))) (show 0 < 4 by decide) (ct_J0_isEmpty (hp y) 0 (by decide)) rfl rfl okJ0_isEmpty_aae02 (tk tkX6_readCommand 19 rfl) mkX6_42 imJ0_isEmpty_aae02 seJ0_isEmpty_aae02 rfl rfl (by decide) (by decide) (Nat.le_of_ble_eq_true rfl) ?_
      refine pw_if_eq (tgt := 43) (tk tkX6_readCommand 20 rfl) (by decide) (fun c38 => ?_) (fun c38 => absurd rfl c38)
      refine pw_aload_n (tk tkX6_readCommand 23 rfl) rfl ?_
      refine pw_dup (tk tkX6_readCommand 24 rfl) rfl ?_
      refine g6_at (tk tkX6_readCommand 25 rfl) fkX6_23 ?_
      refine pw_iconst (v := 1) (tk tkX6_readCommand 26 rfl) (by decide) ?_
      refine pw_iadd (tk tkX6_readCommand 27 rfl) ?_
      rw [ty.2.2.2.1, nI_1]
      refine p6_at (tk tkX6_readCommand 28 rfl) fkX6_23 ?_
      refine pw_iconst (v := 0) (tk tkX6_readCommand 29 rfl) (by decide) ?_
      refine pw_ist2 (tk tkX6_readCommand 30 rfl) rfl (by decide) ?_
      refine pw_iconst (v := 0) (tk tkX6_readCommand 31 rfl) (by decide) ?_
      refine pw_ist3 (tk tkX6_readCommand 32 rfl) rfl (by decide) ?_
      exact P0_0 (aW y (sp + 1)) (sp + 1) _ _ R (fy.tr (FT2.aw y _)) (ty.aw hsp) (ey.trans e0) eR
    rw [if_neg e0] at eR
    by_cases e1 : T sp = 117
    · rw [if_pos e1] at eR
      rw [show fiN (T sp) = 1 from (if_neg e0).trans (if_pos e1)]
      refine pw_aload_n (tk tkX6_readCommand 18 rfl) rfl ?_
      refine pw_callVS (o := .inl (some (.int (bI (decide (1 = 3)))))) (show 1 < 4 by decide) (ct_J0_isEmpty (hp y) 1 (by decide)) rfl rfl okJ0_isEmpty_aae02 (tk tkX6_readCommand 19 rfl) mkX6_42 imJ0_isEmpty_aae02 seJ0_isEmpty_aae02 rfl rfl (by decide) (by decide) (Nat.le_of_ble_eq_true rfl) ?_
      refine pw_if_eq (tgt := 43) (tk tkX6_readCommand 20 rfl) (by decide) (fun c38 => ?_) (fun c38 => absurd rfl c38)
      refine pw_aload_n (tk tkX6_readCommand 23 rfl) rfl ?_
      refine pw_dup (tk tkX6_readCommand 24 rfl) rfl ?_
      refine g6_at (tk tkX6_readCommand 25 rfl) fkX6_23 ?_
      refine pw_iconst (v := 1) (tk tkX6_readCommand 26 rfl) (by decide) ?_
      refine pw_iadd (tk tkX6_readCommand 27 rfl) ?_
      rw [ty.2.2.2.1, nI_1]
      refine p6_at (tk tkX6_readCommand 28 rfl) fkX6_23 ?_
      refine pw_iconst (v := 0) (tk tkX6_readCommand 29 rfl) (by decide) ?_
      refine pw_ist2 (tk tkX6_readCommand 30 rfl) rfl (by decide) ?_
      refine pw_iconst (v := 0) (tk tkX6_readCommand 31 rfl) (by decide) ?_
      refine pw_ist3 (tk tkX6_readCommand 32 rfl) rfl (by decide) ?_
      exact P1_0 (aW y (sp + 1)) (sp + 1) _ _ R (fy.tr (FT2.aw y _)) (ty.aw hsp) (ey.trans e1) eR
    rw [if_neg e1] at eR
    by_cases e2 : T sp = 114
    · rw [if_pos e2] at eR
      rw [show fiN (T sp) = 2 from (if_neg e0).trans ((if_neg e1).trans (if_pos e2))]
      refine pw_aload_n (tk tkX6_readCommand 18 rfl) rfl ?_
      refine pw_callVS (o := .inl (some (.int (bI (decide (2 = 3)))))) (show 2 < 4 by decide) (ct_J0_isEmpty (hp y) 2 (by decide)) rfl rfl okJ0_isEmpty_aae02 (tk tkX6_readCommand 19 rfl) mkX6_42 imJ0_isEmpty_aae02 seJ0_isEmpty_aae02 rfl rfl (by decide) (by decide) (Nat.le_of_ble_eq_true rfl) ?_
      refine pw_if_eq (tgt := 43) (tk tkX6_readCommand 20 rfl) (by decide) (fun c38 => ?_) (fun c38 => absurd rfl c38)
      refine pw_aload_n (tk tkX6_readCommand 23 rfl) rfl ?_
      refine pw_dup (tk tkX6_readCommand 24 rfl) rfl ?_
      refine g6_at (tk tkX6_readCommand 25 rfl) fkX6_23 ?_
      refine pw_iconst (v := 1) (tk tkX6_readCommand 26 rfl) (by decide) ?_
      refine pw_iadd (tk tkX6_readCommand 27 rfl) ?_
      rw [ty.2.2.2.1, nI_1]
      refine p6_at (tk tkX6_readCommand 28 rfl) fkX6_23 ?_
      refine pw_iconst (v := 0) (tk tkX6_readCommand 29 rfl) (by decide) ?_
      refine pw_ist2 (tk tkX6_readCommand 30 rfl) rfl (by decide) ?_
      refine pw_iconst (v := 0) (tk tkX6_readCommand 31 rfl) (by decide) ?_
      refine pw_ist3 (tk tkX6_readCommand 32 rfl) rfl (by decide) ?_
      exact P2_0 (aW y (sp + 1)) (sp + 1) _ _ R (fy.tr (FT2.aw y _)) (ty.aw hsp) (ey.trans e2) eR
    rw [if_neg e2] at eR
    rw [show fiN (T sp) = 3 from (if_neg e0).trans ((if_neg e1).trans (if_neg e2))]
    refine pw_aload_n (tk tkX6_readCommand 18 rfl) rfl ?_
    refine pw_callVS (o := .inl (some (.int (bI (decide (3 = 3)))))) (show 3 < 4 by decide) (ct_J0_isEmpty (hp y) 3 (by decide)) rfl rfl okJ0_isEmpty_aae02 (tk tkX6_readCommand 19 rfl) mkX6_42 imJ0_isEmpty_aae02 seJ0_isEmpty_aae02 rfl rfl (by decide) (by decide) (Nat.le_of_ble_eq_true rfl) ?_
    refine pw_if_eq (tgt := 43) (tk tkX6_readCommand 20 rfl) (by decide) (fun c38 => absurd c38 (by decide)) (fun c38 => ?_)
    refine pw_iconst (v := 0) (tk tkX6_readCommand 21 rfl) (by decide) ?_
    exact pw_ireturn (tk tkX6_readCommand 22 rfl) rfl (by decide) (by first | rfl | exact nar_bI _) (by subst eR; exact rcQ.bad fy rfl ty.2.2.2.1)
  refine pw_aload_n (tk tkX6_readCommand 0 rfl) rfl ?_
  refine g6_at (tk tkX6_readCommand 1 rfl) fkX6_23 ?_
  refine pw_aload_n (tk tkX6_readCommand 2 rfl) rfl ?_
  refine g6_length (tk tkX6_readCommand 3 rfl) fkX6_19 ?_
  rw [h1, h4]
  refine pw_icmp_lt (tgt := 13) (tk tkX6_readCommand 4 rfl) (by decide) (fun c8 => ?_) (fun c8 => ?_)
  · have hsp : sp < n := by
      rcases Nat.lt_or_ge sp n with q | q
      · exact q
      · exact absurd c8 (nI_nlt q (by omega))
    refine pw_aload_n (tk tkX6_readCommand 7 rfl) rfl ?_
    refine pw_aload_n (tk tkX6_readCommand 8 rfl) rfl ?_
    refine g6_signs (tk tkX6_readCommand 9 rfl) fkX6_9 ?_
    refine pw_aload_n (tk tkX6_readCommand 10 rfl) rfl ?_
    refine g6_at (tk tkX6_readCommand 11 rfl) fkX6_23 ?_
    refine al_signs_e (e := sp) (tk tkX6_readCommand 12 rfl) h4 (by first | decide | omega) ?_
    rw [h3 sp hsp]
    refine p6_command (tk tkX6_readCommand 13 rfl) fkX6_34 (by obtain ⟨c, hc, ec⟩ := hch sp hsp; rw [ec]; exact pk_charN hc) ?_
    refine pw_aload_n (tk tkX6_readCommand 14 rfl) rfl ?_
    refine g6_command (tk tkX6_readCommand 15 rfl) fkX6_34 ?_
    refine pw_cS (ct_X6_formOf _ _) okX6_formOf (tk tkX6_readCommand 16 rfl) mkX6_38 stX6_formOf rfl rfl (by decide) (by decide) (Nat.le_of_ble_eq_true rfl) ?_
    refine pw_ast1 (tk tkX6_readCommand 17 rfl) rfl (by decide) ?_
    exact J34 hsp (uC5 x (upd (cTx x.1) 2 (T sp))) (FT2.cm x _) (hx0.ft (FT2.cm x _) h4 h5) rfl
  · refine pw_iconst (v := 0) (tk tkX6_readCommand 5 rfl) (by decide) ?_
    refine pw_ireturn (tk tkX6_readCommand 6 rfl) rfl (by decide) (by first | rfl | exact nar_bI _) ?_
    have e : sp = n := by
      rcases Nat.lt_or_ge sp n with q | q
      · exact absurd (nI_lt q (by omega)) c8
      · omega
    rw [if_pos (by rw [e])] at eR
    subst eR
    exact rcQ.bad (FT2.rf x) rfl h4
