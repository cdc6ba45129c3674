def recH (a : AM) (s0 : Nat → Int32) : Nat × (Nat → Nat → Int32) := if aK a = 6 then (6, fun i => if i = 5 then s0 else aH a (i + 1)) else (aK a + 1, fun i => if i = aK a then s0 else aH a i)
/-- a world that stands as x does, but for s and aside and the statement's numbers; aside holds x's s -/
def Lk (x y : XW) : Prop := y.1 = x.1 ∧ y.2.2 = x.2.2 ∧ E132 (mA y.2.1) (mS x.2.1) ∧ mHi y.2.1 = mHi x.2.1 ∧ mSl y.2.1 = mSl x.2.1 ∧ mTx y.2.1 = mTx x.2.1 ∧ mF y.2.1 0 = 0 ∧ mF y.2.1 4 = mF x.2.1 4 ∧ mF y.2.1 6 = mF x.2.1 6 ∧ mF y.2.1 8 = mF x.2.1 8
theorem recX {x y : XW} (hx : VM x.2.1) (h : Lk x y) (t : Nat → Int32) (ht : VS (uN t) t) : let z := uM1 (xRecA y (aK (aOf x.2.1))) t; z.1 = x.1 ∧ z.2.2 = x.2.2 ∧ mF z.2.1 0 = 0 ∧ VM z.2.1 ∧ AE (t, recH (aOf x.2.1) (mS x.2.1), (aOf x.2.1).2.2) (aOf z.2.1) := by
  obtain ⟨h1, h2, h3, h4, h5, h6, h7, h8, h9, h10⟩ := h
  obtain ⟨v1, v2, v3, v4, v5, v6⟩ := hx
  obtain ⟨kn, hkn⟩ : ∃ kn, kn = aK (aOf x.2.1) := ⟨_, rfl⟩
  rw [← hkn]
  rw [← hkn] at v1 v2
  have key : ∀ (z : XW) (K : Nat), z.1 = x.1 → z.2.2 = x.2.2 → mF z.2.1 0 = 0 → mF z.2.1 4 = nI K → K ≤ 6 → mF z.2.1 6 = mF x.2.1 6 → mF z.2.1 8 = mF x.2.1 8 → mSl z.2.1 = mSl x.2.1 → mTx z.2.1 = mTx x.2.1 → mS z.2.1 = t → (recH (aOf x.2.1) (mS x.2.1)).1 = K → (∀ i j, i < K → j < 132 → (recH (aOf x.2.1) (mS x.2.1)).2 i j = mHi z.2.1 (132 * i + j)) → z.1 = x.1 ∧ z.2.2 = x.2.2 ∧ mF z.2.1 0 = 0 ∧ VM z.2.1 ∧ AE (t, recH (aOf x.2.1) (mS x.2.1), (aOf x.2.1).2.2) (aOf z.2.1) := by
    intro z K a1 a2 a3 a4 a5 a6 a7 a8 a9 a10 a11 a12
    have eK : aK (aOf z.2.1) = K := by show (mF z.2.1 4).toNatClampNeg = K; rw [a4, nI_clamp (by omega)]
    have eN : aN (aOf z.2.1) = aN (aOf x.2.1) := by show (mF z.2.1 8).toNatClampNeg = (mF x.2.1 8).toNatClampNeg; rw [a7]
    refine ⟨a1, a2, a3, ⟨by rw [eK]; exact a4, by rw [eK]; exact a5, by rw [eN, a7]; exact v3, by rw [eN]; exact v4, by rw [a6]; exact v5, by rw [a10]; exact ht⟩, ?_, a11.trans eK.symm, ?_, ?_, ?_, eN.symm, ?_⟩
    · intro j _; show t j = mS z.2.1 j; rw [a10]
    · intro i hi j hj
      rw [show aK (t, recH (aOf x.2.1) (mS x.2.1), (aOf x.2.1).2.2) = K from a11] at hi
      exact a12 i j hi hj
    · intro i _; show decide ((mF x.2.1 6 >>> (nI i &&& 31)) &&& 1 = 1) = decide ((mF z.2.1 6 >>> (nI i &&& 31)) &&& 1 = 1); rw [a6]
    · intro i _ _ j _; show mSl x.2.1 _ = mSl z.2.1 _; rw [a8]
    · intro i _; show mTx x.2.1 i = mTx z.2.1 i; rw [a9]
  by_cases e6 : kn = 6
  · rw [show xRecA y kn = xRecB (xSh y) 5 from if_pos e6]
    have er : recH (aOf x.2.1) (mS x.2.1) = (6, fun i => if i = 5 then mS x.2.1 else aH (aOf x.2.1) (i + 1)) := if_pos (hkn.symm.trans e6)
    refine key _ 6 h1 h2 h7 rfl (by decide) h9 h10 h5 h6 rfl (by rw [er]) (fun i j hi hj => ?_)
    rw [er]
    show (if i = 5 then mS x.2.1 else aH (aOf x.2.1) (i + 1)) j = puN (132 * 5) 132 (mA y.2.1) (shK 660 (mHi y.2.1)) (132 * i + j)
    unfold puN
    by_cases e5 : i = 5
    · rw [if_pos e5, if_pos (by omega), show 132 * i + j - 132 * 5 = j by omega]; exact (h3 j hj).symm
    · rw [if_neg e5, if_neg (by omega)]
      unfold shK
      rw [if_pos (by omega), h4]
      show mHi x.2.1 (132 * (i + 1) + j) = _
      rw [show 132 * (i + 1) + j = 132 * i + j + 132 by omega]
  · rw [show xRecA y kn = xRecB y kn from if_neg e6]
    have er : recH (aOf x.2.1) (mS x.2.1) = (kn + 1, fun i => if i = kn then mS x.2.1 else aH (aOf x.2.1) i) := by rw [hkn]; exact if_neg (fun q => e6 (hkn.trans q))
    refine key _ (kn + 1) h1 h2 h7 rfl (by omega) h9 h10 h5 h6 rfl (by rw [er]) (fun i j hi hj => ?_)
    rw [er]
    show (if i = kn then mS x.2.1 else aH (aOf x.2.1) i) j = puN (132 * kn) 132 (mA y.2.1) (mHi y.2.1) (132 * i + j)
    unfold puN
    by_cases e5 : i = kn
    · rw [if_pos e5, if_pos (by omega), show 132 * i + j - 132 * kn = j by omega]; exact (h3 j hj).symm
    · rw [if_neg e5, if_neg (by omega), h4]; rfl
theorem xRec_eq (x : XW) (k : Nat) : xRec (xThr x 0) k = uM1 (xRec (xThr x 0) k) (mS x.2.1) := by
  unfold xRec xRecA
  split <;> rfl
/-- the end of a call that records and sets s to t -/
theorem MOQ.rc {x : XW} {R : RS3} (hx : VM x.2.1) (t : Nat → Int32) (v : Int32) (ht : VS (uN t) t) (e : R = (0, v, (t, recH (aOf x.2.1) (mS x.2.1), (aOf x.2.1).2.2))) : MOQ x R (.inl (some (.int v))) (hp (uM1 (xRec (xThr x 0) (aK (aOf x.2.1))) t)) := by
  obtain ⟨a, b, c, d, f⟩ := recX (y := xPA (xThr x 0)) hx ⟨rfl, rfl, cpN_E _ _, rfl, rfl, rfl, rfl, rfl, rfl, rfl⟩ t ht
  rw [e]
  exact ⟨_, rfl, a, b, c, rfl, d, f⟩
theorem uN_of {s t : Nat → Int32} (h : t 25 = s 25) : uN t = uN s := by unfold uN; rw [h]
def ssetDepth (a : AM) (v : Int32) : RS3 := if inR v 0 5 = false then (1, 0, a) else (0, aS a 24, (upd (aS a) 24 v, recH a (aS a), a.2.2))
set_option maxRecDepth 100000 in
set_option maxHeartbeats 4000000 in
theorem ct_X8_setDepth (x : XW) (hx : VM x.2.1) (v : Int32) : CT MX8_setDepth 3 0 [.ref 171, .int v] (hp x) (MOQ x (ssetDepth (aOf x.2.1) v)) := by
  refine ct_of (by decide +kernel) (by decide) rfl (k := 1) (ls := [some (.ref 171), some (.int v), none]) rfl (Nat.le_of_ble_eq_true rfl) ?_
  obtain ⟨hu, hu8⟩ := hx.u
  obtain ⟨l, hl, el⟩ := hx.l
  have hv : VS (uN (mS x.2.1)) (mS x.2.1) := hx.2.2.2.2.2
  have hvd : inR v 0 5 = true → VS (uN (upd (mS x.2.1) 24 v)) (upd (mS x.2.1) 24 v) := by
    intro h
    obtain ⟨r, hr, er, _⟩ := inR_row h
    rw [uN_of (upd_nt _ _ (by omega))]
    obtain ⟨b1, b2, b3, b4, b5, b6⟩ := hv
    exact ⟨b1, (upd_nt _ _ (by omega)).trans b2, ⟨r, by omega, (upd_at _ _ _).trans er⟩, (by rw [upd_nt _ _ (by omega)]; exact b4), fun j hj => by rw [upd_nt _ _ (by omega)]; exact b5 j hj, fun i hi => by have q := b6 i hi; unfold rN at q ⊢; rw [upd_nt _ _ (by omega), upd_nt _ _ (by omega), upd_nt _ _ (by omega), upd_nt _ _ (by omega), upd_nt _ _ (by omega)]; exact q⟩
  refine pw_aload_n (tk tkX8_setDepth 0 rfl) rfl ?_
  refine pw_iload_n (tk tkX8_setDepth 1 rfl) rfl ?_
  refine pw_iconst (v := 0) (tk tkX8_setDepth 2 rfl) (by decide) ?_
  refine pw_iconst (v := 5) (tk tkX8_setDepth 3 rfl) (by decide) ?_
  refine pw_cS (ct_X8_in _ _ _ _) okX8_in (tk tkX8_setDepth 4 rfl) mkX8_32 stX8_in rfl rfl (by decide) (by decide) (Nat.le_of_ble_eq_true rfl) ?_
  refine pw_ifb (tgt := 14) (tk tkX8_setDepth 5 rfl) (by decide) (fun c7 => ?_) (fun c7 => ?_)
  · refine pw_iconst (v := 1) (tk tkX8_setDepth 8 rfl) (by decide) ?_
    refine pw_cV (ct_X8_holds x _) okX8_holds (tk tkX8_setDepth 9 rfl) mkX8_97 imX8_holds seX8_holds (hp_ot _ 11) rfl rfl rfl (by decide) (by decide) (Nat.le_of_ble_eq_true rfl) ?_
    refine pw_ifnb (tgt := 23) (tk tkX8_setDepth 10 rfl) (by decide) (fun c18 => absurd c18 (by decide)) (fun c18 => ?_)
    refine pw_iconst (v := 0) (tk tkX8_setDepth 11 rfl) (by decide) ?_
    refine pw_ireturn (tk tkX8_setDepth 12 rfl) rfl (by decide) rfl ?_
    have e : ssetDepth (aOf x.2.1) v = (1, 0, aOf x.2.1) := (if_pos c7)
    rw [e]
    exact ⟨_, rfl, rfl, rfl, rfl, rfl, hx, AE.rf _⟩
  · refine pw_iconst (v := 0) (tk tkX8_setDepth 6 rfl) (by decide) ?_
    refine pw_goto (tgt := 15) (tk tkX8_setDepth 7 rfl) (by decide) ?_
    refine pw_cV (ct_X8_holds x _) okX8_holds (tk tkX8_setDepth 9 rfl) mkX8_97 imX8_holds seX8_holds (hp_ot _ 11) rfl rfl rfl (by decide) (by decide) (Nat.le_of_ble_eq_true rfl) ?_
    refine pw_ifnb (tgt := 23) (tk tkX8_setDepth 10 rfl) (by decide) (fun c18 => ?_) (fun c18 => absurd c18 (by decide))
    refine pw_aload_n (tk tkX8_setDepth 13 rfl) rfl ?_
    refine pw_cV0 (ct_X8_record (xThr x 0) (aK (aOf x.2.1)) hx.1 hx.2.1) okX8_record (tk tkX8_setDepth 14 rfl) mkX8_100 imX8_record seX8_record (hp_ot _ 11) rfl rfl rfl (by decide) (by decide) (Nat.le_of_ble_eq_true rfl) ?_
    rw [xRec_eq x]
    refine pw_aload_n (tk tkX8_setDepth 15 rfl) rfl ?_
    refine g8_s (tk tkX8_setDepth 16 rfl) fkX8_7 ?_
    refine pw_bipush (v := 24) (tk tkX8_setDepth 17 rfl) (by decide) ?_
    refine al_s_e (e := 24) (tk tkX8_setDepth 18 rfl) (by first | rfl | simp only [lit_nI, nI_add, pk_mul]) (by first | decide | omega) ?_
    refine pw_ist2 (tk tkX8_setDepth 19 rfl) rfl (by decide) ?_
    refine pw_aload_n (tk tkX8_setDepth 20 rfl) rfl ?_
    refine g8_s (tk tkX8_setDepth 21 rfl) fkX8_7 ?_
    refine pw_bipush (v := 24) (tk tkX8_setDepth 22 rfl) (by decide) ?_
    refine pw_iload_n (tk tkX8_setDepth 23 rfl) rfl ?_
    refine as_s_e (e := 24) (tk tkX8_setDepth 24 rfl) (by first | rfl | simp only [lit_nI, nI_add, pk_mul]) (by first | decide | omega) ?_
    refine pw_iload_n (tk tkX8_setDepth 25 rfl) rfl ?_
    refine pw_ireturn (tk tkX8_setDepth 26 rfl) rfl (by decide) rfl ?_
    exact MOQ.rc hx (upd (mS x.2.1) 24 v) _ (hvd c7) (if_neg (ne_f c7))
def sturnMute (a : AM) (r : Int32) : RS3 := if inR r 0 (aS a 25 - 1) = false then (1, 0, a) else (0, (if 1 - rN (aS a) r.toNatClampNeg 7 = 1 then 1 else 0), (upd (aS a) (26 + 9 * r.toNatClampNeg + 7) (1 - rN (aS a) r.toNatClampNeg 7), recH a (aS a), a.2.2))
set_option maxRecDepth 100000 in
set_option maxHeartbeats 4000000 in
theorem ct_X8_turnMute (x : XW) (hx : VM x.2.1) (r : Int32) : CT MX8_turnMute 3 0 [.ref 171, .int r] (hp x) (MOQ x (sturnMute (aOf x.2.1) r)) := by
  refine ct_of (by decide +kernel) (by decide) rfl (k := 1) (ls := [some (.ref 171), some (.int r), none]) rfl (Nat.le_of_ble_eq_true rfl) ?_
  obtain ⟨hu, hu8⟩ := hx.u
  obtain ⟨l, hl, el⟩ := hx.l
  have hv : VS (uN (mS x.2.1)) (mS x.2.1) := hx.2.2.2.2.2
  have hvd : ∀ r1, r1 < uN (mS x.2.1) → VS (uN (upd (mS x.2.1) (26 + 9 * r1 + 7) (1 - mS x.2.1 (26 + 9 * r1 + 7)))) (upd (mS x.2.1) (26 + 9 * r1 + 7) (1 - mS x.2.1 (26 + 9 * r1 + 7))) := by
    intro r1 h
    rw [uN_of (upd_nt _ _ (by omega))]
    obtain ⟨b1, b2, b3, b4, b5, b6⟩ := hv
    refine ⟨b1, (upd_nt _ _ (by omega)).trans b2, (by rw [upd_nt _ _ (by omega)]; exact b3), (by rw [upd_nt _ _ (by omega)]; exact b4), fun j hj => by rw [upd_nt _ _ (by omega)]; exact b5 j hj, fun i hi => ?_⟩
    obtain ⟨q1, q2, q3, q4, q5⟩ := b6 i hi
    unfold rN at *
    rw [upd_nt _ _ (by omega), upd_nt _ _ (by omega), upd_nt _ _ (by omega), upd_nt _ _ (show 26 + 9 * i + 3 ≠ _ by omega)]
    refine ⟨q1, q2, q3, ?_, q5⟩
    unfold upd
    by_cases e : 26 + 9 * i + 7 = 26 + 9 * r1 + 7
    · rw [if_pos e, ← e]
      rcases q4 with q | q <;> rw [q] <;> decide
    · rw [if_neg e]; exact q4
  refine pw_aload_n (tk tkX8_turnMute 0 rfl) rfl ?_
  refine pw_aload_n (tk tkX8_turnMute 1 rfl) rfl ?_
  refine pw_iload_n (tk tkX8_turnMute 2 rfl) rfl ?_
  refine pw_cV (ct_X8_isRule x _) okX8_isRule (tk tkX8_turnMute 3 rfl) mkX8_103 imX8_isRule seX8_isRule (hp_ot _ 11) rfl rfl rfl (by decide) (by decide) (Nat.le_of_ble_eq_true rfl) ?_
  refine pw_ifb (tgt := 13) (tk tkX8_turnMute 4 rfl) (by decide) (fun c6 => ?_) (fun c6 => ?_)
  · refine pw_iconst (v := 1) (tk tkX8_turnMute 7 rfl) (by decide) ?_
    refine pw_cV (ct_X8_holds x _) okX8_holds (tk tkX8_turnMute 8 rfl) mkX8_97 imX8_holds seX8_holds (hp_ot _ 11) rfl rfl rfl (by decide) (by decide) (Nat.le_of_ble_eq_true rfl) ?_
    refine pw_ifnb (tgt := 22) (tk tkX8_turnMute 9 rfl) (by decide) (fun c17 => absurd c17 (by decide)) (fun c17 => ?_)
    refine pw_iconst (v := 0) (tk tkX8_turnMute 10 rfl) (by decide) ?_
    refine pw_ireturn (tk tkX8_turnMute 11 rfl) rfl (by decide) (by first | rfl | exact nar_bI _) ?_
    have e : sturnMute (aOf x.2.1) r = (1, 0, aOf x.2.1) := (if_pos c6)
    rw [e]
    exact ⟨_, rfl, rfl, rfl, rfl, rfl, hx, AE.rf _⟩
  · refine pw_iconst (v := 0) (tk tkX8_turnMute 5 rfl) (by decide) ?_
    refine pw_goto (tgt := 14) (tk tkX8_turnMute 6 rfl) (by decide) ?_
    refine pw_cV (ct_X8_holds x _) okX8_holds (tk tkX8_turnMute 8 rfl) mkX8_97 imX8_holds seX8_holds (hp_ot _ 11) rfl rfl rfl (by decide) (by decide) (Nat.le_of_ble_eq_true rfl) ?_
    refine pw_ifnb (tgt := 22) (tk tkX8_turnMute 9 rfl) (by decide) (fun c17 => ?_) (fun c17 => absurd c17 (by decide))
    refine pw_aload_n (tk tkX8_turnMute 12 rfl) rfl ?_
    obtain ⟨r1, hr, er, er2⟩ := inR_lt hu (by omega) c6
    refine pw_cV0 (ct_X8_record (xThr x 0) (aK (aOf x.2.1)) hx.1 hx.2.1) okX8_record (tk tkX8_turnMute 13 rfl) mkX8_100 imX8_record seX8_record (hp_ot _ 11) rfl rfl rfl (by decide) (by decide) (Nat.le_of_ble_eq_true rfl) ?_
    rw [xRec_eq x]
    refine pw_bipush (v := 26) (tk tkX8_turnMute 14 rfl) (by decide) ?_
    refine pw_bipush (v := 9) (tk tkX8_turnMute 15 rfl) (by decide) ?_
    refine pw_iload_n (tk tkX8_turnMute 16 rfl) rfl ?_
    refine pw_imul (tk tkX8_turnMute 17 rfl) ?_
    refine pw_iadd (tk tkX8_turnMute 18 rfl) ?_
    refine pw_bipush (v := 7) (tk tkX8_turnMute 19 rfl) (by decide) ?_
    refine pw_iadd (tk tkX8_turnMute 20 rfl) ?_
    refine pw_ist2 (tk tkX8_turnMute 21 rfl) rfl (by decide) ?_
    refine pw_aload_n (tk tkX8_turnMute 22 rfl) rfl ?_
    refine g8_s (tk tkX8_turnMute 23 rfl) fkX8_7 ?_
    refine pw_iload_n (tk tkX8_turnMute 24 rfl) rfl ?_
    refine pw_iconst (v := 1) (tk tkX8_turnMute 25 rfl) (by decide) ?_
    refine pw_aload_n (tk tkX8_turnMute 26 rfl) rfl ?_
    refine g8_s (tk tkX8_turnMute 27 rfl) fkX8_7 ?_
    refine pw_iload_n (tk tkX8_turnMute 28 rfl) rfl ?_
    refine al_s_e (e := 26 + 9 * r1 + 7) (tk tkX8_turnMute 29 rfl) (by rw [er]; simp only [lit_nI, nI_add, pk_mul]) (by first | decide | omega) ?_
    refine pw_isub (tk tkX8_turnMute 30 rfl) ?_
    refine as_s_e (e := 26 + 9 * r1 + 7) (tk tkX8_turnMute 31 rfl) (by rw [er]; simp only [lit_nI, nI_add, pk_mul]) (by first | decide | omega) ?_
    refine pw_aload_n (tk tkX8_turnMute 32 rfl) rfl ?_
    refine g8_s (tk tkX8_turnMute 33 rfl) fkX8_7 ?_
    refine pw_iload_n (tk tkX8_turnMute 34 rfl) rfl ?_
    refine al_s_e (e := 26 + 9 * r1 + 7) (tk tkX8_turnMute 35 rfl) (by rw [er]; simp only [lit_nI, nI_add, pk_mul]) (by first | decide | omega) ?_
    refine pw_iconst (v := 1) (tk tkX8_turnMute 36 rfl) (by decide) ?_
    refine pw_icmp_ne (tgt := 65) (tk tkX8_turnMute 37 rfl) (by decide) (fun c58 => ?_) (fun c58 => ?_)
    · refine pw_iconst (v := 0) (tk tkX8_turnMute 40 rfl) (by decide) ?_
      refine pw_ireturn (tk tkX8_turnMute 41 rfl) rfl (by decide) (by first | rfl | exact nar_bI _) ?_
      have h : ¬ 1 - mS x.2.1 (26 + 9 * r1 + 7) = 1 := fun q => c58 ((upd_at (mS x.2.1) (26 + 9 * r1 + 7) (1 - mS x.2.1 (26 + 9 * r1 + 7))).trans q)
      exact MOQ.rc hx (upd (mS x.2.1) (26 + 9 * r1 + 7) (1 - mS x.2.1 (26 + 9 * r1 + 7))) _ (hvd r1 hr) ((if_neg (ne_f c6)).trans (by rw [er2]; show ((0 : Int32), (if 1 - mS x.2.1 (26 + 9 * r1 + 7) = 1 then (1 : Int32) else 0), (_ : AM)) = _; rw [if_neg h]; rfl))
    · refine pw_iconst (v := 1) (tk tkX8_turnMute 38 rfl) (by decide) ?_
      refine pw_goto (tgt := 66) (tk tkX8_turnMute 39 rfl) (by decide) ?_
      refine pw_ireturn (tk tkX8_turnMute 41 rfl) rfl (by decide) (by first | rfl | exact nar_bI _) ?_
      have h : 1 - mS x.2.1 (26 + 9 * r1 + 7) = 1 := (upd_at (mS x.2.1) (26 + 9 * r1 + 7) (1 - mS x.2.1 (26 + 9 * r1 + 7))).symm.trans c58
      exact MOQ.rc hx (upd (mS x.2.1) (26 + 9 * r1 + 7) (1 - mS x.2.1 (26 + 9 * r1 + 7))) _ (hvd r1 hr) ((if_neg (ne_f c6)).trans (by rw [er2]; show ((0 : Int32), (if 1 - mS x.2.1 (26 + 9 * r1 + 7) = 1 then (1 : Int32) else 0), (_ : AM)) = _; rw [if_pos h]; rfl))
def ssetAction (a : AM) (r k ro c m : Int32) : RS3 := if inR r 0 (aS a 25 - 1) = false then (1, 0, a) else if inR k 0 3 = false then (2, 0, a) else if inR ro 0 5 = false then (2, 0, a) else if inR c 0 2 = false then (2, 0, a) else if inR m (-999) 999 = false then (2, 0, a)
  else (0, rN (aS a) r.toNatClampNeg 3, (upd (upd (upd (upd (aS a) (26 + 9 * r.toNatClampNeg + 3) k) (26 + 9 * r.toNatClampNeg + 4) ro) (26 + 9 * r.toNatClampNeg + 5) c) (26 + 9 * r.toNatClampNeg + 6) m, recH a (aS a), a.2.2))
set_option maxRecDepth 100000 in
set_option maxHeartbeats 4000000 in
theorem ct_X8_setAction (x : XW) (hx : VM x.2.1) (r k ro c m : Int32) : CT MX8_setAction 3 0 [.ref 171, .int r, .int k, .int ro, .int c, .int m] (hp x) (MOQ x (ssetAction (aOf x.2.1) r k ro c m)) := by
  refine ct_of (by decide +kernel) (by decide) rfl (k := 2) (ls := [some (.ref 171), some (.int r), some (.int k), some (.int ro), some (.int c), some (.int m), none, none]) rfl (Nat.le_of_ble_eq_true rfl) ?_
  obtain ⟨hu, hu8⟩ := hx.u
  obtain ⟨l, hl, el⟩ := hx.l
  have hv : VS (uN (mS x.2.1)) (mS x.2.1) := hx.2.2.2.2.2
  have hvd : ∀ r1, r1 < uN (mS x.2.1) → inR k 0 3 = true → inR ro 0 5 = true → inR c 0 2 = true → VS (uN (upd (upd (upd (upd (mS x.2.1) (26 + 9 * r1 + 3) k) (26 + 9 * r1 + 4) ro) (26 + 9 * r1 + 5) c) (26 + 9 * r1 + 6) m)) (upd (upd (upd (upd (mS x.2.1) (26 + 9 * r1 + 3) k) (26 + 9 * r1 + 4) ro) (26 + 9 * r1 + 5) c) (26 + 9 * r1 + 6) m) := by
    intro r1 h h3 h4 h5
    obtain ⟨k1, hk1, ek1⟩ := inR_nI (n := 3) (by decide) h3
    obtain ⟨o1, ho1, eo1, _⟩ := inR_row h4
    obtain ⟨c1, hc1, ec1, _⟩ := inR_col h5
    have g : ∀ j, j < 26 ∨ 98 ≤ j → upd (upd (upd (upd (mS x.2.1) (26 + 9 * r1 + 3) k) (26 + 9 * r1 + 4) ro) (26 + 9 * r1 + 5) c) (26 + 9 * r1 + 6) m j = mS x.2.1 j := fun j hj => by rw [upd_nt _ _ (by omega), upd_nt _ _ (by omega), upd_nt _ _ (by omega), upd_nt _ _ (by omega)]
    rw [uN_of (g 25 (by omega))]
    obtain ⟨b1, b2, b3, b4, b5, b6⟩ := hv
    refine ⟨b1, (g 25 (by omega)).trans b2, (by rw [g 24 (by omega)]; exact b3), (by rw [g 99 (by omega)]; exact b4), fun j hj => by rw [g j (by omega)]; exact b5 j hj, fun i hi => ?_⟩
    obtain ⟨q1, q2, q3, q4, q5⟩ := b6 i hi
    by_cases e : i = r1
    · subst e
      unfold rN at *
      rw [show upd (upd (upd (upd (mS x.2.1) (26 + 9 * i + 3) k) (26 + 9 * i + 4) ro) (26 + 9 * i + 5) c) (26 + 9 * i + 6) m (26 + 9 * i + 1) = mS x.2.1 (26 + 9 * i + 1) from by rw [upd_nt _ _ (by omega), upd_nt _ _ (by omega), upd_nt _ _ (by omega), upd_nt _ _ (by omega)],
        show upd (upd (upd (upd (mS x.2.1) (26 + 9 * i + 3) k) (26 + 9 * i + 4) ro) (26 + 9 * i + 5) c) (26 + 9 * i + 6) m (26 + 9 * i + 7) = mS x.2.1 (26 + 9 * i + 7) from by rw [upd_nt _ _ (by omega), upd_nt _ _ (by omega), upd_nt _ _ (by omega), upd_nt _ _ (by omega)],
        show upd (upd (upd (upd (mS x.2.1) (26 + 9 * i + 3) k) (26 + 9 * i + 4) ro) (26 + 9 * i + 5) c) (26 + 9 * i + 6) m (26 + 9 * i + 4) = ro from by rw [upd_nt _ _ (by omega), upd_nt _ _ (by omega), upd_at],
        show upd (upd (upd (upd (mS x.2.1) (26 + 9 * i + 3) k) (26 + 9 * i + 4) ro) (26 + 9 * i + 5) c) (26 + 9 * i + 6) m (26 + 9 * i + 5) = c from by rw [upd_nt _ _ (by omega), upd_at],
        show upd (upd (upd (upd (mS x.2.1) (26 + 9 * i + 3) k) (26 + 9 * i + 4) ro) (26 + 9 * i + 5) c) (26 + 9 * i + 6) m (26 + 9 * i + 3) = k from by rw [upd_nt _ _ (by omega), upd_nt _ _ (by omega), upd_nt _ _ (by omega), upd_at]]
      refine ⟨q1, ⟨o1, ho1, eo1⟩, ⟨c1, hc1, ec1⟩, q4, ?_⟩
      rw [ek1]
      match k1, hk1 with
      | 0, _ => exact .inl rfl
      | 1, _ => exact .inr (.inl rfl)
      | 2, _ => exact .inr (.inr (.inl rfl))
      | 3, _ => exact .inr (.inr (.inr rfl))
      | k1 + 4, h => exact absurd h (by omega)
    · have g2 : ∀ w, w < 9 → rN (upd (upd (upd (upd (mS x.2.1) (26 + 9 * r1 + 3) k) (26 + 9 * r1 + 4) ro) (26 + 9 * r1 + 5) c) (26 + 9 * r1 + 6) m) i w = rN (mS x.2.1) i w := fun w hw => by unfold rN; rw [upd_nt _ _ (by omega), upd_nt _ _ (by omega), upd_nt _ _ (by omega), upd_nt _ _ (by omega)]
      rw [g2 1 (by omega), g2 4 (by omega), g2 5 (by omega), g2 7 (by omega), g2 3 (by omega)]
      exact ⟨q1, q2, q3, q4, q5⟩
  refine pw_aload_n (tk tkX8_setAction 0 rfl) rfl ?_
  refine pw_aload_n (tk tkX8_setAction 1 rfl) rfl ?_
  refine pw_iload_n (tk tkX8_setAction 2 rfl) rfl ?_
  refine pw_cV (ct_X8_isRule x _) okX8_isRule (tk tkX8_setAction 3 rfl) mkX8_103 imX8_isRule seX8_isRule (hp_ot _ 11) rfl rfl rfl (by decide) (by decide) (Nat.le_of_ble_eq_true rfl) ?_
  refine pw_ifnb (tgt := 13) (tk tkX8_setAction 4 rfl) (by decide) (fun c6 => ?_) (fun c6 => ?_)
  · refine pw_iload_n (tk tkX8_setAction 7 rfl) rfl ?_
    refine pw_iconst (v := 0) (tk tkX8_setAction 8 rfl) (by decide) ?_
    refine pw_iconst (v := 3) (tk tkX8_setAction 9 rfl) (by decide) ?_
    refine pw_cS (ct_X8_in _ _ _ _) okX8_in (tk tkX8_setAction 10 rfl) mkX8_32 stX8_in rfl rfl (by decide) (by decide) (Nat.le_of_ble_eq_true rfl) ?_
    refine pw_ifb (tgt := 55) (tk tkX8_setAction 11 rfl) (by decide) (fun c19 => ?_) (fun c19 => ?_)
    · refine pw_iconst (v := 2) (tk tkX8_setAction 25 rfl) (by decide) ?_
      refine pw_cV (ct_X8_holds x _) okX8_holds (tk tkX8_setAction 26 rfl) mkX8_97 imX8_holds seX8_holds (hp_ot _ 11) rfl rfl rfl (by decide) (by decide) (Nat.le_of_ble_eq_true rfl) ?_
      refine pw_ifnb (tgt := 64) (tk tkX8_setAction 27 rfl) (by decide) (fun c59 => absurd c59 (by decide)) (fun c59 => ?_)
      refine pw_iconst (v := 0) (tk tkX8_setAction 28 rfl) (by decide) ?_
      refine pw_ireturn (tk tkX8_setAction 29 rfl) rfl (by decide) rfl ?_
      have e : ssetAction (aOf x.2.1) r k ro c m = (2, 0, aOf x.2.1) := ((if_neg (ne_f c6)).trans (if_pos c19))
      rw [e]
      exact ⟨_, rfl, rfl, rfl, rfl, rfl, hx, AE.rf _⟩
    · refine pw_iload_n (tk tkX8_setAction 12 rfl) rfl ?_
      refine pw_cS (ct_X8_isRow _ _) okX8_isRow (tk tkX8_setAction 13 rfl) mkX8_106 stX8_isRow rfl rfl (by decide) (by decide) (Nat.le_of_ble_eq_true rfl) ?_
      refine pw_ifb (tgt := 55) (tk tkX8_setAction 14 rfl) (by decide) (fun c26 => ?_) (fun c26 => ?_)
      · refine pw_iconst (v := 2) (tk tkX8_setAction 25 rfl) (by decide) ?_
        refine pw_cV (ct_X8_holds x _) okX8_holds (tk tkX8_setAction 26 rfl) mkX8_97 imX8_holds seX8_holds (hp_ot _ 11) rfl rfl rfl (by decide) (by decide) (Nat.le_of_ble_eq_true rfl) ?_
        refine pw_ifnb (tgt := 64) (tk tkX8_setAction 27 rfl) (by decide) (fun c59 => absurd c59 (by decide)) (fun c59 => ?_)
        refine pw_iconst (v := 0) (tk tkX8_setAction 28 rfl) (by decide) ?_
        refine pw_ireturn (tk tkX8_setAction 29 rfl) rfl (by decide) rfl ?_
        have e : ssetAction (aOf x.2.1) r k ro c m = (2, 0, aOf x.2.1) := ((if_neg (ne_f c6)).trans ((if_neg (ne_f c19)).trans (if_pos c26)))
        rw [e]
        exact ⟨_, rfl, rfl, rfl, rfl, rfl, hx, AE.rf _⟩
      · refine pw_iload (tk tkX8_setAction 15 rfl) rfl ?_
        refine pw_cS (ct_X8_isColumn _ _) okX8_isColumn (tk tkX8_setAction 16 rfl) mkX8_94 stX8_isColumn rfl rfl (by decide) (by decide) (Nat.le_of_ble_eq_true rfl) ?_
        refine pw_ifb (tgt := 55) (tk tkX8_setAction 17 rfl) (by decide) (fun c34 => ?_) (fun c34 => ?_)
        · refine pw_iconst (v := 2) (tk tkX8_setAction 25 rfl) (by decide) ?_
          refine pw_cV (ct_X8_holds x _) okX8_holds (tk tkX8_setAction 26 rfl) mkX8_97 imX8_holds seX8_holds (hp_ot _ 11) rfl rfl rfl (by decide) (by decide) (Nat.le_of_ble_eq_true rfl) ?_
          refine pw_ifnb (tgt := 64) (tk tkX8_setAction 27 rfl) (by decide) (fun c59 => absurd c59 (by decide)) (fun c59 => ?_)
          refine pw_iconst (v := 0) (tk tkX8_setAction 28 rfl) (by decide) ?_
          refine pw_ireturn (tk tkX8_setAction 29 rfl) rfl (by decide) rfl ?_
          have e : ssetAction (aOf x.2.1) r k ro c m = (2, 0, aOf x.2.1) := ((if_neg (ne_f c6)).trans ((if_neg (ne_f c19)).trans ((if_neg (ne_f c26)).trans (if_pos c34))))
          rw [e]
          exact ⟨_, rfl, rfl, rfl, rfl, rfl, hx, AE.rf _⟩
        · refine pw_iload (tk tkX8_setAction 18 rfl) rfl ?_
          refine pw_sipush (v := (-999)) (tk tkX8_setAction 19 rfl) (by decide) ?_
          refine pw_sipush (v := 999) (tk tkX8_setAction 20 rfl) (by decide) ?_
          refine pw_cS (ct_X8_in _ _ _ _) okX8_in (tk tkX8_setAction 21 rfl) mkX8_32 stX8_in rfl rfl (by decide) (by decide) (Nat.le_of_ble_eq_true rfl) ?_
          refine pw_ifb (tgt := 55) (tk tkX8_setAction 22 rfl) (by decide) (fun c48 => ?_) (fun c48 => ?_)
          · refine pw_iconst (v := 2) (tk tkX8_setAction 25 rfl) (by decide) ?_
            refine pw_cV (ct_X8_holds x _) okX8_holds (tk tkX8_setAction 26 rfl) mkX8_97 imX8_holds seX8_holds (hp_ot _ 11) rfl rfl rfl (by decide) (by decide) (Nat.le_of_ble_eq_true rfl) ?_
            refine pw_ifnb (tgt := 64) (tk tkX8_setAction 27 rfl) (by decide) (fun c59 => absurd c59 (by decide)) (fun c59 => ?_)
            refine pw_iconst (v := 0) (tk tkX8_setAction 28 rfl) (by decide) ?_
            refine pw_ireturn (tk tkX8_setAction 29 rfl) rfl (by decide) rfl ?_
            have e : ssetAction (aOf x.2.1) r k ro c m = (2, 0, aOf x.2.1) := ((if_neg (ne_f c6)).trans ((if_neg (ne_f c19)).trans ((if_neg (ne_f c26)).trans ((if_neg (ne_f c34)).trans (if_pos c48)))))
            rw [e]
            exact ⟨_, rfl, rfl, rfl, rfl, rfl, hx, AE.rf _⟩
          · refine pw_iconst (v := 0) (tk tkX8_setAction 23 rfl) (by decide) ?_
            refine pw_goto (tgt := 56) (tk tkX8_setAction 24 rfl) (by decide) ?_
            refine pw_cV (ct_X8_holds x _) okX8_holds (tk tkX8_setAction 26 rfl) mkX8_97 imX8_holds seX8_holds (hp_ot _ 11) rfl rfl rfl (by decide) (by decide) (Nat.le_of_ble_eq_true rfl) ?_
            refine pw_ifnb (tgt := 64) (tk tkX8_setAction 27 rfl) (by decide) (fun c59 => ?_) (fun c59 => absurd c59 (by decide))
            refine pw_aload_n (tk tkX8_setAction 30 rfl) rfl ?_
            obtain ⟨r1, hr, er, er2⟩ := inR_lt hu (by omega) c6
            refine pw_cV0 (ct_X8_record (xThr x 0) (aK (aOf x.2.1)) hx.1 hx.2.1) okX8_record (tk tkX8_setAction 31 rfl) mkX8_100 imX8_record seX8_record (hp_ot _ 11) rfl rfl rfl (by decide) (by decide) (Nat.le_of_ble_eq_true rfl) ?_
            rw [xRec_eq x]
            refine pw_bipush (v := 26) (tk tkX8_setAction 32 rfl) (by decide) ?_
            refine pw_bipush (v := 9) (tk tkX8_setAction 33 rfl) (by decide) ?_
            refine pw_iload_n (tk tkX8_setAction 34 rfl) rfl ?_
            refine pw_imul (tk tkX8_setAction 35 rfl) ?_
            refine pw_iadd (tk tkX8_setAction 36 rfl) ?_
            refine pw_ist6 (tk tkX8_setAction 37 rfl) rfl (by decide) ?_
            refine pw_aload_n (tk tkX8_setAction 38 rfl) rfl ?_
            refine g8_s (tk tkX8_setAction 39 rfl) fkX8_7 ?_
            refine pw_iload (tk tkX8_setAction 40 rfl) rfl ?_
            refine pw_iconst (v := 3) (tk tkX8_setAction 41 rfl) (by decide) ?_
            refine pw_iadd (tk tkX8_setAction 42 rfl) ?_
            refine al_s_e (e := 26 + 9 * r1 + 3) (tk tkX8_setAction 43 rfl) (by rw [er]; simp only [lit_nI, nI_add, pk_mul]) (by first | decide | omega) ?_
            refine pw_ist7 (tk tkX8_setAction 44 rfl) rfl (by decide) ?_
            refine pw_aload_n (tk tkX8_setAction 45 rfl) rfl ?_
            refine g8_s (tk tkX8_setAction 46 rfl) fkX8_7 ?_
            refine pw_iload (tk tkX8_setAction 47 rfl) rfl ?_
            refine pw_iconst (v := 3) (tk tkX8_setAction 48 rfl) (by decide) ?_
            refine pw_iadd (tk tkX8_setAction 49 rfl) ?_
            refine pw_iload_n (tk tkX8_setAction 50 rfl) rfl ?_
            refine as_s_e (e := 26 + 9 * r1 + 3) (tk tkX8_setAction 51 rfl) (by rw [er]; simp only [lit_nI, nI_add, pk_mul]) (by first | decide | omega) ?_
            refine pw_aload_n (tk tkX8_setAction 52 rfl) rfl ?_
            refine g8_s (tk tkX8_setAction 53 rfl) fkX8_7 ?_
            refine pw_iload (tk tkX8_setAction 54 rfl) rfl ?_
            refine pw_iconst (v := 4) (tk tkX8_setAction 55 rfl) (by decide) ?_
            refine pw_iadd (tk tkX8_setAction 56 rfl) ?_
            refine pw_iload_n (tk tkX8_setAction 57 rfl) rfl ?_
            refine as_s_e (e := 26 + 9 * r1 + 4) (tk tkX8_setAction 58 rfl) (by rw [er]; simp only [lit_nI, nI_add, pk_mul]) (by first | decide | omega) ?_
            refine pw_aload_n (tk tkX8_setAction 59 rfl) rfl ?_
            refine g8_s (tk tkX8_setAction 60 rfl) fkX8_7 ?_
            refine pw_iload (tk tkX8_setAction 61 rfl) rfl ?_
            refine pw_iconst (v := 5) (tk tkX8_setAction 62 rfl) (by decide) ?_
            refine pw_iadd (tk tkX8_setAction 63 rfl) ?_
            refine pw_iload (tk tkX8_setAction 64 rfl) rfl ?_
            refine as_s_e (e := 26 + 9 * r1 + 5) (tk tkX8_setAction 65 rfl) (by rw [er]; simp only [lit_nI, nI_add, pk_mul]) (by first | decide | omega) ?_
            refine pw_aload_n (tk tkX8_setAction 66 rfl) rfl ?_
            refine g8_s (tk tkX8_setAction 67 rfl) fkX8_7 ?_
            refine pw_iload (tk tkX8_setAction 68 rfl) rfl ?_
            refine pw_bipush (v := 6) (tk tkX8_setAction 69 rfl) (by decide) ?_
            refine pw_iadd (tk tkX8_setAction 70 rfl) ?_
            refine pw_iload (tk tkX8_setAction 71 rfl) rfl ?_
            refine as_s_e (e := 26 + 9 * r1 + 6) (tk tkX8_setAction 72 rfl) (by rw [er]; simp only [lit_nI, nI_add, pk_mul]) (by first | decide | omega) ?_
            refine pw_iload (tk tkX8_setAction 73 rfl) rfl ?_
            refine pw_ireturn (tk tkX8_setAction 74 rfl) rfl (by decide) rfl ?_
            exact MOQ.rc hx (upd (upd (upd (upd (mS x.2.1) (26 + 9 * r1 + 3) k) (26 + 9 * r1 + 4) ro) (26 + 9 * r1 + 5) c) (26 + 9 * r1 + 6) m) _ (hvd r1 hr c19 c26 c34) (((if_neg (ne_f c6)).trans ((if_neg (ne_f c19)).trans ((if_neg (ne_f c26)).trans ((if_neg (ne_f c34)).trans ((if_neg (ne_f c48)).trans (by rw [er2]; rfl)))))))
  · refine pw_iconst (v := 1) (tk tkX8_setAction 5 rfl) (by decide) ?_
    refine pw_goto (tgt := 56) (tk tkX8_setAction 6 rfl) (by decide) ?_
    refine pw_cV (ct_X8_holds x _) okX8_holds (tk tkX8_setAction 26 rfl) mkX8_97 imX8_holds seX8_holds (hp_ot _ 11) rfl rfl rfl (by decide) (by decide) (Nat.le_of_ble_eq_true rfl) ?_
    refine pw_ifnb (tgt := 64) (tk tkX8_setAction 27 rfl) (by decide) (fun c59 => absurd c59 (by decide)) (fun c59 => ?_)
    refine pw_iconst (v := 0) (tk tkX8_setAction 28 rfl) (by decide) ?_
    refine pw_ireturn (tk tkX8_setAction 29 rfl) rfl (by decide) rfl ?_
    have e : ssetAction (aOf x.2.1) r k ro c m = (1, 0, aOf x.2.1) := (if_pos c6)
    rw [e]
    exact ⟨_, rfl, rfl, rfl, rfl, rfl, hx, AE.rf _⟩
