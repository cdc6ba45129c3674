/-- the abstract machine: the numbers; how many are recorded and they; kept and slots; the text's length and signs -/
abbrev AM : Type := (Nat → Int32) × (Nat × (Nat → Nat → Int32)) × ((Nat → Bool) × (Nat → Nat → Int32)) × (Nat × (Nat → Int32))
abbrev aS (a : AM) : Nat → Int32 := a.1
abbrev aK (a : AM) : Nat := a.2.1.1
abbrev aH (a : AM) : Nat → Nat → Int32 := a.2.1.2
abbrev aB (a : AM) : Nat → Bool := a.2.2.1.1
abbrev aL (a : AM) : Nat → Nat → Int32 := a.2.2.1.2
abbrev aN (a : AM) : Nat := a.2.2.2.1
abbrev aT (a : AM) : Nat → Int32 := a.2.2.2.2
def aOf (m : MW) : AM := (mS m, ((mF m 4).toNatClampNeg, fun i j => mHi m (132 * i + j)), ((fun i => decide ((mF m 6 >>> (nI i &&& 31)) &&& 1 = 1)), fun i j => mSl m (132 * i + j)), ((mF m 8).toNatClampNeg, mTx m))
def AE (a b : AM) : Prop := E132 (aS a) (aS b) ∧ aK a = aK b ∧ (∀ i, i < aK a → E132 (aH a i) (aH b i)) ∧ (∀ i, i < 2 → aB a i = aB b i) ∧ (∀ i, i < 2 → aB a i = true → E132 (aL a i) (aL b i)) ∧ aN a = aN b ∧ ∀ i, i < aN a → aT a i = aT b i
theorem AE.rf (a : AM) : AE a a := ⟨fun _ _ => rfl, rfl, fun _ _ _ _ => rfl, fun _ _ => rfl, fun _ _ _ _ _ => rfl, rfl, fun _ _ => rfl⟩
def uN (s : Nat → Int32) : Nat := (s 25).toNatClampNeg
def VM (m : MW) : Prop := mF m 4 = nI (aK (aOf m)) ∧ aK (aOf m) ≤ 6 ∧ mF m 8 = nI (aN (aOf m)) ∧ aN (aOf m) ≤ 80 ∧ (∃ k, k < 4 ∧ mF m 6 = nI k) ∧ VS (uN (mS m)) (mS m)
/-- the end of a call of the model: thrown, the answer, the new machine -/
abbrev RS3 : Type := Int32 × Int32 × AM
def MOQ (x : XW) (R : RS3) : Out → Hp → Prop := fun o h2 => ∃ y, h2 = hp y ∧ y.1 = x.1 ∧ y.2.2 = x.2.2 ∧ mF y.2.1 0 = R.1 ∧ o = .inl (some (.int R.2.1)) ∧ VM y.2.1 ∧ AE R.2.2 (aOf y.2.1)
theorem ne_f {b : Bool} (h : b = true) : ¬ b = false := fun e => Bool.noConfusion (h.symm.trans e)
theorem inR_nI {v hi : Int32} {n : Nat} (hM : hi.toInt = n) (h : inR v 0 hi = true) : ∃ r, r ≤ n ∧ v = nI r := by
  unfold inR at h
  rw [Bool.and_eq_true] at h
  exact nI_of2 hM (of_decide_eq_true h.1) (Int32.not_lt.mp (of_decide_eq_true h.2))
theorem inR_row {v : Int32} (h : inR v 0 5 = true) : ∃ r, r < 6 ∧ v = nI r ∧ v.toNatClampNeg = r := by
  obtain ⟨r, h1, h2⟩ := inR_nI (n := 5) (by decide) h
  exact ⟨r, by omega, h2, by rw [h2, nI_clamp (by omega)]⟩
theorem inR_col {v : Int32} (h : inR v 0 2 = true) : ∃ r, r < 3 ∧ v = nI r ∧ v.toNatClampNeg = r := by
  obtain ⟨r, h1, h2⟩ := inR_nI (n := 2) (by decide) h
  exact ⟨r, by omega, h2, by rw [h2, nI_clamp (by omega)]⟩
theorem inR_lt {v w : Int32} {u : Nat} (hw : w = nI u) (hu : u < 2 ^ 30) (h : inR v 0 (w - 1) = true) : ∃ r, r < u ∧ v = nI r ∧ v.toNatClampNeg = r := by
  cases u with
  | zero =>
    unfold inR at h
    rw [Bool.and_eq_true, hw] at h
    exact absurd (of_decide_eq_true h.2) (fun q => (of_decide_eq_true h.1 : ¬ v < 0) (Int32.lt_of_le_of_lt (Int32.not_lt.mp q) (by decide)))
  | succ u =>
    rw [hw, nI_pred] at h
    obtain ⟨r, h1, h2⟩ := inR_nI (n := u) (nI_toInt (by omega)) h
    exact ⟨r, by omega, h2, by rw [h2, nI_clamp (by omega)]⟩
theorem VM.u {m : MW} (h : VM m) : mS m 25 = nI (uN (mS m)) ∧ uN (mS m) ≤ 8 := ⟨h.2.2.2.2.2.2.1, h.2.2.2.2.2.1⟩
theorem VM.l {m : MW} (h : VM m) : ∃ l, l ≤ 16 ∧ mS m 99 = nI l := h.2.2.2.2.2.2.2.2.1
theorem of_ix {a b : Int32} {r c : Nat} (h1 : a = nI r) (h2 : b = nI c) : 6 + 3 * a + b = nI (6 + 3 * r + c) := by
  rw [h1, h2]; simp only [lit_nI, nI_add, pk_mul]
set_option maxRecDepth 100000 in
set_option maxHeartbeats 4000000 in
theorem ct_X8_ofW (h : Hp) (r k : Int32) : CT MX8_of 0 0 [.int r, .int k] h (Det (.inl (some (.int (6 + 3 * r + k)))) h) := by
  refine ct_of (by decide +kernel) (by decide) rfl (k := 0) (ls := [some (.int r), some (.int k)]) rfl (Nat.le_of_ble_eq_true rfl) ?_
  refine pw_bipush (v := 6) (tk tkX8_of 0 rfl) (by decide) ?_
  refine pw_iconst (v := 3) (tk tkX8_of 1 rfl) (by decide) ?_
  refine pw_iload_n (tk tkX8_of 2 rfl) rfl ?_
  refine pw_imul (tk tkX8_of 3 rfl) ?_
  refine pw_iadd (tk tkX8_of 4 rfl) ?_
  refine pw_iload_n (tk tkX8_of 5 rfl) rfl ?_
  refine pw_iadd (tk tkX8_of 6 rfl) ?_
  exact pw_ireturn (tk tkX8_of 7 rfl) rfl (by decide) rfl ⟨rfl, rfl⟩
theorem ct_X8_atW (x : XW) {v : Int32} (r k : Nat) (hv : v = nI r) (hr : 26 + 9 * r + k < 132) : CT MX8_at 0 0 [.ref 171, .int v, .int (nI k)] (hp x) (Det (.inl (some (.int (mS x.2.1 (26 + 9 * r + k))))) (hp x)) := by subst hv; exact ct_X8_at x r k hr
def shasRow (a : AM) (r : Int32) : RS3 := if inR r 0 5 = false then (1, 0, a) else if aS a r.toNatClampNeg = 1 then (0, 1, a) else (0, 0, a)
set_option maxRecDepth 100000 in
set_option maxHeartbeats 4000000 in
theorem ct_X8_hasRow (x : XW) (hx : VM x.2.1) (r : Int32) : CT MX8_hasRow 3 0 [.ref 171, .int r] (hp x) (MOQ x (shasRow (aOf x.2.1) r)) := by
  refine ct_of (by decide +kernel) (by decide) rfl (k := 0) (ls := [some (.ref 171), some (.int r)]) rfl (Nat.le_of_ble_eq_true rfl) ?_
  obtain ⟨hu, hu8⟩ := hx.u
  obtain ⟨l, hl, el⟩ := hx.l
  refine pw_aload_n (tk tkX8_hasRow 0 rfl) rfl ?_
  refine pw_iload_n (tk tkX8_hasRow 1 rfl) rfl ?_
  refine pw_cS (ct_X8_isRow _ _) okX8_isRow (tk tkX8_hasRow 2 rfl) mkX8_106 stX8_isRow rfl rfl (by decide) (by decide) (Nat.le_of_ble_eq_true rfl) ?_
  refine pw_ifb (tgt := 12) (tk tkX8_hasRow 3 rfl) (by decide) (fun c5 => ?_) (fun c5 => ?_)
  · refine pw_iconst (v := 1) (tk tkX8_hasRow 6 rfl) (by decide) ?_
    refine pw_cV (ct_X8_holds x _) okX8_holds (tk tkX8_hasRow 7 rfl) mkX8_97 imX8_holds seX8_holds (hp_ot _ 11) rfl rfl rfl (by decide) (by decide) (Nat.le_of_ble_eq_true rfl) ?_
    refine pw_ifb (tgt := 35) (tk tkX8_hasRow 8 rfl) (by decide) (fun c16 => ?_) (fun c16 => absurd c16 (by decide))
    refine pw_iconst (v := 0) (tk tkX8_hasRow 19 rfl) (by decide) ?_
    refine pw_ireturn (tk tkX8_hasRow 20 rfl) rfl (by decide) (by first | rfl | exact nar_bI _) ?_
    have e : shasRow (aOf x.2.1) r = (1, 0, aOf x.2.1) := (if_pos c5)
    rw [e]
    exact ⟨_, rfl, rfl, rfl, rfl, rfl, hx, AE.rf _⟩
  · refine pw_iconst (v := 0) (tk tkX8_hasRow 4 rfl) (by decide) ?_
    refine pw_goto (tgt := 13) (tk tkX8_hasRow 5 rfl) (by decide) ?_
    refine pw_cV (ct_X8_holds x _) okX8_holds (tk tkX8_hasRow 7 rfl) mkX8_97 imX8_holds seX8_holds (hp_ot _ 11) rfl rfl rfl (by decide) (by decide) (Nat.le_of_ble_eq_true rfl) ?_
    refine pw_ifb (tgt := 35) (tk tkX8_hasRow 8 rfl) (by decide) (fun c16 => absurd c16 (by decide)) (fun c16 => ?_)
    obtain ⟨r1, hr, er, er2⟩ := inR_row c5
    refine pw_aload_n (tk tkX8_hasRow 9 rfl) rfl ?_
    refine g8_s (tk tkX8_hasRow 10 rfl) fkX8_7 ?_
    refine pw_iconst (v := 0) (tk tkX8_hasRow 11 rfl) (by decide) ?_
    refine pw_iload_n (tk tkX8_hasRow 12 rfl) rfl ?_
    refine pw_iadd (tk tkX8_hasRow 13 rfl) ?_
    refine al_s_e (e := r1) (tk tkX8_hasRow 14 rfl) ((Int32.zero_add _).trans er) (by first | decide | omega) ?_
    refine pw_iconst (v := 1) (tk tkX8_hasRow 15 rfl) (by decide) ?_
    refine pw_icmp_ne (tgt := 35) (tk tkX8_hasRow 16 rfl) (by decide) (fun c28 => ?_) (fun c28 => ?_)
    · refine pw_iconst (v := 0) (tk tkX8_hasRow 19 rfl) (by decide) ?_
      refine pw_ireturn (tk tkX8_hasRow 20 rfl) rfl (by decide) (by first | rfl | exact nar_bI _) ?_
      have e : shasRow (aOf x.2.1) r = (0, 0, aOf x.2.1) := (if_neg (ne_f c5)).trans (if_neg (by rw [er2]; exact c28))
      rw [e]
      exact ⟨_, rfl, rfl, rfl, rfl, rfl, hx, AE.rf _⟩
    · refine pw_iconst (v := 1) (tk tkX8_hasRow 17 rfl) (by decide) ?_
      refine pw_goto (tgt := 36) (tk tkX8_hasRow 18 rfl) (by decide) ?_
      refine pw_ireturn (tk tkX8_hasRow 20 rfl) rfl (by decide) (by first | rfl | exact nar_bI _) ?_
      have e : shasRow (aOf x.2.1) r = (0, 1, aOf x.2.1) := (if_neg (ne_f c5)).trans (if_pos (by rw [er2]; exact c28))
      rw [e]
      exact ⟨_, rfl, rfl, rfl, rfl, rfl, hx, AE.rf _⟩
def svalueAt (a : AM) (r c : Int32) : RS3 := if inR r 0 5 = false then (1, 0, a) else if inR c 0 2 = false then (1, 0, a) else if aS a r.toNatClampNeg = 0 then (2, 0, a) else (0, aS a (6 + 3 * r.toNatClampNeg + c.toNatClampNeg), a)
set_option maxRecDepth 100000 in
set_option maxHeartbeats 4000000 in
theorem ct_X8_valueAt (x : XW) (hx : VM x.2.1) (r c : Int32) : CT MX8_valueAt 3 0 [.ref 171, .int r, .int c] (hp x) (MOQ x (svalueAt (aOf x.2.1) r c)) := by
  refine ct_of (by decide +kernel) (by decide) rfl (k := 0) (ls := [some (.ref 171), some (.int r), some (.int c)]) rfl (Nat.le_of_ble_eq_true rfl) ?_
  obtain ⟨hu, hu8⟩ := hx.u
  obtain ⟨l, hl, el⟩ := hx.l
  refine pw_aload_n (tk tkX8_valueAt 0 rfl) rfl ?_
  refine pw_iload_n (tk tkX8_valueAt 1 rfl) rfl ?_
  refine pw_cS (ct_X8_isRow _ _) okX8_isRow (tk tkX8_valueAt 2 rfl) mkX8_106 stX8_isRow rfl rfl (by decide) (by decide) (Nat.le_of_ble_eq_true rfl) ?_
  refine pw_ifb (tgt := 15) (tk tkX8_valueAt 3 rfl) (by decide) (fun c5 => ?_) (fun c5 => ?_)
  · refine pw_iconst (v := 1) (tk tkX8_valueAt 7 rfl) (by decide) ?_
    refine pw_goto (tgt := 35) (tk tkX8_valueAt 8 rfl) (by decide) ?_
    refine pw_cV (ct_X8_holds x _) okX8_holds (tk tkX8_valueAt 19 rfl) mkX8_97 imX8_holds seX8_holds (hp_ot _ 11) rfl rfl rfl (by decide) (by decide) (Nat.le_of_ble_eq_true rfl) ?_
    refine pw_ifb (tgt := 54) (tk tkX8_valueAt 20 rfl) (by decide) (fun c38 => ?_) (fun c38 => absurd c38 (by decide))
    refine pw_iconst (v := 0) (tk tkX8_valueAt 28 rfl) (by decide) ?_
    refine pw_ireturn (tk tkX8_valueAt 29 rfl) rfl (by decide) rfl ?_
    have e : svalueAt (aOf x.2.1) r c = (1, 0, aOf x.2.1) := (if_pos c5)
    rw [e]
    exact ⟨_, rfl, rfl, rfl, rfl, rfl, hx, AE.rf _⟩
  · refine pw_iload_n (tk tkX8_valueAt 4 rfl) rfl ?_
    refine pw_cS (ct_X8_isColumn _ _) okX8_isColumn (tk tkX8_valueAt 5 rfl) mkX8_94 stX8_isColumn rfl rfl (by decide) (by decide) (Nat.le_of_ble_eq_true rfl) ?_
    refine pw_ifnb (tgt := 19) (tk tkX8_valueAt 6 rfl) (by decide) (fun c12 => ?_) (fun c12 => ?_)
    · obtain ⟨r1, hr, er, er2⟩ := inR_row c5
      obtain ⟨c1, hc, ec, ec2⟩ := inR_col c12
      refine pw_aload_n (tk tkX8_valueAt 9 rfl) rfl ?_
      refine g8_s (tk tkX8_valueAt 10 rfl) fkX8_7 ?_
      refine pw_iconst (v := 0) (tk tkX8_valueAt 11 rfl) (by decide) ?_
      refine pw_iload_n (tk tkX8_valueAt 12 rfl) rfl ?_
      refine pw_iadd (tk tkX8_valueAt 13 rfl) ?_
      refine al_s_e (e := r1) (tk tkX8_valueAt 14 rfl) ((Int32.zero_add _).trans er) (by first | decide | omega) ?_
      refine pw_if_ne (tgt := 34) (tk tkX8_valueAt 15 rfl) (by decide) (fun c27 => ?_) (fun c27 => ?_)
      · refine pw_iconst (v := 0) (tk tkX8_valueAt 18 rfl) (by decide) ?_
        refine pw_cV (ct_X8_holds x _) okX8_holds (tk tkX8_valueAt 19 rfl) mkX8_97 imX8_holds seX8_holds (hp_ot _ 11) rfl rfl rfl (by decide) (by decide) (Nat.le_of_ble_eq_true rfl) ?_
        refine pw_ifb (tgt := 54) (tk tkX8_valueAt 20 rfl) (by decide) (fun c38 => absurd c38 (by decide)) (fun c38 => ?_)
        refine pw_aload_n (tk tkX8_valueAt 21 rfl) rfl ?_
        refine g8_s (tk tkX8_valueAt 22 rfl) fkX8_7 ?_
        refine pw_iload_n (tk tkX8_valueAt 23 rfl) rfl ?_
        refine pw_iload_n (tk tkX8_valueAt 24 rfl) rfl ?_
        refine pw_cS (ct_X8_ofW _ _ _) okX8_of (tk tkX8_valueAt 25 rfl) mkX8_49 stX8_of rfl rfl (by decide) (by decide) (Nat.le_of_ble_eq_true rfl) ?_
        refine al_s_e (e := 6 + 3 * r1 + c1) (tk tkX8_valueAt 26 rfl) (of_ix er ec) (by first | decide | omega) ?_
        refine pw_goto (tgt := 55) (tk tkX8_valueAt 27 rfl) (by decide) ?_
        refine pw_ireturn (tk tkX8_valueAt 29 rfl) rfl (by decide) rfl ?_
        have e : svalueAt (aOf x.2.1) r c = (0, mS x.2.1 (6 + 3 * r1 + c1), aOf x.2.1) := (if_neg (ne_f c5)).trans ((if_neg (ne_f c12)).trans ((if_neg (by rw [er2]; exact c27)).trans (by rw [er2, ec2]; rfl)))
        rw [e]
        exact ⟨_, rfl, rfl, rfl, rfl, rfl, hx, AE.rf _⟩
      · refine pw_iconst (v := 2) (tk tkX8_valueAt 16 rfl) (by decide) ?_
        refine pw_goto (tgt := 35) (tk tkX8_valueAt 17 rfl) (by decide) ?_
        refine pw_cV (ct_X8_holds x _) okX8_holds (tk tkX8_valueAt 19 rfl) mkX8_97 imX8_holds seX8_holds (hp_ot _ 11) rfl rfl rfl (by decide) (by decide) (Nat.le_of_ble_eq_true rfl) ?_
        refine pw_ifb (tgt := 54) (tk tkX8_valueAt 20 rfl) (by decide) (fun c38 => ?_) (fun c38 => absurd c38 (by decide))
        refine pw_iconst (v := 0) (tk tkX8_valueAt 28 rfl) (by decide) ?_
        refine pw_ireturn (tk tkX8_valueAt 29 rfl) rfl (by decide) rfl ?_
        have e : svalueAt (aOf x.2.1) r c = (2, 0, aOf x.2.1) := (if_neg (ne_f c5)).trans ((if_neg (ne_f c12)).trans (if_pos (by rw [er2]; exact c27)))
        rw [e]
        exact ⟨_, rfl, rfl, rfl, rfl, rfl, hx, AE.rf _⟩
    · refine pw_iconst (v := 1) (tk tkX8_valueAt 7 rfl) (by decide) ?_
      refine pw_goto (tgt := 35) (tk tkX8_valueAt 8 rfl) (by decide) ?_
      refine pw_cV (ct_X8_holds x _) okX8_holds (tk tkX8_valueAt 19 rfl) mkX8_97 imX8_holds seX8_holds (hp_ot _ 11) rfl rfl rfl (by decide) (by decide) (Nat.le_of_ble_eq_true rfl) ?_
      refine pw_ifb (tgt := 54) (tk tkX8_valueAt 20 rfl) (by decide) (fun c38 => ?_) (fun c38 => absurd c38 (by decide))
      refine pw_iconst (v := 0) (tk tkX8_valueAt 28 rfl) (by decide) ?_
      refine pw_ireturn (tk tkX8_valueAt 29 rfl) rfl (by decide) rfl ?_
      have e : svalueAt (aOf x.2.1) r c = (1, 0, aOf x.2.1) := ((if_neg (ne_f c5)).trans (if_pos c12))
      rw [e]
      exact ⟨_, rfl, rfl, rfl, rfl, rfl, hx, AE.rf _⟩
def sactionOf (a : AM) (r : Int32) : RS3 := if inR r 0 (aS a 25 - 1) = false then (1, 0, a) else (0, rN (aS a) r.toNatClampNeg 3, a)
set_option maxRecDepth 100000 in
set_option maxHeartbeats 4000000 in
theorem ct_X8_actionOf (x : XW) (hx : VM x.2.1) (r : Int32) : CT MX8_actionOf 3 0 [.ref 171, .int r] (hp x) (MOQ x (sactionOf (aOf x.2.1) r)) := by
  refine ct_of (by decide +kernel) (by decide) rfl (k := 0) (ls := [some (.ref 171), some (.int r)]) rfl (Nat.le_of_ble_eq_true rfl) ?_
  obtain ⟨hu, hu8⟩ := hx.u
  obtain ⟨l, hl, el⟩ := hx.l
  refine pw_aload_n (tk tkX8_actionOf 0 rfl) rfl ?_
  refine pw_aload_n (tk tkX8_actionOf 1 rfl) rfl ?_
  refine pw_iload_n (tk tkX8_actionOf 2 rfl) rfl ?_
  refine pw_cV (ct_X8_isRule x _) okX8_isRule (tk tkX8_actionOf 3 rfl) mkX8_103 imX8_isRule seX8_isRule (hp_ot _ 11) rfl rfl rfl (by decide) (by decide) (Nat.le_of_ble_eq_true rfl) ?_
  refine pw_ifb (tgt := 13) (tk tkX8_actionOf 4 rfl) (by decide) (fun c6 => ?_) (fun c6 => ?_)
  · refine pw_iconst (v := 1) (tk tkX8_actionOf 7 rfl) (by decide) ?_
    refine pw_cV (ct_X8_holds x _) okX8_holds (tk tkX8_actionOf 8 rfl) mkX8_97 imX8_holds seX8_holds (hp_ot _ 11) rfl rfl rfl (by decide) (by decide) (Nat.le_of_ble_eq_true rfl) ?_
    refine pw_ifb (tgt := 29) (tk tkX8_actionOf 9 rfl) (by decide) (fun c17 => ?_) (fun c17 => absurd c17 (by decide))
    refine pw_iconst (v := 0) (tk tkX8_actionOf 15 rfl) (by decide) ?_
    refine pw_ireturn (tk tkX8_actionOf 16 rfl) rfl (by decide) rfl ?_
    have e : sactionOf (aOf x.2.1) r = (1, 0, aOf x.2.1) := (if_pos c6)
    rw [e]
    exact ⟨_, rfl, rfl, rfl, rfl, rfl, hx, AE.rf _⟩
  · refine pw_iconst (v := 0) (tk tkX8_actionOf 5 rfl) (by decide) ?_
    refine pw_goto (tgt := 14) (tk tkX8_actionOf 6 rfl) (by decide) ?_
    refine pw_cV (ct_X8_holds x _) okX8_holds (tk tkX8_actionOf 8 rfl) mkX8_97 imX8_holds seX8_holds (hp_ot _ 11) rfl rfl rfl (by decide) (by decide) (Nat.le_of_ble_eq_true rfl) ?_
    refine pw_ifb (tgt := 29) (tk tkX8_actionOf 9 rfl) (by decide) (fun c17 => absurd c17 (by decide)) (fun c17 => ?_)
    obtain ⟨r1, hr, er, er2⟩ := inR_lt hu (by omega) c6
    refine pw_aload_n (tk tkX8_actionOf 10 rfl) rfl ?_
    refine pw_iload_n (tk tkX8_actionOf 11 rfl) rfl ?_
    refine pw_iconst (v := 3) (tk tkX8_actionOf 12 rfl) (by decide) ?_
    refine pw_cV (ct_X8_atW _ r1 3 er (by omega)) okX8_at (tk tkX8_actionOf 13 rfl) mkX8_45 imX8_at seX8_at (hp_ot _ 11) rfl rfl rfl (by decide) (by decide) (Nat.le_of_ble_eq_true rfl) ?_
    refine pw_goto (tgt := 30) (tk tkX8_actionOf 14 rfl) (by decide) ?_
    refine pw_ireturn (tk tkX8_actionOf 16 rfl) rfl (by decide) rfl ?_
    have e : sactionOf (aOf x.2.1) r = (0, mS x.2.1 (26 + 9 * r1 + 3), aOf x.2.1) := (if_neg (ne_f c6)).trans (by rw [er2]; rfl)
    rw [e]
    exact ⟨_, rfl, rfl, rfl, rfl, rfl, hx, AE.rf _⟩
def sactsOf (a : AM) (r : Int32) : RS3 := if inR r 0 (aS a 25 - 1) = false then (1, 0, a) else (0, rN (aS a) r.toNatClampNeg 8, a)
set_option maxRecDepth 100000 in
set_option maxHeartbeats 4000000 in
theorem ct_X8_actsOf (x : XW) (hx : VM x.2.1) (r : Int32) : CT MX8_actsOf 3 0 [.ref 171, .int r] (hp x) (MOQ x (sactsOf (aOf x.2.1) r)) := by
  refine ct_of (by decide +kernel) (by decide) rfl (k := 0) (ls := [some (.ref 171), some (.int r)]) rfl (Nat.le_of_ble_eq_true rfl) ?_
  obtain ⟨hu, hu8⟩ := hx.u
  obtain ⟨l, hl, el⟩ := hx.l
  refine pw_aload_n (tk tkX8_actsOf 0 rfl) rfl ?_
  refine pw_aload_n (tk tkX8_actsOf 1 rfl) rfl ?_
  refine pw_iload_n (tk tkX8_actsOf 2 rfl) rfl ?_
  refine pw_cV (ct_X8_isRule x _) okX8_isRule (tk tkX8_actsOf 3 rfl) mkX8_103 imX8_isRule seX8_isRule (hp_ot _ 11) rfl rfl rfl (by decide) (by decide) (Nat.le_of_ble_eq_true rfl) ?_
  refine pw_ifb (tgt := 13) (tk tkX8_actsOf 4 rfl) (by decide) (fun c6 => ?_) (fun c6 => ?_)
  · refine pw_iconst (v := 1) (tk tkX8_actsOf 7 rfl) (by decide) ?_
    refine pw_cV (ct_X8_holds x _) okX8_holds (tk tkX8_actsOf 8 rfl) mkX8_97 imX8_holds seX8_holds (hp_ot _ 11) rfl rfl rfl (by decide) (by decide) (Nat.le_of_ble_eq_true rfl) ?_
    refine pw_ifb (tgt := 30) (tk tkX8_actsOf 9 rfl) (by decide) (fun c17 => ?_) (fun c17 => absurd c17 (by decide))
    refine pw_iconst (v := 0) (tk tkX8_actsOf 15 rfl) (by decide) ?_
    refine pw_ireturn (tk tkX8_actsOf 16 rfl) rfl (by decide) rfl ?_
    have e : sactsOf (aOf x.2.1) r = (1, 0, aOf x.2.1) := (if_pos c6)
    rw [e]
    exact ⟨_, rfl, rfl, rfl, rfl, rfl, hx, AE.rf _⟩
  · refine pw_iconst (v := 0) (tk tkX8_actsOf 5 rfl) (by decide) ?_
    refine pw_goto (tgt := 14) (tk tkX8_actsOf 6 rfl) (by decide) ?_
    refine pw_cV (ct_X8_holds x _) okX8_holds (tk tkX8_actsOf 8 rfl) mkX8_97 imX8_holds seX8_holds (hp_ot _ 11) rfl rfl rfl (by decide) (by decide) (Nat.le_of_ble_eq_true rfl) ?_
    refine pw_ifb (tgt := 30) (tk tkX8_actsOf 9 rfl) (by decide) (fun c17 => absurd c17 (by decide)) (fun c17 => ?_)
    obtain ⟨r1, hr, er, er2⟩ := inR_lt hu (by omega) c6
    refine pw_aload_n (tk tkX8_actsOf 10 rfl) rfl ?_
    refine pw_iload_n (tk tkX8_actsOf 11 rfl) rfl ?_
    refine pw_bipush (v := 8) (tk tkX8_actsOf 12 rfl) (by decide) ?_
    refine pw_cV (ct_X8_atW _ r1 8 er (by omega)) okX8_at (tk tkX8_actsOf 13 rfl) mkX8_45 imX8_at seX8_at (hp_ot _ 11) rfl rfl rfl (by decide) (by decide) (Nat.le_of_ble_eq_true rfl) ?_
    refine pw_goto (tgt := 31) (tk tkX8_actsOf 14 rfl) (by decide) ?_
    refine pw_ireturn (tk tkX8_actsOf 16 rfl) rfl (by decide) rfl ?_
    have e : sactsOf (aOf x.2.1) r = (0, mS x.2.1 (26 + 9 * r1 + 8), aOf x.2.1) := (if_neg (ne_f c6)).trans (by rw [er2]; rfl)
    rw [e]
    exact ⟨_, rfl, rfl, rfl, rfl, rfl, hx, AE.rf _⟩
def sisMuted (a : AM) (r : Int32) : RS3 := if inR r 0 (aS a 25 - 1) = false then (1, 0, a) else if rN (aS a) r.toNatClampNeg 7 = 1 then (0, 1, a) else (0, 0, a)
set_option maxRecDepth 100000 in
set_option maxHeartbeats 4000000 in
theorem ct_X8_isMuted (x : XW) (hx : VM x.2.1) (r : Int32) : CT MX8_isMuted 3 0 [.ref 171, .int r] (hp x) (MOQ x (sisMuted (aOf x.2.1) r)) := by
  refine ct_of (by decide +kernel) (by decide) rfl (k := 0) (ls := [some (.ref 171), some (.int r)]) rfl (Nat.le_of_ble_eq_true rfl) ?_
  obtain ⟨hu, hu8⟩ := hx.u
  obtain ⟨l, hl, el⟩ := hx.l
  refine pw_aload_n (tk tkX8_isMuted 0 rfl) rfl ?_
  refine pw_aload_n (tk tkX8_isMuted 1 rfl) rfl ?_
  refine pw_iload_n (tk tkX8_isMuted 2 rfl) rfl ?_
  refine pw_cV (ct_X8_isRule x _) okX8_isRule (tk tkX8_isMuted 3 rfl) mkX8_103 imX8_isRule seX8_isRule (hp_ot _ 11) rfl rfl rfl (by decide) (by decide) (Nat.le_of_ble_eq_true rfl) ?_
  refine pw_ifb (tgt := 13) (tk tkX8_isMuted 4 rfl) (by decide) (fun c6 => ?_) (fun c6 => ?_)
  · refine pw_iconst (v := 1) (tk tkX8_isMuted 7 rfl) (by decide) ?_
    refine pw_cV (ct_X8_holds x _) okX8_holds (tk tkX8_isMuted 8 rfl) mkX8_97 imX8_holds seX8_holds (hp_ot _ 11) rfl rfl rfl (by decide) (by decide) (Nat.le_of_ble_eq_true rfl) ?_
    refine pw_ifb (tgt := 35) (tk tkX8_isMuted 9 rfl) (by decide) (fun c17 => ?_) (fun c17 => absurd c17 (by decide))
    refine pw_iconst (v := 0) (tk tkX8_isMuted 18 rfl) (by decide) ?_
    refine pw_ireturn (tk tkX8_isMuted 19 rfl) rfl (by decide) (by first | rfl | exact nar_bI _) ?_
    have e : sisMuted (aOf x.2.1) r = (1, 0, aOf x.2.1) := (if_pos c6)
    rw [e]
    exact ⟨_, rfl, rfl, rfl, rfl, rfl, hx, AE.rf _⟩
  · refine pw_iconst (v := 0) (tk tkX8_isMuted 5 rfl) (by decide) ?_
    refine pw_goto (tgt := 14) (tk tkX8_isMuted 6 rfl) (by decide) ?_
    refine pw_cV (ct_X8_holds x _) okX8_holds (tk tkX8_isMuted 8 rfl) mkX8_97 imX8_holds seX8_holds (hp_ot _ 11) rfl rfl rfl (by decide) (by decide) (Nat.le_of_ble_eq_true rfl) ?_
    refine pw_ifb (tgt := 35) (tk tkX8_isMuted 9 rfl) (by decide) (fun c17 => absurd c17 (by decide)) (fun c17 => ?_)
    obtain ⟨r1, hr, er, er2⟩ := inR_lt hu (by omega) c6
    refine pw_aload_n (tk tkX8_isMuted 10 rfl) rfl ?_
    refine pw_iload_n (tk tkX8_isMuted 11 rfl) rfl ?_
    refine pw_bipush (v := 7) (tk tkX8_isMuted 12 rfl) (by decide) ?_
    refine pw_cV (ct_X8_atW _ r1 7 er (by omega)) okX8_at (tk tkX8_isMuted 13 rfl) mkX8_45 imX8_at seX8_at (hp_ot _ 11) rfl rfl rfl (by decide) (by decide) (Nat.le_of_ble_eq_true rfl) ?_
    refine pw_iconst (v := 1) (tk tkX8_isMuted 14 rfl) (by decide) ?_
    refine pw_icmp_ne (tgt := 35) (tk tkX8_isMuted 15 rfl) (by decide) (fun c28 => ?_) (fun c28 => ?_)
    · refine pw_iconst (v := 0) (tk tkX8_isMuted 18 rfl) (by decide) ?_
      refine pw_ireturn (tk tkX8_isMuted 19 rfl) rfl (by decide) (by first | rfl | exact nar_bI _) ?_
      have e : sisMuted (aOf x.2.1) r = (0, 0, aOf x.2.1) := (if_neg (ne_f c6)).trans (if_neg (by rw [er2]; exact c28))
      rw [e]
      exact ⟨_, rfl, rfl, rfl, rfl, rfl, hx, AE.rf _⟩
    · refine pw_iconst (v := 1) (tk tkX8_isMuted 16 rfl) (by decide) ?_
      refine pw_goto (tgt := 36) (tk tkX8_isMuted 17 rfl) (by decide) ?_
      refine pw_ireturn (tk tkX8_isMuted 19 rfl) rfl (by decide) (by first | rfl | exact nar_bI _) ?_
      have e : sisMuted (aOf x.2.1) r = (0, 1, aOf x.2.1) := (if_neg (ne_f c6)).trans (if_pos (by rw [er2]; exact c28))
      rw [e]
      exact ⟨_, rfl, rfl, rfl, rfl, rfl, hx, AE.rf _⟩
def sloggedRule (a : AM) (r : Int32) : RS3 := if inR r 0 (aS a 99 - 1) = false then (1, 0, a) else (0, aS a (100 + r.toNatClampNeg), a)
set_option maxRecDepth 100000 in
set_option maxHeartbeats 4000000 in
theorem ct_X8_loggedRule (x : XW) (hx : VM x.2.1) (r : Int32) : CT MX8_loggedRule 3 0 [.ref 171, .int r] (hp x) (MOQ x (sloggedRule (aOf x.2.1) r)) := by
  refine ct_of (by decide +kernel) (by decide) rfl (k := 0) (ls := [some (.ref 171), some (.int r)]) rfl (Nat.le_of_ble_eq_true rfl) ?_
  obtain ⟨hu, hu8⟩ := hx.u
  obtain ⟨l, hl, el⟩ := hx.l
  refine pw_aload_n (tk tkX8_loggedRule 0 rfl) rfl ?_
  refine pw_iload_n (tk tkX8_loggedRule 1 rfl) rfl ?_
  refine pw_iconst (v := 0) (tk tkX8_loggedRule 2 rfl) (by decide) ?_
  refine pw_aload_n (tk tkX8_loggedRule 3 rfl) rfl ?_
  refine g8_s (tk tkX8_loggedRule 4 rfl) fkX8_7 ?_
  refine pw_bipush (v := 99) (tk tkX8_loggedRule 5 rfl) (by decide) ?_
  refine al_s_e (e := 99) (tk tkX8_loggedRule 6 rfl) (by first | rfl | simp only [lit_nI, nI_add, pk_mul]) (by first | decide | omega) ?_
  refine pw_iconst (v := 1) (tk tkX8_loggedRule 7 rfl) (by decide) ?_
  refine pw_isub (tk tkX8_loggedRule 8 rfl) ?_
  refine pw_cS (ct_X8_in _ _ _ _) okX8_in (tk tkX8_loggedRule 9 rfl) mkX8_32 stX8_in rfl rfl (by decide) (by decide) (Nat.le_of_ble_eq_true rfl) ?_
  refine pw_ifb (tgt := 22) (tk tkX8_loggedRule 10 rfl) (by decide) (fun c15 => ?_) (fun c15 => ?_)
  · refine pw_iconst (v := 1) (tk tkX8_loggedRule 13 rfl) (by decide) ?_
    refine pw_cV (ct_X8_holds x _) okX8_holds (tk tkX8_loggedRule 14 rfl) mkX8_97 imX8_holds seX8_holds (hp_ot _ 11) rfl rfl rfl (by decide) (by decide) (Nat.le_of_ble_eq_true rfl) ?_
    refine pw_ifb (tgt := 41) (tk tkX8_loggedRule 15 rfl) (by decide) (fun c26 => ?_) (fun c26 => absurd c26 (by decide))
    refine pw_iconst (v := 0) (tk tkX8_loggedRule 23 rfl) (by decide) ?_
    refine pw_ireturn (tk tkX8_loggedRule 24 rfl) rfl (by decide) rfl ?_
    have e : sloggedRule (aOf x.2.1) r = (1, 0, aOf x.2.1) := (if_pos c15)
    rw [e]
    exact ⟨_, rfl, rfl, rfl, rfl, rfl, hx, AE.rf _⟩
  · refine pw_iconst (v := 0) (tk tkX8_loggedRule 11 rfl) (by decide) ?_
    refine pw_goto (tgt := 23) (tk tkX8_loggedRule 12 rfl) (by decide) ?_
    refine pw_cV (ct_X8_holds x _) okX8_holds (tk tkX8_loggedRule 14 rfl) mkX8_97 imX8_holds seX8_holds (hp_ot _ 11) rfl rfl rfl (by decide) (by decide) (Nat.le_of_ble_eq_true rfl) ?_
    refine pw_ifb (tgt := 41) (tk tkX8_loggedRule 15 rfl) (by decide) (fun c26 => absurd c26 (by decide)) (fun c26 => ?_)
    obtain ⟨r1, hr, er, er2⟩ := inR_lt el (by omega) c15
    refine pw_aload_n (tk tkX8_loggedRule 16 rfl) rfl ?_
    refine g8_s (tk tkX8_loggedRule 17 rfl) fkX8_7 ?_
    refine pw_bipush (v := 100) (tk tkX8_loggedRule 18 rfl) (by decide) ?_
    refine pw_iload_n (tk tkX8_loggedRule 19 rfl) rfl ?_
    refine pw_iadd (tk tkX8_loggedRule 20 rfl) ?_
    refine al_s_e (e := 100 + r1) (tk tkX8_loggedRule 21 rfl) (by rw [er]; simp only [lit_nI, nI_add]) (by first | decide | omega) ?_
    refine pw_goto (tgt := 42) (tk tkX8_loggedRule 22 rfl) (by decide) ?_
    refine pw_ireturn (tk tkX8_loggedRule 24 rfl) rfl (by decide) rfl ?_
    have e : sloggedRule (aOf x.2.1) r = (0, mS x.2.1 (100 + r1), aOf x.2.1) := (if_neg (ne_f c15)).trans (by rw [er2]; rfl)
    rw [e]
    exact ⟨_, rfl, rfl, rfl, rfl, rfl, hx, AE.rf _⟩
def sloggedDepth (a : AM) (r : Int32) : RS3 := if inR r 0 (aS a 99 - 1) = false then (1, 0, a) else (0, aS a (116 + r.toNatClampNeg), a)
set_option maxRecDepth 100000 in
set_option maxHeartbeats 4000000 in
theorem ct_X8_loggedDepth (x : XW) (hx : VM x.2.1) (r : Int32) : CT MX8_loggedDepth 3 0 [.ref 171, .int r] (hp x) (MOQ x (sloggedDepth (aOf x.2.1) r)) := by
  refine ct_of (by decide +kernel) (by decide) rfl (k := 0) (ls := [some (.ref 171), some (.int r)]) rfl (Nat.le_of_ble_eq_true rfl) ?_
  obtain ⟨hu, hu8⟩ := hx.u
  obtain ⟨l, hl, el⟩ := hx.l
  refine pw_aload_n (tk tkX8_loggedDepth 0 rfl) rfl ?_
  refine pw_iload_n (tk tkX8_loggedDepth 1 rfl) rfl ?_
  refine pw_iconst (v := 0) (tk tkX8_loggedDepth 2 rfl) (by decide) ?_
  refine pw_aload_n (tk tkX8_loggedDepth 3 rfl) rfl ?_
  refine g8_s (tk tkX8_loggedDepth 4 rfl) fkX8_7 ?_
  refine pw_bipush (v := 99) (tk tkX8_loggedDepth 5 rfl) (by decide) ?_
  refine al_s_e (e := 99) (tk tkX8_loggedDepth 6 rfl) (by first | rfl | simp only [lit_nI, nI_add, pk_mul]) (by first | decide | omega) ?_
  refine pw_iconst (v := 1) (tk tkX8_loggedDepth 7 rfl) (by decide) ?_
  refine pw_isub (tk tkX8_loggedDepth 8 rfl) ?_
  refine pw_cS (ct_X8_in _ _ _ _) okX8_in (tk tkX8_loggedDepth 9 rfl) mkX8_32 stX8_in rfl rfl (by decide) (by decide) (Nat.le_of_ble_eq_true rfl) ?_
  refine pw_ifb (tgt := 22) (tk tkX8_loggedDepth 10 rfl) (by decide) (fun c15 => ?_) (fun c15 => ?_)
  · refine pw_iconst (v := 1) (tk tkX8_loggedDepth 13 rfl) (by decide) ?_
    refine pw_cV (ct_X8_holds x _) okX8_holds (tk tkX8_loggedDepth 14 rfl) mkX8_97 imX8_holds seX8_holds (hp_ot _ 11) rfl rfl rfl (by decide) (by decide) (Nat.le_of_ble_eq_true rfl) ?_
    refine pw_ifb (tgt := 41) (tk tkX8_loggedDepth 15 rfl) (by decide) (fun c26 => ?_) (fun c26 => absurd c26 (by decide))
    refine pw_iconst (v := 0) (tk tkX8_loggedDepth 23 rfl) (by decide) ?_
    refine pw_ireturn (tk tkX8_loggedDepth 24 rfl) rfl (by decide) rfl ?_
    have e : sloggedDepth (aOf x.2.1) r = (1, 0, aOf x.2.1) := (if_pos c15)
    rw [e]
    exact ⟨_, rfl, rfl, rfl, rfl, rfl, hx, AE.rf _⟩
  · refine pw_iconst (v := 0) (tk tkX8_loggedDepth 11 rfl) (by decide) ?_
    refine pw_goto (tgt := 23) (tk tkX8_loggedDepth 12 rfl) (by decide) ?_
    refine pw_cV (ct_X8_holds x _) okX8_holds (tk tkX8_loggedDepth 14 rfl) mkX8_97 imX8_holds seX8_holds (hp_ot _ 11) rfl rfl rfl (by decide) (by decide) (Nat.le_of_ble_eq_true rfl) ?_
    refine pw_ifb (tgt := 41) (tk tkX8_loggedDepth 15 rfl) (by decide) (fun c26 => absurd c26 (by decide)) (fun c26 => ?_)
    obtain ⟨r1, hr, er, er2⟩ := inR_lt el (by omega) c15
    refine pw_aload_n (tk tkX8_loggedDepth 16 rfl) rfl ?_
    refine g8_s (tk tkX8_loggedDepth 17 rfl) fkX8_7 ?_
    refine pw_bipush (v := 116) (tk tkX8_loggedDepth 18 rfl) (by decide) ?_
    refine pw_iload_n (tk tkX8_loggedDepth 19 rfl) rfl ?_
    refine pw_iadd (tk tkX8_loggedDepth 20 rfl) ?_
    refine al_s_e (e := 116 + r1) (tk tkX8_loggedDepth 21 rfl) (by rw [er]; simp only [lit_nI, nI_add]) (by first | decide | omega) ?_
    refine pw_goto (tgt := 42) (tk tkX8_loggedDepth 22 rfl) (by decide) ?_
    refine pw_ireturn (tk tkX8_loggedDepth 24 rfl) rfl (by decide) rfl ?_
    have e : sloggedDepth (aOf x.2.1) r = (0, mS x.2.1 (116 + r1), aOf x.2.1) := (if_neg (ne_f c15)).trans (by rw [er2]; rfl)
    rw [e]
    exact ⟨_, rfl, rfl, rfl, rfl, rfl, hx, AE.rf _⟩
def sruleCount (a : AM)  : RS3 := (0, aS a 25, a)
set_option maxRecDepth 100000 in
set_option maxHeartbeats 4000000 in
theorem ct_X8_ruleCount (x : XW) (hx : VM x.2.1)  : CT MX8_ruleCount 3 0 [.ref 171] (hp x) (MOQ x (sruleCount (aOf x.2.1) )) := by
  refine ct_of (by decide +kernel) (by decide) rfl (k := 0) (ls := [some (.ref 171)]) rfl (Nat.le_of_ble_eq_true rfl) ?_
  obtain ⟨hu, hu8⟩ := hx.u
  obtain ⟨l, hl, el⟩ := hx.l
  refine pw_aload_n (tk tkX8_ruleCount 0 rfl) rfl ?_
  refine pw_iconst (v := 0) (tk tkX8_ruleCount 1 rfl) (by decide) ?_
  refine p8_thrown (tk tkX8_ruleCount 2 rfl) fkX8_28 ?_
  refine pw_aload_n (tk tkX8_ruleCount 3 rfl) rfl ?_
  refine g8_s (tk tkX8_ruleCount 4 rfl) fkX8_7 ?_
  refine pw_bipush (v := 25) (tk tkX8_ruleCount 5 rfl) (by decide) ?_
  refine al_s_e (e := 25) (tk tkX8_ruleCount 6 rfl) (by first | rfl | simp only [lit_nI, nI_add, pk_mul]) (by first | decide | omega) ?_
  exact pw_ireturn (tk tkX8_ruleCount 7 rfl) rfl (by decide) rfl ⟨_, rfl, rfl, rfl, rfl, rfl, hx, AE.rf _⟩
def seventCount (a : AM)  : RS3 := (0, aS a 98, a)
set_option maxRecDepth 100000 in
set_option maxHeartbeats 4000000 in
theorem ct_X8_eventCount (x : XW) (hx : VM x.2.1)  : CT MX8_eventCount 3 0 [.ref 171] (hp x) (MOQ x (seventCount (aOf x.2.1) )) := by
  refine ct_of (by decide +kernel) (by decide) rfl (k := 0) (ls := [some (.ref 171)]) rfl (Nat.le_of_ble_eq_true rfl) ?_
  obtain ⟨hu, hu8⟩ := hx.u
  obtain ⟨l, hl, el⟩ := hx.l
  refine pw_aload_n (tk tkX8_eventCount 0 rfl) rfl ?_
  refine pw_iconst (v := 0) (tk tkX8_eventCount 1 rfl) (by decide) ?_
  refine p8_thrown (tk tkX8_eventCount 2 rfl) fkX8_28 ?_
  refine pw_aload_n (tk tkX8_eventCount 3 rfl) rfl ?_
  refine g8_s (tk tkX8_eventCount 4 rfl) fkX8_7 ?_
  refine pw_bipush (v := 98) (tk tkX8_eventCount 5 rfl) (by decide) ?_
  refine al_s_e (e := 98) (tk tkX8_eventCount 6 rfl) (by first | rfl | simp only [lit_nI, nI_add, pk_mul]) (by first | decide | omega) ?_
  exact pw_ireturn (tk tkX8_eventCount 7 rfl) rfl (by decide) rfl ⟨_, rfl, rfl, rfl, rfl, rfl, hx, AE.rf _⟩
def slogSize (a : AM)  : RS3 := (0, aS a 99, a)
set_option maxRecDepth 100000 in
set_option maxHeartbeats 4000000 in
theorem ct_X8_logSize (x : XW) (hx : VM x.2.1)  : CT MX8_logSize 3 0 [.ref 171] (hp x) (MOQ x (slogSize (aOf x.2.1) )) := by
  refine ct_of (by decide +kernel) (by decide) rfl (k := 0) (ls := [some (.ref 171)]) rfl (Nat.le_of_ble_eq_true rfl) ?_
  obtain ⟨hu, hu8⟩ := hx.u
  obtain ⟨l, hl, el⟩ := hx.l
  refine pw_aload_n (tk tkX8_logSize 0 rfl) rfl ?_
  refine pw_iconst (v := 0) (tk tkX8_logSize 1 rfl) (by decide) ?_
  refine p8_thrown (tk tkX8_logSize 2 rfl) fkX8_28 ?_
  refine pw_aload_n (tk tkX8_logSize 3 rfl) rfl ?_
  refine g8_s (tk tkX8_logSize 4 rfl) fkX8_7 ?_
  refine pw_bipush (v := 99) (tk tkX8_logSize 5 rfl) (by decide) ?_
  refine al_s_e (e := 99) (tk tkX8_logSize 6 rfl) (by first | rfl | simp only [lit_nI, nI_add, pk_mul]) (by first | decide | omega) ?_
  exact pw_ireturn (tk tkX8_logSize 7 rfl) rfl (by decide) rfl ⟨_, rfl, rfl, rfl, rfl, rfl, hx, AE.rf _⟩
def srowCount (a : AM)  : RS3 := (0, smN (aS a) 6, a)
set_option maxRecDepth 100000 in
set_option maxHeartbeats 4000000 in
theorem ct_X8_rowCount (x : XW) (hx : VM x.2.1)  : CT MX8_rowCount 3 0 [.ref 171] (hp x) (MOQ x (srowCount (aOf x.2.1) )) := by
  refine ct_of (by decide +kernel) (by decide) rfl (k := 0) (ls := [some (.ref 171)]) rfl (Nat.le_of_ble_eq_true rfl) ?_
  obtain ⟨hu, hu8⟩ := hx.u
  obtain ⟨l, hl, el⟩ := hx.l
  refine pw_aload_n (tk tkX8_rowCount 0 rfl) rfl ?_
  refine pw_iconst (v := 0) (tk tkX8_rowCount 1 rfl) (by decide) ?_
  refine p8_thrown (tk tkX8_rowCount 2 rfl) fkX8_28 ?_
  refine pw_aload_n (tk tkX8_rowCount 3 rfl) rfl ?_
  refine pw_cV (ct_X8_rowsNow _) okX8_rowsNow (tk tkX8_rowCount 4 rfl) mkX8_121 imX8_rowsNow seX8_rowsNow (hp_ot _ 11) rfl rfl rfl (by decide) (by decide) (Nat.le_of_ble_eq_true rfl) ?_
  exact pw_ireturn (tk tkX8_rowCount 5 rfl) rfl (by decide) rfl ⟨_, rfl, rfl, rfl, rfl, rfl, hx, AE.rf _⟩
def stextLength (a : AM)  : RS3 := (0, nI (aN a), a)
set_option maxRecDepth 100000 in
set_option maxHeartbeats 4000000 in
theorem ct_X8_textLength (x : XW) (hx : VM x.2.1)  : CT MX8_textLength 3 0 [.ref 171] (hp x) (MOQ x (stextLength (aOf x.2.1) )) := by
  refine ct_of (by decide +kernel) (by decide) rfl (k := 0) (ls := [some (.ref 171)]) rfl (Nat.le_of_ble_eq_true rfl) ?_
  obtain ⟨hu, hu8⟩ := hx.u
  obtain ⟨l, hl, el⟩ := hx.l
  refine pw_aload_n (tk tkX8_textLength 0 rfl) rfl ?_
  refine pw_iconst (v := 0) (tk tkX8_textLength 1 rfl) (by decide) ?_
  refine p8_thrown (tk tkX8_textLength 2 rfl) fkX8_28 ?_
  refine pw_aload_n (tk tkX8_textLength 3 rfl) rfl ?_
  refine g8_length (tk tkX8_textLength 4 rfl) fkX8_141 ?_
  exact pw_ireturn (tk tkX8_textLength 5 rfl) rfl (by decide) rfl ⟨_, rfl, rfl, rfl, rfl, congrArg (fun z => Sum.inl (some (Value.int z))) hx.2.2.1, hx, AE.rf _⟩
def sundoCount (a : AM)  : RS3 := (0, nI (aK a), a)
set_option maxRecDepth 100000 in
set_option maxHeartbeats 4000000 in
theorem ct_X8_undoCount (x : XW) (hx : VM x.2.1)  : CT MX8_undoCount 3 0 [.ref 171] (hp x) (MOQ x (sundoCount (aOf x.2.1) )) := by
  refine ct_of (by decide +kernel) (by decide) rfl (k := 0) (ls := [some (.ref 171)]) rfl (Nat.le_of_ble_eq_true rfl) ?_
  obtain ⟨hu, hu8⟩ := hx.u
  obtain ⟨l, hl, el⟩ := hx.l
  refine pw_aload_n (tk tkX8_undoCount 0 rfl) rfl ?_
  refine pw_iconst (v := 0) (tk tkX8_undoCount 1 rfl) (by decide) ?_
  refine p8_thrown (tk tkX8_undoCount 2 rfl) fkX8_28 ?_
  refine pw_aload_n (tk tkX8_undoCount 3 rfl) rfl ?_
  refine g8_known (tk tkX8_undoCount 4 rfl) fkX8_36 ?_
  exact pw_ireturn (tk tkX8_undoCount 5 rfl) rfl (by decide) rfl ⟨_, rfl, rfl, rfl, rfl, congrArg (fun z => Sum.inl (some (Value.int z))) hx.1, hx, AE.rf _⟩
