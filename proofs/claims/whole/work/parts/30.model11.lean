def zrN (k p : Nat) (f : Nat → Int32) : Nat → Int32 := fun j => if p ≤ j ∧ j < p + k then 0 else f j
theorem zrN_0 (p : Nat) (f : Nat → Int32) : zrN 0 p f = f := by funext j; unfold zrN; rw [if_neg (by omega)]
theorem zrN_s (k p : Nat) (f : Nat → Int32) : upd (zrN k p f) (p + k) 0 = zrN (k + 1) p f := by
  funext j
  unfold zrN upd
  by_cases e : j = p + k
  · subst e; rw [if_pos rfl, if_pos (by omega)]
  · rw [if_neg e]
    dsimp only
    by_cases e2 : p ≤ j ∧ j < p + k
    · rw [if_pos e2, if_pos (by omega)]
    · rw [if_neg e2, if_neg (by omega)]
def newR (s : Nat → Int32) (u : Nat) (e c l : Int32) : Nat → Int32 := upd (upd (upd (upd (zrN 9 (26 + 9 * u) s) (26 + 9 * u) e) (26 + 9 * u + 1) c) (26 + 9 * u + 2) l) 25 (nI (u + 1))
theorem newR_nt (s : Nat → Int32) (u : Nat) (e c l : Int32) {j : Nat} (h : j ≠ 25) (h2 : j < 26 + 9 * u ∨ 26 + 9 * u + 9 ≤ j) : newR s u e c l j = s j := by
  unfold newR; rw [upd_nt _ _ h, upd_nt _ _ (by omega), upd_nt _ _ (by omega), upd_nt _ _ (by omega)]; unfold zrN; rw [if_neg (by omega)]
theorem newR_z (s : Nat → Int32) (u : Nat) (e c l : Int32) {k : Nat} (h : 3 ≤ k) (h9 : k < 9) : newR s u e c l (26 + 9 * u + k) = 0 := by
  unfold newR; rw [upd_nt _ _ (by omega), upd_nt _ _ (by omega), upd_nt _ _ (by omega), upd_nt _ _ (by omega)]; unfold zrN; rw [if_pos (by omega)]
theorem newR_VS {s : Nat → Int32} {u : Nat} (h : VS u s) (e c l : Int32) (h8 : u < 8) (hc : inR c 0 2 = true) : VS (uN (newR s u e c l)) (newR s u e c l) := by
  have e25 : newR s u e c l 25 = nI (u + 1) := upd_at _ _ _
  have eu : uN (newR s u e c l) = u + 1 := by unfold uN; rw [e25, nI_clamp (by omega)]
  obtain ⟨c1, hc1, ec1, _⟩ := inR_col hc
  rw [eu]
  obtain ⟨b1, b2, b3, b4, b5, b6⟩ := h
  refine ⟨by omega, e25, (by rw [newR_nt _ _ _ _ _ (by omega) (by omega)]; exact b3), (by rw [newR_nt _ _ _ _ _ (by omega) (by omega)]; exact b4), fun j hj => by rw [newR_nt _ _ _ _ _ (by omega) (by omega)]; exact b5 j hj, fun i hi => ?_⟩
  by_cases q : i = u
  · subst q
    unfold rN
    rw [newR_z s i e c l (k := 4) (by omega) (by omega), newR_z s i e c l (k := 5) (by omega) (by omega), newR_z s i e c l (k := 7) (by omega) (by omega), newR_z s i e c l (k := 3) (by omega) (by omega)]
    refine ⟨⟨c1, hc1, ?_⟩, ⟨0, by omega, rfl⟩, ⟨0, by omega, rfl⟩, .inl rfl, .inl rfl⟩
    unfold newR
    rw [upd_nt _ _ (by omega), upd_nt _ _ (by omega), upd_at]
    exact ec1
  · have g : ∀ w, w < 9 → rN (newR s u e c l) i w = rN s i w := fun w hw => newR_nt _ _ _ _ _ (by omega) (by omega)
    rw [g 1 (by omega), g 4 (by omega), g 5 (by omega), g 7 (by omega), g 3 (by omega)]
    exact b6 i (by omega)
theorem VS.E {u : Nat} {s t : Nat → Int32} (h : VS u s) (e : E132 s t) : VS u t := by
  obtain ⟨b1, b2, b3, b4, b5, b6⟩ := h
  refine ⟨b1, by rw [← e 25 (by omega)]; exact b2, (by rw [← e 24 (by omega)]; exact b3), (by rw [← e 99 (by omega)]; exact b4), fun j hj => by rw [← e j (by omega)]; exact b5 j hj, fun i hi => ?_⟩
  have g : ∀ w, w < 9 → rN t i w = rN s i w := fun w hw => (e _ (by omega)).symm
  rw [g 1 (by omega), g 4 (by omega), g 5 (by omega), g 7 (by omega), g 3 (by omega)]
  exact b6 i hi
theorem uN_E {s t : Nat → Int32} (e : E132 s t) : uN t = uN s := by unfold uN; rw [e 25 (by omega)]
theorem VS.EE {s t : Nat → Int32} (h : VS (uN s) s) (e : E132 s t) : VS (uN t) t := by rw [uN_E e]; exact h.E e
/-- what is recorded and saved is as the numbers are -/
def VA (a : AM) : Prop := (∀ i, i < aK a → VS (uN (aH a i)) (aH a i)) ∧ ∀ i, i < 2 → aB a i = true → VS (uN (aL a i)) (aL a i)
def saddRule (a : AM) (e c l : Int32) : RS3 := if inR e 0 2 = false then (1, 0, a) else if inR c 0 2 = false then (1, 0, a) else if inR l 0 999 = false then (1, 0, a) else if aS a 25 = 8 then (2, 0, a) else (0, nI (uN (aS a)), (newR (aS a) (uN (aS a)) e c l, recH a (aS a), a.2.2))
set_option maxRecDepth 100000 in
set_option maxHeartbeats 4000000 in
theorem ct_X8_addRule (x : XW) (hx : VM x.2.1) (e c l : Int32) : CT MX8_addRule 3 0 [.ref 171, .int e, .int c, .int l] (hp x) (MOQ x (saddRule (aOf x.2.1) e c l)) := by
  refine ct_of (by decide +kernel) (by decide) rfl (k := 2) (ls := [some (.ref 171), some (.int e), some (.int c), some (.int l), none, none]) rfl (Nat.le_of_ble_eq_true rfl) ?_
  obtain ⟨hu, hu8⟩ := hx.u
  obtain ⟨l99, hl, el⟩ := hx.l
  have hv : VS (uN (mS x.2.1)) (mS x.2.1) := hx.2.2.2.2.2
  obtain ⟨u, eu⟩ : ∃ u, u = uN (mS x.2.1) := ⟨_, rfl⟩
  rw [← eu] at hu hu8 hv
  have J129 : ∀ f3, f3 = (upd (upd (upd (zrN 9 (26 + 9 * u) (mS x.2.1)) (26 + 9 * u) e) (26 + 9 * u + 1) c) (26 + 9 * u + 2) l) → u < 8 → inR c 0 2 = true → saddRule (aOf x.2.1) e c l = (0, nI u, (newR (mS x.2.1) u e c l, recH (aOf x.2.1) (mS x.2.1), (aOf x.2.1).2.2)) → PW MX8_addRule 3 0 129 [some (.ref 171), some (.int e), some (.int c), some (.int l), some (.int (nI (26 + 9 * u))), some (.int (nI 9))] [] (hp (uM1 (xRec (xThr x 0) (aK (aOf x.2.1))) f3)) (MOQ x (saddRule (aOf x.2.1) e c l)) := by
    intro f3 hf h8 hc2 he
    have e25 : f3 25 = nI u := by rw [hf, upd_nt _ _ (by omega), upd_nt _ _ (by omega), upd_nt _ _ (by omega)]; unfold zrN; rw [if_neg (by omega)]; exact hu
    refine pw_aload_n (tk tkX8_addRule 73 rfl) rfl ?_
    refine g8_s (tk tkX8_addRule 74 rfl) fkX8_7 ?_
    refine pw_bipush (v := 25) (tk tkX8_addRule 75 rfl) (by decide) ?_
    refine pw_dup2 (tk tkX8_addRule 76 rfl) rfl rfl ?_
    refine al_s_e (e := 25) (tk tkX8_addRule 77 rfl) rfl (by first | decide | omega) ?_
    refine pw_iconst (v := 1) (tk tkX8_addRule 78 rfl) (by decide) ?_
    refine pw_iadd (tk tkX8_addRule 79 rfl) ?_
    rw [show mS (uM1 (xRec (xThr x 0) (aK (aOf x.2.1))) f3).2.1 25 + 1 = nI (u + 1) from by rw [← nI_1 u]; exact congrArg (· + 1) e25]
    refine as_s_e (e := 25) (tk tkX8_addRule 80 rfl) rfl (by first | decide | omega) ?_
    refine pw_aload_n (tk tkX8_addRule 81 rfl) rfl ?_
    refine g8_s (tk tkX8_addRule 82 rfl) fkX8_7 ?_
    refine pw_bipush (v := 25) (tk tkX8_addRule 83 rfl) (by decide) ?_
    refine al_s_e (e := 25) (tk tkX8_addRule 84 rfl) rfl (by first | decide | omega) ?_
    refine pw_iconst (v := 1) (tk tkX8_addRule 85 rfl) (by decide) ?_
    refine pw_isub (tk tkX8_addRule 86 rfl) ?_
    refine pw_ireturn (tk tkX8_addRule 87 rfl) rfl (by decide) rfl ?_
    have e9 : (nI (u + 1)) - 1 = nI u := nI_pred u
    have q := MOQ.rc hx (newR (mS x.2.1) u e c l) (nI u) (newR_VS hv e c l h8 hc2) he
    rw [← e9] at q
    subst hf
    exact q
  have L : ∀ k i, i + k = 9 → ∀ (y : XW) (hy : y = uM1 (xRec (xThr x 0) (aK (aOf x.2.1))) (zrN i (26 + 9 * u) (mS x.2.1))) (h8 : u < 8) (hc2 : inR c 0 2 = true) (he : saddRule (aOf x.2.1) e c l = (0, nI u, (newR (mS x.2.1) u e c l, recH (aOf x.2.1) (mS x.2.1), (aOf x.2.1).2.2))), PW MX8_addRule 3 0 75 [some (.ref 171), some (.int e), some (.int c), some (.int l), some (.int (nI (26 + 9 * u))), some (.int (nI i))] [] (hp y) (MOQ x (saddRule (aOf x.2.1) e c l)) := by
    intro k
    induction k with
    | zero =>
      intro i hi y hy h8 hc2 he
      have ei : i = 9 := by omega
      rw [ei]
      refine pw_iload (tk tkX8_addRule 40 rfl) rfl ?_
      refine pw_bipush (v := 9) (tk tkX8_addRule 41 rfl) (by decide) ?_
      refine pw_icmp_ge (tgt := 99) (tk tkX8_addRule 42 rfl) (by decide) (fun c79 => ?_) (fun c79 => absurd (Int32.le_refl _) c79)
      rw [ei] at hy
      subst hy
      refine pw_aload_n (tk tkX8_addRule 52 rfl) rfl ?_
      refine g8_s (tk tkX8_addRule 53 rfl) fkX8_7 ?_
      refine pw_iload (tk tkX8_addRule 54 rfl) rfl ?_
      refine pw_iconst (v := 0) (tk tkX8_addRule 55 rfl) (by decide) ?_
      refine pw_iadd (tk tkX8_addRule 56 rfl) ?_
      refine pw_iload_n (tk tkX8_addRule 57 rfl) rfl ?_
      refine as_s_e (e := 26 + 9 * u) (tk tkX8_addRule 58 rfl) (Int32.add_zero _) (by first | decide | omega) ?_
      refine pw_aload_n (tk tkX8_addRule 59 rfl) rfl ?_
      refine g8_s (tk tkX8_addRule 60 rfl) fkX8_7 ?_
      refine pw_iload (tk tkX8_addRule 61 rfl) rfl ?_
      refine pw_iconst (v := 1) (tk tkX8_addRule 62 rfl) (by decide) ?_
      refine pw_iadd (tk tkX8_addRule 63 rfl) ?_
      refine pw_iload_n (tk tkX8_addRule 64 rfl) rfl ?_
      refine as_s_e (e := 26 + 9 * u + 1) (tk tkX8_addRule 65 rfl) (by simp only [lit_nI, nI_add]) (by first | decide | omega) ?_
      refine pw_aload_n (tk tkX8_addRule 66 rfl) rfl ?_
      refine g8_s (tk tkX8_addRule 67 rfl) fkX8_7 ?_
      refine pw_iload (tk tkX8_addRule 68 rfl) rfl ?_
      refine pw_iconst (v := 2) (tk tkX8_addRule 69 rfl) (by decide) ?_
      refine pw_iadd (tk tkX8_addRule 70 rfl) ?_
      refine pw_iload_n (tk tkX8_addRule 71 rfl) rfl ?_
      refine as_s_e (e := 26 + 9 * u + 2) (tk tkX8_addRule 72 rfl) (by simp only [lit_nI, nI_add]) (by first | decide | omega) ?_
      exact J129 _ rfl h8 hc2 he
    | succ k ih =>
      intro i hi y hy h8 hc2 he
      refine pw_iload (tk tkX8_addRule 40 rfl) rfl ?_
      refine pw_bipush (v := 9) (tk tkX8_addRule 41 rfl) (by decide) ?_
      refine pw_icmp_ge (tgt := 99) (tk tkX8_addRule 42 rfl) (by decide) (fun c79 => absurd c79 (nI_ge (b := 9) (by omega) (by decide))) (fun c79 => ?_)
      refine pw_aload_n (tk tkX8_addRule 43 rfl) rfl ?_
      refine g8_s (tk tkX8_addRule 44 rfl) fkX8_7 ?_
      refine pw_iload (tk tkX8_addRule 45 rfl) rfl ?_
      refine pw_iload (tk tkX8_addRule 46 rfl) rfl ?_
      refine pw_iadd (tk tkX8_addRule 47 rfl) ?_
      refine pw_iconst (v := 0) (tk tkX8_addRule 48 rfl) (by decide) ?_
      refine as_s_e (e := 26 + 9 * u + i) (tk tkX8_addRule 49 rfl) (by simp only [nI_add]) (by first | decide | omega) ?_
      refine pw_inc5 (tk tkX8_addRule 50 rfl) rfl (by decide) (nI_1 i) ?_
      refine pw_goto (tgt := 75) (tk tkX8_addRule 51 rfl) (by decide) ?_
      refine ih (i + 1) (by omega) _ ?_ h8 hc2 he
      rw [hy]
      show uM1 (xRec (xThr x 0) (aK (aOf x.2.1))) (upd (zrN i (26 + 9 * u) (mS x.2.1)) (26 + 9 * u + i) 0) = _
      rw [zrN_s]
  refine pw_aload_n (tk tkX8_addRule 0 rfl) rfl ?_
  refine pw_iload_n (tk tkX8_addRule 1 rfl) rfl ?_
  refine pw_iconst (v := 0) (tk tkX8_addRule 2 rfl) (by decide) ?_
  refine pw_iconst (v := 2) (tk tkX8_addRule 3 rfl) (by decide) ?_
  refine pw_cS (ct_X8_in _ _ _ _) okX8_in (tk tkX8_addRule 4 rfl) mkX8_32 stX8_in rfl rfl (by decide) (by decide) (Nat.le_of_ble_eq_true rfl) ?_
  refine pw_ifb (tgt := 24) (tk tkX8_addRule 5 rfl) (by decide) (fun c7 => ?_) (fun c7 => ?_)
  · refine pw_iconst (v := 1) (tk tkX8_addRule 12 rfl) (by decide) ?_
    refine pw_goto (tgt := 45) (tk tkX8_addRule 13 rfl) (by decide) ?_
    refine pw_cV (ct_X8_holds x _) okX8_holds (tk tkX8_addRule 23 rfl) mkX8_97 imX8_holds seX8_holds (hp_ot _ 11) rfl rfl rfl (by decide) (by decide) (Nat.le_of_ble_eq_true rfl) ?_
    refine pw_ifnb (tgt := 53) (tk tkX8_addRule 24 rfl) (by decide) (fun c48 => absurd c48 (by decide)) (fun c48 => ?_)
    refine pw_iconst (v := 0) (tk tkX8_addRule 25 rfl) (by decide) ?_
    refine pw_ireturn (tk tkX8_addRule 26 rfl) rfl (by decide) rfl ?_
    have e : saddRule (aOf x.2.1) e c l = (1, 0, aOf x.2.1) := (if_pos c7)
    rw [e]
    exact ⟨_, rfl, rfl, rfl, rfl, rfl, hx, AE.rf _⟩
  · refine pw_iload_n (tk tkX8_addRule 6 rfl) rfl ?_
    refine pw_cS (ct_X8_isColumn _ _) okX8_isColumn (tk tkX8_addRule 7 rfl) mkX8_94 stX8_isColumn rfl rfl (by decide) (by decide) (Nat.le_of_ble_eq_true rfl) ?_
    refine pw_ifb (tgt := 24) (tk tkX8_addRule 8 rfl) (by decide) (fun c14 => ?_) (fun c14 => ?_)
    · refine pw_iconst (v := 1) (tk tkX8_addRule 12 rfl) (by decide) ?_
      refine pw_goto (tgt := 45) (tk tkX8_addRule 13 rfl) (by decide) ?_
      refine pw_cV (ct_X8_holds x _) okX8_holds (tk tkX8_addRule 23 rfl) mkX8_97 imX8_holds seX8_holds (hp_ot _ 11) rfl rfl rfl (by decide) (by decide) (Nat.le_of_ble_eq_true rfl) ?_
      refine pw_ifnb (tgt := 53) (tk tkX8_addRule 24 rfl) (by decide) (fun c48 => absurd c48 (by decide)) (fun c48 => ?_)
      refine pw_iconst (v := 0) (tk tkX8_addRule 25 rfl) (by decide) ?_
      refine pw_ireturn (tk tkX8_addRule 26 rfl) rfl (by decide) rfl ?_
      have e : saddRule (aOf x.2.1) e c l = (1, 0, aOf x.2.1) := ((if_neg (ne_f c7)).trans (if_pos c14))
      rw [e]
      exact ⟨_, rfl, rfl, rfl, rfl, rfl, hx, AE.rf _⟩
    · refine pw_iload_n (tk tkX8_addRule 9 rfl) rfl ?_
      refine pw_cS (ct_X8_isValue _ _) okX8_isValue (tk tkX8_addRule 10 rfl) mkX8_76 stX8_isValue rfl rfl (by decide) (by decide) (Nat.le_of_ble_eq_true rfl) ?_
      refine pw_ifnb (tgt := 28) (tk tkX8_addRule 11 rfl) (by decide) (fun c21 => ?_) (fun c21 => ?_)
      · refine pw_aload_n (tk tkX8_addRule 14 rfl) rfl ?_
        refine g8_s (tk tkX8_addRule 15 rfl) fkX8_7 ?_
        refine pw_bipush (v := 25) (tk tkX8_addRule 16 rfl) (by decide) ?_
        refine al_s_e (e := 25) (tk tkX8_addRule 17 rfl) (by first | rfl | simp only [lit_nI, nI_add, pk_mul]) (by first | decide | omega) ?_
        refine pw_bipush (v := 8) (tk tkX8_addRule 18 rfl) (by decide) ?_
        refine pw_icmp_ne (tgt := 44) (tk tkX8_addRule 19 rfl) (by decide) (fun c37 => ?_) (fun c37 => ?_)
        · refine pw_iconst (v := 0) (tk tkX8_addRule 22 rfl) (by decide) ?_
          refine pw_cV (ct_X8_holds x _) okX8_holds (tk tkX8_addRule 23 rfl) mkX8_97 imX8_holds seX8_holds (hp_ot _ 11) rfl rfl rfl (by decide) (by decide) (Nat.le_of_ble_eq_true rfl) ?_
          refine pw_ifnb (tgt := 53) (tk tkX8_addRule 24 rfl) (by decide) (fun c48 => ?_) (fun c48 => absurd c48 (by decide))
          refine pw_aload_n (tk tkX8_addRule 27 rfl) rfl ?_
          refine pw_cV0 (ct_X8_record (xThr x 0) (aK (aOf x.2.1)) hx.1 hx.2.1) okX8_record (tk tkX8_addRule 28 rfl) mkX8_100 imX8_record seX8_record (hp_ot _ 11) rfl rfl rfl (by decide) (by decide) (Nat.le_of_ble_eq_true rfl) ?_
          rw [xRec_eq x]
          refine pw_bipush (v := 26) (tk tkX8_addRule 29 rfl) (by decide) ?_
          refine pw_bipush (v := 9) (tk tkX8_addRule 30 rfl) (by decide) ?_
          refine pw_aload_n (tk tkX8_addRule 31 rfl) rfl ?_
          refine g8_s (tk tkX8_addRule 32 rfl) fkX8_7 ?_
          refine pw_bipush (v := 25) (tk tkX8_addRule 33 rfl) (by decide) ?_
          refine al_s_e (e := 25) (tk tkX8_addRule 34 rfl) (by first | rfl | simp only [lit_nI, nI_add, pk_mul]) (by first | decide | omega) ?_
          refine pw_imul (tk tkX8_addRule 35 rfl) ?_
          refine pw_iadd (tk tkX8_addRule 36 rfl) ?_
          rw [show 26 + 9 * mS (uM1 (xRec (xThr x 0) (aK (aOf x.2.1))) (mS x.2.1)).2.1 25 = nI (26 + 9 * u) from by rw [show mS (uM1 (xRec (xThr x 0) (aK (aOf x.2.1))) (mS x.2.1)).2.1 25 = nI u from hu]; simp only [lit_nI, nI_add, pk_mul]]
          refine pw_ist4 (tk tkX8_addRule 37 rfl) rfl (by decide) ?_
          refine pw_iconst (v := 0) (tk tkX8_addRule 38 rfl) (by decide) ?_
          refine pw_ist5 (tk tkX8_addRule 39 rfl) rfl (by decide) ?_
          have h8 : u < 8 := by have : u ≠ 8 := fun q => c37 (by rw [hu, q]; rfl); omega
          exact L 9 0 (by omega) _ (by rw [zrN_0]) h8 c14 (((if_neg (ne_f c7)).trans ((if_neg (ne_f c14)).trans ((if_neg (ne_f c21)).trans ((if_neg c37).trans (by rw [← show u = uN (aS (aOf x.2.1)) from eu]; rfl))))))
        · refine pw_iconst (v := 2) (tk tkX8_addRule 20 rfl) (by decide) ?_
          refine pw_goto (tgt := 45) (tk tkX8_addRule 21 rfl) (by decide) ?_
          refine pw_cV (ct_X8_holds x _) okX8_holds (tk tkX8_addRule 23 rfl) mkX8_97 imX8_holds seX8_holds (hp_ot _ 11) rfl rfl rfl (by decide) (by decide) (Nat.le_of_ble_eq_true rfl) ?_
          refine pw_ifnb (tgt := 53) (tk tkX8_addRule 24 rfl) (by decide) (fun c48 => absurd c48 (by decide)) (fun c48 => ?_)
          refine pw_iconst (v := 0) (tk tkX8_addRule 25 rfl) (by decide) ?_
          refine pw_ireturn (tk tkX8_addRule 26 rfl) rfl (by decide) rfl ?_
          have e : saddRule (aOf x.2.1) e c l = (2, 0, aOf x.2.1) := ((if_neg (ne_f c7)).trans ((if_neg (ne_f c14)).trans ((if_neg (ne_f c21)).trans (if_pos c37))))
          rw [e]
          exact ⟨_, rfl, rfl, rfl, rfl, rfl, hx, AE.rf _⟩
      · refine pw_iconst (v := 1) (tk tkX8_addRule 12 rfl) (by decide) ?_
        refine pw_goto (tgt := 45) (tk tkX8_addRule 13 rfl) (by decide) ?_
        refine pw_cV (ct_X8_holds x _) okX8_holds (tk tkX8_addRule 23 rfl) mkX8_97 imX8_holds seX8_holds (hp_ot _ 11) rfl rfl rfl (by decide) (by decide) (Nat.le_of_ble_eq_true rfl) ?_
        refine pw_ifnb (tgt := 53) (tk tkX8_addRule 24 rfl) (by decide) (fun c48 => absurd c48 (by decide)) (fun c48 => ?_)
        refine pw_iconst (v := 0) (tk tkX8_addRule 25 rfl) (by decide) ?_
        refine pw_ireturn (tk tkX8_addRule 26 rfl) rfl (by decide) rfl ?_
        have e : saddRule (aOf x.2.1) e c l = (1, 0, aOf x.2.1) := ((if_neg (ne_f c7)).trans ((if_neg (ne_f c14)).trans (if_pos c21)))
        rw [e]
        exact ⟨_, rfl, rfl, rfl, rfl, rfl, hx, AE.rf _⟩
def sundo (a : AM) : RS3 := if aK a = 0 then (1, 0, a) else (0, nI (aK a - 1), (aH a (aK a - 1), (aK a - 1, aH a), a.2.2))
set_option maxRecDepth 100000 in
set_option maxHeartbeats 4000000 in
theorem ct_X8_undo (x : XW) (hx : VM x.2.1) (hA : VA (aOf x.2.1)) : CT MX8_undo 3 0 [.ref 171] (hp x) (MOQ x (sundo (aOf x.2.1) )) := by
  refine ct_of (by decide +kernel) (by decide) rfl (k := 1) (ls := [some (.ref 171), none]) rfl (Nat.le_of_ble_eq_true rfl) ?_
  obtain ⟨hu, hu8⟩ := hx.u
  obtain ⟨l99, hl, el⟩ := hx.l
  have hv : VS (uN (mS x.2.1)) (mS x.2.1) := hx.2.2.2.2.2
  obtain ⟨kn, ek⟩ : ∃ kn, kn = aK (aOf x.2.1) := ⟨_, rfl⟩
  have h4 : mF x.2.1 4 = nI kn := by rw [ek]; exact hx.1
  have h6 : kn ≤ 6 := by rw [ek]; exact hx.2.1
  have L : ∀ k i, i + k = 132 → ∀ (y : XW) (hy : y = uM1 (uM7 (xThr x 0) (upd (mF (xThr x 0).2.1) 4 (nI (kn - 1)))) (cpN i (fun j => mHi x.2.1 (132 * (kn - 1) + j)) (mS x.2.1))) (h0 : 0 < kn), PW MX8_undo 3 0 33 [some (.ref 171), some (.int (nI i))] [] (hp y) (MOQ x (sundo (aOf x.2.1))) := by
    intro k
    induction k with
    | zero =>
      intro i hi y hy h0
      have ei : i = 132 := by omega
      rw [ei]
      refine pw_iload_n (tk tkX8_undo 19 rfl) rfl ?_
      refine pw_sipush (v := 132) (tk tkX8_undo 20 rfl) (by decide) ?_
      refine pw_icmp_ge (tgt := 67) (tk tkX8_undo 21 rfl) (by decide) (fun c37 => ?_) (fun c37 => absurd (Int32.le_refl _) c37)
      rw [ei] at hy
      subst hy
      refine pw_aload_n (tk tkX8_undo 37 rfl) rfl ?_
      refine g8_known (tk tkX8_undo 38 rfl) fkX8_36 ?_
      refine pw_ireturn (tk tkX8_undo 39 rfl) rfl (by decide) rfl ?_
      have es : sundo (aOf x.2.1) = (0, nI (kn - 1), (aH (aOf x.2.1) (kn - 1), (kn - 1, aH (aOf x.2.1)), (aOf x.2.1).2.2)) := by rw [ek]; exact if_neg (by omega)
      rw [es]
      have hE : E132 (aH (aOf x.2.1) (kn - 1)) (cpN 132 (fun j => mHi x.2.1 (132 * (kn - 1) + j)) (mS x.2.1)) := fun j hj => (if_pos hj).symm
      have hK : (nI (kn - 1)).toNatClampNeg = kn - 1 := nI_clamp (by omega)
      have hV := VS.EE (hA.1 (kn - 1) (by omega)) hE
      obtain ⟨v1, v2, v3, v4, v5, v6⟩ := hx
      refine ⟨_, rfl, rfl, rfl, rfl, rfl, ⟨(congrArg nI hK).symm, ?_, v3, v4, v5, hV⟩, hE, hK.symm, fun _ _ _ _ => rfl, fun _ _ => rfl, fun _ _ _ _ _ => rfl, rfl, fun _ _ => rfl⟩
      show (nI (kn - 1)).toNatClampNeg ≤ 6
      rw [hK]; omega
    | succ k ih =>
      intro i hi y hy h0
      refine pw_iload_n (tk tkX8_undo 19 rfl) rfl ?_
      refine pw_sipush (v := 132) (tk tkX8_undo 20 rfl) (by decide) ?_
      refine pw_icmp_ge (tgt := 67) (tk tkX8_undo 21 rfl) (by decide) (fun c37 => absurd c37 (nI_ge (b := 132) (by omega) (by decide))) (fun c37 => ?_)
      refine pw_aload_n (tk tkX8_undo 22 rfl) rfl ?_
      refine g8_s (tk tkX8_undo 23 rfl) fkX8_7 ?_
      refine pw_iload_n (tk tkX8_undo 24 rfl) rfl ?_
      refine pw_aload_n (tk tkX8_undo 25 rfl) rfl ?_
      refine g8_history (tk tkX8_undo 26 rfl) fkX8_16 ?_
      refine pw_sipush (v := 132) (tk tkX8_undo 27 rfl) (by decide) ?_
      refine pw_aload_n (tk tkX8_undo 28 rfl) rfl ?_
      refine g8_known (tk tkX8_undo 29 rfl) fkX8_36 ?_
      refine pw_imul (tk tkX8_undo 30 rfl) ?_
      refine pw_iload_n (tk tkX8_undo 31 rfl) rfl ?_
      refine pw_iadd (tk tkX8_undo 32 rfl) ?_
      refine al_mhist_e (e := 132 * (kn - 1) + i) (tk tkX8_undo 33 rfl) (by subst hy; show 132 * nI (kn - 1) + nI i = _; simp only [lit_nI, nI_add, pk_mul]) (by first | decide | omega) ?_
      refine as_s_e (e := i) (tk tkX8_undo 34 rfl) rfl (by first | decide | omega) ?_
      refine pw_inc1 (tk tkX8_undo 35 rfl) rfl (by decide) (nI_1 i) ?_
      refine pw_goto (tgt := 33) (tk tkX8_undo 36 rfl) (by decide) ?_
      refine ih (i + 1) (by omega) _ ?_ h0
      rw [hy]
      show uM1 (uM7 (xThr x 0) (upd (mF (xThr x 0).2.1) 4 (nI (kn - 1)))) (upd (cpN i (fun j => mHi x.2.1 (132 * (kn - 1) + j)) (mS x.2.1)) i ((fun j => mHi x.2.1 (132 * (kn - 1) + j)) i)) = _
      rw [cpN_s]
  refine pw_aload_n (tk tkX8_undo 0 rfl) rfl ?_
  refine pw_aload_n (tk tkX8_undo 1 rfl) rfl ?_
  refine g8_known (tk tkX8_undo 2 rfl) fkX8_36 ?_
  refine pw_if_le (tgt := 12) (tk tkX8_undo 3 rfl) (by decide) (fun c5 => ?_) (fun c5 => ?_)
  · refine pw_iconst (v := 1) (tk tkX8_undo 6 rfl) (by decide) ?_
    refine pw_cV (ct_X8_holds x _) okX8_holds (tk tkX8_undo 7 rfl) mkX8_97 imX8_holds seX8_holds (hp_ot _ 11) rfl rfl rfl (by decide) (by decide) (Nat.le_of_ble_eq_true rfl) ?_
    refine pw_ifnb (tgt := 21) (tk tkX8_undo 8 rfl) (by decide) (fun c16 => absurd c16 (by decide)) (fun c16 => ?_)
    refine pw_iconst (v := 0) (tk tkX8_undo 9 rfl) (by decide) ?_
    refine pw_ireturn (tk tkX8_undo 10 rfl) rfl (by decide) rfl ?_
    have k0 : kn = 0 := by have q : nI kn ≤ nI 0 := by rw [← h4]; exact c5
                           have := (nI_leI (by omega) (by omega)).mp q; omega
    have e : sundo (aOf x.2.1) = (1, 0, aOf x.2.1) := if_pos (ek.symm.trans k0)
    rw [e]
    exact ⟨_, rfl, rfl, rfl, rfl, rfl, hx, AE.rf _⟩
  · refine pw_iconst (v := 0) (tk tkX8_undo 4 rfl) (by decide) ?_
    refine pw_goto (tgt := 13) (tk tkX8_undo 5 rfl) (by decide) ?_
    refine pw_cV (ct_X8_holds x _) okX8_holds (tk tkX8_undo 7 rfl) mkX8_97 imX8_holds seX8_holds (hp_ot _ 11) rfl rfl rfl (by decide) (by decide) (Nat.le_of_ble_eq_true rfl) ?_
    refine pw_ifnb (tgt := 21) (tk tkX8_undo 8 rfl) (by decide) (fun c16 => ?_) (fun c16 => absurd c16 (by decide))
    refine pw_aload_n (tk tkX8_undo 11 rfl) rfl ?_
    refine pw_dup (tk tkX8_undo 12 rfl) rfl ?_
    refine g8_known (tk tkX8_undo 13 rfl) fkX8_36 ?_
    refine pw_iconst (v := 1) (tk tkX8_undo 14 rfl) (by decide) ?_
    refine pw_isub (tk tkX8_undo 15 rfl) ?_
    rw [show mF (xThr x 0).2.1 4 = nI kn from h4, show nI kn - 1 = nI (kn - 1) from pk_sub (a := kn) (b := 1) (by have : kn ≠ 0 := fun q => c5 (by rw [h4, q]; exact Int32.le_refl _); omega)]
    refine p8_known (tk tkX8_undo 16 rfl) fkX8_36 ?_
    refine pw_iconst (v := 0) (tk tkX8_undo 17 rfl) (by decide) ?_
    refine pw_ist1 (tk tkX8_undo 18 rfl) rfl (by decide) ?_
    exact L 132 0 (by omega) _ (by rw [cpN_0]; rfl) (by have : kn ≠ 0 := fun q => c5 (by rw [h4, q]; exact Int32.le_refl _); omega)
theorem xRec_sl (x : XW) (k : Nat) : mSl (xRec (xThr x 0) k).2.1 = mSl x.2.1 := by
  unfold xRec xRecA
  split <;> rfl
def sloadState (a : AM) (r : Int32) : RS3 := if inR r 0 1 = false then (1, 0, a) else if aB a r.toNatClampNeg = false then (2, 0, a) else (0, smN (aL a r.toNatClampNeg) 6, (aL a r.toNatClampNeg, recH a (aS a), a.2.2))
theorem inR_two {v : Int32} (h : inR v 0 1 = true) : ∃ r, r < 2 ∧ v = nI r ∧ v.toNatClampNeg = r := by
  obtain ⟨r, h1, h2⟩ := inR_nI (n := 1) (by decide) h
  exact ⟨r, by omega, h2, by rw [h2, nI_clamp (by omega)]⟩
theorem bit01 : ∀ (k : Fin 4) (r : Fin 2), (nI k.val >>> (nI r.val &&& 31)) &&& 1 = 0 ∨ (nI k.val >>> (nI r.val &&& 31)) &&& 1 = 1 := by decide +kernel
set_option maxRecDepth 100000 in
set_option maxHeartbeats 4000000 in
theorem ct_X8_loadState (x : XW) (hx : VM x.2.1) (hA : VA (aOf x.2.1)) (r : Int32) : CT MX8_loadState 3 0 [.ref 171, .int r] (hp x) (MOQ x (sloadState (aOf x.2.1) r)) := by
  refine ct_of (by decide +kernel) (by decide) rfl (k := 1) (ls := [some (.ref 171), some (.int r), none]) rfl (Nat.le_of_ble_eq_true rfl) ?_
  obtain ⟨hu, hu8⟩ := hx.u
  obtain ⟨l99, hl, el⟩ := hx.l
  have hv : VS (uN (mS x.2.1)) (mS x.2.1) := hx.2.2.2.2.2
  obtain ⟨k6, hk6, ek6⟩ := hx.2.2.2.2.1
  have L : ∀ k i, i + k = 132 → ∀ (y : XW) (r1 : Nat) (hy : y = uM1 (xRec (xThr x 0) (aK (aOf x.2.1))) (cpN i (aL (aOf x.2.1) r1) (mS x.2.1))) (hr : r1 < 2) (er : r = nI r1) (hb : aB (aOf x.2.1) r1 = true) (he : sloadState (aOf x.2.1) r = (0, smN (aL (aOf x.2.1) r1) 6, (aL (aOf x.2.1) r1, recH (aOf x.2.1) (mS x.2.1), (aOf x.2.1).2.2))), PW MX8_loadState 3 0 44 [some (.ref 171), some (.int r), some (.int (nI i))] [] (hp y) (MOQ x (sloadState (aOf x.2.1) r)) := by
    intro k
    induction k with
    | zero =>
      intro i hi y r1 hy hr er hb he
      have ei : i = 132 := by omega
      rw [ei]
      refine pw_iload_n (tk tkX8_loadState 26 rfl) rfl ?_
      refine pw_sipush (v := 132) (tk tkX8_loadState 27 rfl) (by decide) ?_
      refine pw_icmp_ge (tgt := 75) (tk tkX8_loadState 28 rfl) (by decide) (fun c48 => ?_) (fun c48 => absurd (Int32.le_refl _) c48)
      rw [ei] at hy
      subst hy
      refine pw_aload_n (tk tkX8_loadState 43 rfl) rfl ?_
      refine pw_cV (ct_X8_rowsNow _) okX8_rowsNow (tk tkX8_loadState 44 rfl) mkX8_121 imX8_rowsNow seX8_rowsNow (hp_ot _ 11) rfl rfl rfl (by decide) (by decide) (Nat.le_of_ble_eq_true rfl) ?_
      refine pw_ireturn (tk tkX8_loadState 45 rfl) rfl (by decide) rfl ?_
      have hE : E132 (aL (aOf x.2.1) r1) (cpN 132 (aL (aOf x.2.1) r1) (mS x.2.1)) := fun j hj => (if_pos hj).symm
      have esm : smN (cpN 132 (aL (aOf x.2.1) r1) (mS x.2.1)) 6 = smN (aL (aOf x.2.1) r1) 6 := rfl
      obtain ⟨a, b, c, d, f⟩ := recX (y := xPA (xThr x 0)) hx ⟨rfl, rfl, cpN_E _ _, rfl, rfl, rfl, rfl, rfl, rfl, rfl⟩ _ (VS.EE (hA.2 r1 hr hb) hE)
      rw [he]
      refine ⟨_, rfl, a, b, c, rfl, d, ?_⟩
      exact ⟨fun j hj => (hE j hj).trans (f.1 j hj), f.2⟩
    | succ k ih =>
      intro i hi y r1 hy hr er hb he
      refine pw_iload_n (tk tkX8_loadState 26 rfl) rfl ?_
      refine pw_sipush (v := 132) (tk tkX8_loadState 27 rfl) (by decide) ?_
      refine pw_icmp_ge (tgt := 75) (tk tkX8_loadState 28 rfl) (by decide) (fun c48 => absurd c48 (nI_ge (b := 132) (by omega) (by decide))) (fun c48 => ?_)
      refine pw_aload_n (tk tkX8_loadState 29 rfl) rfl ?_
      refine g8_s (tk tkX8_loadState 30 rfl) fkX8_7 ?_
      refine pw_iload_n (tk tkX8_loadState 31 rfl) rfl ?_
      refine pw_aload_n (tk tkX8_loadState 32 rfl) rfl ?_
      refine g8_slots (tk tkX8_loadState 33 rfl) fkX8_19 ?_
      refine pw_sipush (v := 132) (tk tkX8_loadState 34 rfl) (by decide) ?_
      refine pw_iload_n (tk tkX8_loadState 35 rfl) rfl ?_
      refine pw_imul (tk tkX8_loadState 36 rfl) ?_
      refine pw_iload_n (tk tkX8_loadState 37 rfl) rfl ?_
      refine pw_iadd (tk tkX8_loadState 38 rfl) ?_
      refine al_mslots_e (e := 132 * r1 + i) (tk tkX8_loadState 39 rfl) (by rw [er]; simp only [lit_nI, nI_add, pk_mul]) (by first | decide | omega) ?_
      refine as_s_e (e := i) (tk tkX8_loadState 40 rfl) rfl (by first | decide | omega) ?_
      refine pw_inc2 (tk tkX8_loadState 41 rfl) rfl (by decide) (nI_1 i) ?_
      refine pw_goto (tgt := 44) (tk tkX8_loadState 42 rfl) (by decide) ?_
      refine ih (i + 1) (by omega) _ r1 ?_ hr er hb he
      rw [hy]
      show uM1 (xRec (xThr x 0) (aK (aOf x.2.1))) (upd (cpN i (aL (aOf x.2.1) r1) (mS x.2.1)) i (mSl (xRec (xThr x 0) (aK (aOf x.2.1))).2.1 (132 * r1 + i))) = _
      rw [show mSl (xRec (xThr x 0) (aK (aOf x.2.1))).2.1 (132 * r1 + i) = aL (aOf x.2.1) r1 i from by rw [xRec_sl]; rfl, cpN_s]
  refine pw_aload_n (tk tkX8_loadState 0 rfl) rfl ?_
  refine pw_iload_n (tk tkX8_loadState 1 rfl) rfl ?_
  refine pw_iconst (v := 0) (tk tkX8_loadState 2 rfl) (by decide) ?_
  refine pw_iconst (v := 1) (tk tkX8_loadState 3 rfl) (by decide) ?_
  refine pw_cS (ct_X8_in _ _ _ _) okX8_in (tk tkX8_loadState 4 rfl) mkX8_32 stX8_in rfl rfl (by decide) (by decide) (Nat.le_of_ble_eq_true rfl) ?_
  refine pw_ifnb (tgt := 14) (tk tkX8_loadState 5 rfl) (by decide) (fun c7 => ?_) (fun c7 => ?_)
  · obtain ⟨r1, hr, er, er2⟩ := inR_two c7
    refine pw_aload_n (tk tkX8_loadState 8 rfl) rfl ?_
    refine g8_kept (tk tkX8_loadState 9 rfl) fkX8_185 ?_
    refine pw_iload_n (tk tkX8_loadState 10 rfl) rfl ?_
    refine pw_ishr (tk tkX8_loadState 11 rfl) ?_
    refine pw_iconst (v := 1) (tk tkX8_loadState 12 rfl) (by decide) ?_
    refine pw_iand (tk tkX8_loadState 13 rfl) ?_
    refine pw_if_ne (tgt := 29) (tk tkX8_loadState 14 rfl) (by decide) (fun c22 => ?_) (fun c22 => ?_)
    · refine pw_iconst (v := 0) (tk tkX8_loadState 17 rfl) (by decide) ?_
      refine pw_cV (ct_X8_holds x _) okX8_holds (tk tkX8_loadState 18 rfl) mkX8_97 imX8_holds seX8_holds (hp_ot _ 11) rfl rfl rfl (by decide) (by decide) (Nat.le_of_ble_eq_true rfl) ?_
      refine pw_ifnb (tgt := 38) (tk tkX8_loadState 19 rfl) (by decide) (fun c33 => ?_) (fun c33 => absurd c33 (by decide))
      refine pw_aload_n (tk tkX8_loadState 22 rfl) rfl ?_
      refine pw_cV0 (ct_X8_record (xThr x 0) (aK (aOf x.2.1)) hx.1 hx.2.1) okX8_record (tk tkX8_loadState 23 rfl) mkX8_100 imX8_record seX8_record (hp_ot _ 11) rfl rfl rfl (by decide) (by decide) (Nat.le_of_ble_eq_true rfl) ?_
      rw [xRec_eq x]
      refine pw_iconst (v := 0) (tk tkX8_loadState 24 rfl) (by decide) ?_
      refine pw_ist2 (tk tkX8_loadState 25 rfl) rfl (by decide) ?_
      have hb : aB (aOf x.2.1) r1 = true := decide_eq_true (by rw [er] at c22; rw [ek6] at c22 ⊢; rcases bit01 ⟨k6, hk6⟩ ⟨r1, hr⟩ with w | w; exact absurd w c22; exact w)
      exact L 132 0 (by omega) _ r1 (by rw [cpN_0]) hr er hb ((if_neg (ne_f c7)).trans ((if_neg (by rw [er2]; exact ne_f hb)).trans (by rw [er2]; rfl)))
    · refine pw_iconst (v := 2) (tk tkX8_loadState 15 rfl) (by decide) ?_
      refine pw_goto (tgt := 30) (tk tkX8_loadState 16 rfl) (by decide) ?_
      refine pw_cV (ct_X8_holds x _) okX8_holds (tk tkX8_loadState 18 rfl) mkX8_97 imX8_holds seX8_holds (hp_ot _ 11) rfl rfl rfl (by decide) (by decide) (Nat.le_of_ble_eq_true rfl) ?_
      refine pw_ifnb (tgt := 38) (tk tkX8_loadState 19 rfl) (by decide) (fun c33 => absurd c33 (by decide)) (fun c33 => ?_)
      refine pw_iconst (v := 0) (tk tkX8_loadState 20 rfl) (by decide) ?_
      refine pw_ireturn (tk tkX8_loadState 21 rfl) rfl (by decide) rfl ?_
      have e : sloadState (aOf x.2.1) r = (2, 0, aOf x.2.1) := (if_neg (ne_f c7)).trans (if_pos (by rw [er2]; rw [er] at c22; exact decide_eq_false (fun q => by rw [show mF x.2.1 6 >>> (nI r1 &&& 31) &&& 1 = 0 from c22] at q; exact absurd q (by decide))))
      rw [e]
      exact ⟨_, rfl, rfl, rfl, rfl, rfl, hx, AE.rf _⟩
  · refine pw_iconst (v := 1) (tk tkX8_loadState 6 rfl) (by decide) ?_
    refine pw_goto (tgt := 30) (tk tkX8_loadState 7 rfl) (by decide) ?_
    refine pw_cV (ct_X8_holds x _) okX8_holds (tk tkX8_loadState 18 rfl) mkX8_97 imX8_holds seX8_holds (hp_ot _ 11) rfl rfl rfl (by decide) (by decide) (Nat.le_of_ble_eq_true rfl) ?_
    refine pw_ifnb (tgt := 38) (tk tkX8_loadState 19 rfl) (by decide) (fun c33 => absurd c33 (by decide)) (fun c33 => ?_)
    refine pw_iconst (v := 0) (tk tkX8_loadState 20 rfl) (by decide) ?_
    refine pw_ireturn (tk tkX8_loadState 21 rfl) rfl (by decide) rfl ?_
    have e : sloadState (aOf x.2.1) r = (1, 0, aOf x.2.1) := if_pos c7
    rw [e]
    exact ⟨_, rfl, rfl, rfl, rfl, rfl, hx, AE.rf _⟩
def ssaveState (a : AM) (r : Int32) : RS3 := if inR r 0 1 = false then (1, 0, a) else (0, smN (aS a) 6, (aS a, a.2.1, ((fun i => if i = r.toNatClampNeg then true else aB a i), fun i => if i = r.toNatClampNeg then aS a else aL a i), a.2.2.2))
theorem bit02 : ∀ (k : Fin 4) (r : Fin 2), ∃ k2 : Fin 4, (nI k.val ||| ((1 : Int32) <<< (nI r.val &&& 31)) = nI k2.val) ∧ ∀ i : Fin 2, decide ((nI k2.val >>> (nI i.val &&& 31)) &&& 1 = 1) = if i.val = r.val then true else decide ((nI k.val >>> (nI i.val &&& 31)) &&& 1 = 1) := by decide +kernel
theorem VM.of {m m2 : MW} (h : VM m) (h4 : mF m2 4 = mF m 4) (h8 : mF m2 8 = mF m 8) (h6 : ∃ k, k < 4 ∧ mF m2 6 = nI k) (hs : VS (uN (mS m2)) (mS m2)) : VM m2 := by
  have e4 : aK (aOf m2) = aK (aOf m) := congrArg Int32.toNatClampNeg h4
  have e8 : aN (aOf m2) = aN (aOf m) := congrArg Int32.toNatClampNeg h8
  exact ⟨by rw [e4, h4]; exact h.1, by rw [e4]; exact h.2.1, by rw [e8, h8]; exact h.2.2.1, by rw [e8]; exact h.2.2.2.1, h6, hs⟩
theorem save_end {x : XW} (hx : VM x.2.1) {R : RS3} (r1 : Nat) (hr : r1 < 2) (k2 : Nat) (h4 : k2 < 4) (hb : ∀ i, i < 2 → decide ((nI k2 >>> (nI i &&& 31)) &&& 1 = 1) = if i = r1 then true else aB (aOf x.2.1) i)
    (he : R = (0, smN (mS x.2.1) 6, (mS x.2.1, (aOf x.2.1).2.1, ((fun i => if i = r1 then true else aB (aOf x.2.1) i), fun i => if i = r1 then mS x.2.1 else aL (aOf x.2.1) i), (aOf x.2.1).2.2.2))) (f : Nat → Int32) (hf : f = puN (132 * r1) 132 (mS x.2.1) (mSl x.2.1)) :
    MOQ x R (.inl (some (.int (smN (mS x.2.1) 6)))) (hp (uM7 (uM4 (xThr x 0) f) (upd (mF (xThr x 0).2.1) 6 (nI k2)))) := by
  rw [he]
  refine ⟨_, rfl, rfl, rfl, rfl, rfl, VM.of hx rfl rfl ⟨k2, h4, rfl⟩ hx.2.2.2.2.2, fun _ _ => rfl, rfl, fun _ _ _ _ => rfl, fun i hi => (hb i hi).symm, fun i hi hb j hj => ?_, rfl, fun _ _ => rfl⟩
  show (if i = r1 then mS x.2.1 else aL (aOf x.2.1) i) j = f (132 * i + j)
  rw [hf]
  unfold puN
  by_cases e5 : i = r1
  · rw [if_pos e5, if_pos (by omega), show 132 * i + j - 132 * r1 = j by omega]
  · rw [if_neg e5, if_neg (by omega)]; rfl
set_option maxRecDepth 100000 in
set_option maxHeartbeats 4000000 in
theorem ct_X8_saveState (x : XW) (hx : VM x.2.1) (r : Int32) : CT MX8_saveState 3 0 [.ref 171, .int r] (hp x) (MOQ x (ssaveState (aOf x.2.1) r)) := by
  refine ct_of (by decide +kernel) (by decide) rfl (k := 1) (ls := [some (.ref 171), some (.int r), none]) rfl (Nat.le_of_ble_eq_true rfl) ?_
  obtain ⟨hu, hu8⟩ := hx.u
  obtain ⟨l99, hl, el⟩ := hx.l
  have hv : VS (uN (mS x.2.1)) (mS x.2.1) := hx.2.2.2.2.2
  obtain ⟨k6, hk6, ek6⟩ := hx.2.2.2.2.1
  have L : ∀ k i, i + k = 132 → ∀ (y : XW) (r1 : Nat) (hy : y = uM4 (xThr x 0) (puN (132 * r1) i (mS x.2.1) (mSl x.2.1))) (hr : r1 < 2) (er : r = nI r1) (he : ssaveState (aOf x.2.1) r = (0, smN (mS x.2.1) 6, (mS x.2.1, (aOf x.2.1).2.1, ((fun i => if i = r1 then true else aB (aOf x.2.1) i), fun i => if i = r1 then mS x.2.1 else aL (aOf x.2.1) i), (aOf x.2.1).2.2.2))), PW MX8_saveState 3 0 25 [some (.ref 171), some (.int r), some (.int (nI i))] [] (hp y) (MOQ x (ssaveState (aOf x.2.1) r)) := by
    intro k
    induction k with
    | zero =>
      intro i hi y r1 hy hr er he
      have ei : i = 132 := by omega
      rw [ei]
      refine pw_iload_n (tk tkX8_saveState 15 rfl) rfl ?_
      refine pw_sipush (v := 132) (tk tkX8_saveState 16 rfl) (by decide) ?_
      refine pw_icmp_ge (tgt := 56) (tk tkX8_saveState 17 rfl) (by decide) (fun c29 => ?_) (fun c29 => absurd (Int32.le_refl _) c29)
      rw [ei] at hy
      subst hy
      obtain ⟨k2, hk2, hk3⟩ := bit02 ⟨k6, hk6⟩ ⟨r1, hr⟩
      refine pw_aload_n (tk tkX8_saveState 32 rfl) rfl ?_
      refine pw_dup (tk tkX8_saveState 33 rfl) rfl ?_
      refine g8_kept (tk tkX8_saveState 34 rfl) fkX8_185 ?_
      refine pw_iconst (v := 1) (tk tkX8_saveState 35 rfl) (by decide) ?_
      refine pw_iload_n (tk tkX8_saveState 36 rfl) rfl ?_
      refine pw_ishl (tk tkX8_saveState 37 rfl) ?_
      refine pw_ior (tk tkX8_saveState 38 rfl) ?_
      rw [show r &&& 31 = nI r1 &&& 31 from by rw [er]]
      rw [show mF (uM4 (xThr x 0) (puN (132 * r1) 132 (mS x.2.1) (mSl x.2.1))).2.1 6 ||| ((1 : Int32) <<< (nI r1 &&& 31)) = nI k2.val from (congrArg (· ||| ((1 : Int32) <<< (nI r1 &&& 31))) ek6).trans hk2]
      refine p8_kept (tk tkX8_saveState 39 rfl) fkX8_185 ?_
      refine pw_aload_n (tk tkX8_saveState 40 rfl) rfl ?_
      refine pw_cV (ct_X8_rowsNow _) okX8_rowsNow (tk tkX8_saveState 41 rfl) mkX8_121 imX8_rowsNow seX8_rowsNow (hp_ot _ 11) rfl rfl rfl (by decide) (by decide) (Nat.le_of_ble_eq_true rfl) ?_
      refine pw_ireturn (tk tkX8_saveState 42 rfl) rfl (by decide) rfl ?_
      exact save_end hx r1 hr k2.val k2.isLt (fun i hi => (hk3 ⟨i, hi⟩).trans (by rw [← ek6]; rfl)) he _ rfl
    | succ k ih =>
      intro i hi y r1 hy hr er he
      refine pw_iload_n (tk tkX8_saveState 15 rfl) rfl ?_
      refine pw_sipush (v := 132) (tk tkX8_saveState 16 rfl) (by decide) ?_
      refine pw_icmp_ge (tgt := 56) (tk tkX8_saveState 17 rfl) (by decide) (fun c29 => absurd c29 (nI_ge (b := 132) (by omega) (by decide))) (fun c29 => ?_)
      refine pw_aload_n (tk tkX8_saveState 18 rfl) rfl ?_
      refine g8_slots (tk tkX8_saveState 19 rfl) fkX8_19 ?_
      refine pw_sipush (v := 132) (tk tkX8_saveState 20 rfl) (by decide) ?_
      refine pw_iload_n (tk tkX8_saveState 21 rfl) rfl ?_
      refine pw_imul (tk tkX8_saveState 22 rfl) ?_
      refine pw_iload_n (tk tkX8_saveState 23 rfl) rfl ?_
      refine pw_iadd (tk tkX8_saveState 24 rfl) ?_
      refine pw_aload_n (tk tkX8_saveState 25 rfl) rfl ?_
      refine g8_s (tk tkX8_saveState 26 rfl) fkX8_7 ?_
      refine pw_iload_n (tk tkX8_saveState 27 rfl) rfl ?_
      refine al_s_e (e := i) (tk tkX8_saveState 28 rfl) rfl (by first | decide | omega) ?_
      refine as_mslots_e (e := 132 * r1 + i) (tk tkX8_saveState 29 rfl) (by rw [er]; simp only [lit_nI, nI_add, pk_mul]) (by first | decide | omega) ?_
      refine pw_inc2 (tk tkX8_saveState 30 rfl) rfl (by decide) (nI_1 i) ?_
      refine pw_goto (tgt := 25) (tk tkX8_saveState 31 rfl) (by decide) ?_
      refine ih (i + 1) (by omega) _ r1 ?_ hr er he
      rw [hy]
      show uM4 (xThr x 0) (upd (puN (132 * r1) i (mS x.2.1) (mSl x.2.1)) (132 * r1 + i) (mS x.2.1 i)) = _
      rw [puN_s]
  refine pw_aload_n (tk tkX8_saveState 0 rfl) rfl ?_
  refine pw_iload_n (tk tkX8_saveState 1 rfl) rfl ?_
  refine pw_iconst (v := 0) (tk tkX8_saveState 2 rfl) (by decide) ?_
  refine pw_iconst (v := 1) (tk tkX8_saveState 3 rfl) (by decide) ?_
  refine pw_cS (ct_X8_in _ _ _ _) okX8_in (tk tkX8_saveState 4 rfl) mkX8_32 stX8_in rfl rfl (by decide) (by decide) (Nat.le_of_ble_eq_true rfl) ?_
  refine pw_ifb (tgt := 14) (tk tkX8_saveState 5 rfl) (by decide) (fun c7 => ?_) (fun c7 => ?_)
  · refine pw_iconst (v := 1) (tk tkX8_saveState 8 rfl) (by decide) ?_
    refine pw_cV (ct_X8_holds x _) okX8_holds (tk tkX8_saveState 9 rfl) mkX8_97 imX8_holds seX8_holds (hp_ot _ 11) rfl rfl rfl (by decide) (by decide) (Nat.le_of_ble_eq_true rfl) ?_
    refine pw_ifnb (tgt := 23) (tk tkX8_saveState 10 rfl) (by decide) (fun c18 => absurd c18 (by decide)) (fun c18 => ?_)
    refine pw_iconst (v := 0) (tk tkX8_saveState 11 rfl) (by decide) ?_
    refine pw_ireturn (tk tkX8_saveState 12 rfl) rfl (by decide) rfl ?_
    have e : ssaveState (aOf x.2.1) r = (1, 0, aOf x.2.1) := (if_pos c7)
    rw [e]
    exact ⟨_, rfl, rfl, rfl, rfl, rfl, hx, AE.rf _⟩
  · refine pw_iconst (v := 0) (tk tkX8_saveState 6 rfl) (by decide) ?_
    refine pw_goto (tgt := 15) (tk tkX8_saveState 7 rfl) (by decide) ?_
    refine pw_cV (ct_X8_holds x _) okX8_holds (tk tkX8_saveState 9 rfl) mkX8_97 imX8_holds seX8_holds (hp_ot _ 11) rfl rfl rfl (by decide) (by decide) (Nat.le_of_ble_eq_true rfl) ?_
    refine pw_ifnb (tgt := 23) (tk tkX8_saveState 10 rfl) (by decide) (fun c18 => ?_) (fun c18 => absurd c18 (by decide))
    refine pw_iconst (v := 0) (tk tkX8_saveState 13 rfl) (by decide) ?_
    refine pw_ist2 (tk tkX8_saveState 14 rfl) rfl (by decide) ?_
    obtain ⟨r1, hr, er, er2⟩ := inR_two c7
    exact L 132 0 (by omega) _ r1 (by rw [puN_0]; rfl) hr er ((if_neg (ne_f c7)).trans (by rw [er2]; rfl))
def sclearText (a : AM) : RS3 := (0, nI (aN a), (aS a, a.2.1, a.2.2.1, (0, aT a)))
set_option maxRecDepth 100000 in
set_option maxHeartbeats 4000000 in
theorem ct_X8_clearText (x : XW) (hx : VM x.2.1)  : CT MX8_clearText 3 0 [.ref 171] (hp x) (MOQ x (sclearText (aOf x.2.1) )) := by
  refine ct_of (by decide +kernel) (by decide) rfl (k := 1) (ls := [some (.ref 171), none]) rfl (Nat.le_of_ble_eq_true rfl) ?_
  obtain ⟨hu, hu8⟩ := hx.u
  obtain ⟨l99, hl, el⟩ := hx.l
  have hv : VS (uN (mS x.2.1)) (mS x.2.1) := hx.2.2.2.2.2
  refine pw_aload_n (tk tkX8_clearText 0 rfl) rfl ?_
  refine pw_iconst (v := 0) (tk tkX8_clearText 1 rfl) (by decide) ?_
  refine p8_thrown (tk tkX8_clearText 2 rfl) fkX8_28 ?_
  refine pw_aload_n (tk tkX8_clearText 3 rfl) rfl ?_
  refine g8_length (tk tkX8_clearText 4 rfl) fkX8_141 ?_
  refine pw_ist1 (tk tkX8_clearText 5 rfl) rfl (by decide) ?_
  refine pw_aload_n (tk tkX8_clearText 6 rfl) rfl ?_
  refine pw_iconst (v := 0) (tk tkX8_clearText 7 rfl) (by decide) ?_
  refine p8_length (tk tkX8_clearText 8 rfl) fkX8_141 ?_
  refine pw_iload_n (tk tkX8_clearText 9 rfl) rfl ?_
  refine pw_ireturn (tk tkX8_clearText 10 rfl) rfl (by decide) rfl ?_
  obtain ⟨v1, v2, v3, v4, v5, v6⟩ := hx
  exact ⟨_, rfl, rfl, rfl, rfl, congrArg (fun z => Sum.inl (some (Value.int z))) v3, ⟨v1, v2, rfl, Nat.zero_le _, v5, v6⟩, fun _ _ => rfl, rfl, fun _ _ _ _ => rfl, fun _ _ => rfl, fun _ _ _ _ _ => rfl, rfl, fun _ _ => rfl⟩
