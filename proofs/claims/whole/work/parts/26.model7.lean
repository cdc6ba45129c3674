def E132 (f g : Nat → Int32) : Prop := ∀ j, j < 132 → f j = g j
def fin (R : TT) (s : Nat → Int32) : Nat → Int32 := if R.2.2.2 = 0 then upd R.1 98 (R.1 98 + R.2.1) else s
def flQ (x : XW) (u : Nat) (p : Nat → Bool) : Out → Hp → Prop := fun o h2 => ∃ y, h2 = hp y ∧ FR 0 x y ∧ tX y = lpT (acT (hapT u 5) 0) p u 0 (tX x) ∧ o = .inl (some (.int (bI (decide (mF y.2.1 13 = 0)))))
set_option maxRecDepth 100000 in
set_option maxHeartbeats 4000000 in
theorem ct_X8_follows (x : XW) (u : Nat) (p : Nat → Bool) (hv : VS u (mS x.2.1)) (h10 : mF x.2.1 10 = nI 0) (hw : mWa x.2.1 0 = mkM p u) (h13 : mF x.2.1 13 = 0) : CT MX8_follows 4 0 [.ref 171] (hp x) (flQ x u p) := by
  refine ct_of (by decide +kernel) (by decide) rfl (k := 1) (ls := [some (.ref 171), none]) rfl (Nat.le_of_ble_eq_true rfl) ?_
  refine fol u (flQ x u p) 5 0 rfl u 0 (by omega) p x none hv h10 (hw.trans (pge_0 p u)) h13 (fun y l1 a b c d e => ?_) (fun y a b c => ⟨y, rfl, a, b, by rw [decide_eq_false c]; rfl⟩)
  refine pw_aload_n (tk tkX8_follows 0 rfl) rfl ?_
  refine g8_depth (tk tkX8_follows 1 rfl) fkX8_62 ?_
  refine pw_if_lt (tgt := 86) (tk tkX8_follows 2 rfl) (by decide) (fun c4 => absurd c4 (by rw [d]; exact nI_pos (by omega))) (fun c4 => ?_)
  refine pw_aload_n (tk tkX8_follows 3 rfl) rfl ?_
  refine g8_waiting (tk tkX8_follows 4 rfl) fkX8_25 ?_
  refine pw_aload_n (tk tkX8_follows 5 rfl) rfl ?_
  refine g8_depth (tk tkX8_follows 6 rfl) fkX8_62 ?_
  refine al_waiting_e (e := 0) (tk tkX8_follows 7 rfl) d (by first | decide | omega) ?_
  refine pw_if_ne (tgt := 32) (tk tkX8_follows 8 rfl) (by decide) (fun c16 => absurd e c16) (fun c16 => ?_)
  refine pw_aload_n (tk tkX8_follows 9 rfl) rfl ?_
  refine pw_dup (tk tkX8_follows 10 rfl) rfl ?_
  refine g8_depth (tk tkX8_follows 11 rfl) fkX8_62 ?_
  refine pw_iconst (v := 1) (tk tkX8_follows 12 rfl) (by decide) ?_
  refine pw_isub (tk tkX8_follows 13 rfl) ?_
  rw [d, show nI 0 - 1 = -1 from by decide]
  refine p8_depth (tk tkX8_follows 14 rfl) fkX8_62 ?_
  refine pw_goto (tgt := 0) (tk tkX8_follows 15 rfl) (by decide) ?_
  refine pw_aload_n (tk tkX8_follows 0 rfl) rfl ?_
  refine g8_depth (tk tkX8_follows 1 rfl) fkX8_62 ?_
  refine pw_if_lt (tgt := 86) (tk tkX8_follows 2 rfl) (by decide) (fun c4 => ?_) (fun c4 => absurd (show mF (uM7 y (upd (mF y.2.1) 10 (-1))).2.1 10 < 0 from (by show (-1 : Int32) < 0; decide)) c4)
  refine pw_iconst (v := 1) (tk tkX8_follows 50 rfl) (by decide) ?_
  exact pw_ireturn (tk tkX8_follows 51 rfl) rfl (by decide) (by first | rfl | exact nar_bI _) ⟨uM7 y (upd (mF y.2.1) 10 (-1)), rfl, a.tr (FR.f y 10 _ (by omega)), b, by rw [decide_eq_true (show mF (uM7 y (upd (mF y.2.1) 10 (-1))).2.1 13 = 0 from c)]; rfl⟩
def stQ (x : XW) (R : TT) : Out → Hp → Prop := fun o h2 => ∃ y, h2 = hp y ∧ FR 0 x y ∧ mF y.2.1 12 = R.2.1 ∧ mF y.2.1 11 = R.2.2.1 ∧ mF y.2.1 13 = R.2.2.2 ∧ mS y.2.1 = (if R.2.2.2 = 0 then upd R.1 98 (R.1 98 + R.2.1) else cpN 132 (mA x.2.1) R.1) ∧ o = .inl (some (.int (bI (decide (R.2.2.2 = 0)))))
set_option maxRecDepth 100000 in
set_option maxHeartbeats 4000000 in
theorem ct_X8_states (x : XW) (u : Nat) (hv : VS u (mS x.2.1)) (ev : Int32) (r c : Nat) (v : Int32) (hr : r < 6) (hc : c < 3) : CT MX8_states 5 0 [.ref 171, .int ev, .int (nI r), .int (nI c), .int v] (hp x) (stQ x (hapT u 6 (mS x.2.1, 0, -1, 0) ev r c v 0)) := by
  refine ct_of (by decide +kernel) (by decide) rfl (k := 1) (ls := [some (.ref 171), some (.int ev), some (.int (nI r)), some (.int (nI c)), some (.int v), none]) rfl (Nat.le_of_ble_eq_true rfl) ?_
  obtain ⟨R, hR⟩ : ∃ R, R = (hapT u 6 (mS x.2.1, 0, -1, 0) ev r c v 0) := ⟨_, rfl⟩
  rw [← hR]
  have J40 : ∀ y, FR 0 x y → tX y = R → R.2.2.2 = 0 → PW MX8_states 5 0 40 [some (.ref 171), some (.int ev), some (.int (nI r)), some (.int (nI c)), some (.int v), none] [] (hp y) (stQ x R) := by
    intro y hf ht h0
    have q12 : mF y.2.1 12 = R.2.1 := congrArg (fun t => t.2.1) ht
    have q11 : mF y.2.1 11 = R.2.2.1 := congrArg (fun t => t.2.2.1) ht
    have q13 : mF y.2.1 13 = R.2.2.2 := congrArg (fun t => t.2.2.2) ht
    have qs : mS y.2.1 = R.1 := congrArg (fun t => t.1) ht
    refine pw_iconst (v := 1) (tk tkX8_states 23 rfl) (by decide) ?_
    refine pw_goto (tgt := 45) (tk tkX8_states 24 rfl) (by decide) ?_
    refine pw_ist5 (tk tkX8_states 26 rfl) rfl (by decide) ?_
    refine pw_iload (tk tkX8_states 27 rfl) rfl ?_
    refine pw_if_eq (tgt := 69) (tk tkX8_states 28 rfl) (by decide) (fun c49 => absurd c49 (by decide)) (fun c49 => ?_)
    refine pw_aload_n (tk tkX8_states 29 rfl) rfl ?_
    refine g8_s (tk tkX8_states 30 rfl) fkX8_7 ?_
    refine pw_bipush (v := 98) (tk tkX8_states 31 rfl) (by decide) ?_
    refine pw_dup2 (tk tkX8_states 32 rfl) rfl rfl ?_
    refine al_s_e (e := 98) (tk tkX8_states 33 rfl) (by first | rfl | simp only [lit_nI, nI_add, pk_mul]) (by first | decide | omega) ?_
    refine pw_aload_n (tk tkX8_states 34 rfl) rfl ?_
    refine g8_happened (tk tkX8_states 35 rfl) fkX8_52 ?_
    refine pw_iadd (tk tkX8_states 36 rfl) ?_
    refine as_s_e (e := 98) (tk tkX8_states 37 rfl) (by first | rfl | simp only [lit_nI, nI_add, pk_mul]) (by first | decide | omega) ?_
    refine pw_goto (tgt := 73) (tk tkX8_states 38 rfl) (by decide) ?_
    refine pw_iload (tk tkX8_states 41 rfl) rfl ?_
    exact pw_ireturn (tk tkX8_states 42 rfl) rfl (by decide) (by first | rfl | exact nar_bI _) ⟨_, rfl, hf.tr (FR.s _ _), q12, q11, q13, by rw [if_pos h0, ← qs, ← q12]; rfl, by rw [decide_eq_true h0]; rfl⟩
  have J44 : ∀ y, FR 0 x y → tX y = R → ¬ R.2.2.2 = 0 → PW MX8_states 5 0 44 [some (.ref 171), some (.int ev), some (.int (nI r)), some (.int (nI c)), some (.int v), none] [] (hp y) (stQ x R) := by
    intro y hf ht h0
    have q12 : mF y.2.1 12 = R.2.1 := congrArg (fun t => t.2.1) ht
    have q11 : mF y.2.1 11 = R.2.2.1 := congrArg (fun t => t.2.2.1) ht
    have q13 : mF y.2.1 13 = R.2.2.2 := congrArg (fun t => t.2.2.2) ht
    have qs : mS y.2.1 = R.1 := congrArg (fun t => t.1) ht
    have qa : mA y.2.1 = mA x.2.1 := hf.2.2.1
    refine pw_iconst (v := 0) (tk tkX8_states 25 rfl) (by decide) ?_
    refine pw_ist5 (tk tkX8_states 26 rfl) rfl (by decide) ?_
    refine pw_iload (tk tkX8_states 27 rfl) rfl ?_
    refine pw_if_eq (tgt := 69) (tk tkX8_states 28 rfl) (by decide) (fun c49 => ?_) (fun c49 => absurd rfl c49)
    refine pw_aload_n (tk tkX8_states 39 rfl) rfl ?_
    refine pw_cV0 (ct_X8_putBack y) okX8_putBack (tk tkX8_states 40 rfl) mkX8_87 imX8_putBack seX8_putBack (hp_ot _ 11) rfl rfl rfl (by decide) (by decide) (Nat.le_of_ble_eq_true rfl) ?_
    refine pw_iload (tk tkX8_states 41 rfl) rfl ?_
    exact pw_ireturn (tk tkX8_states 42 rfl) rfl (by decide) (by first | rfl | exact nar_bI _) ⟨_, rfl, hf.tr (FR.s _ _), q12, q11, q13, by rw [if_neg h0, ← qs, ← qa]; rfl, by rw [decide_eq_false h0]; rfl⟩
  have f0 : FR 0 x (uM7 (uM7 (uM7 (uM7 x (upd (mF x.2.1) 12 0)) (upd (upd (mF x.2.1) 12 0) 11 (-1))) (upd (upd (upd (mF x.2.1) 12 0) 11 (-1)) 13 0)) (upd (upd (upd (upd (mF x.2.1) 12 0) 11 (-1)) 13 0) 10 (-1))) := (((FR.f x 12 0 (by omega)).tr (FR.f _ 11 (-1) (by omega))).tr (FR.f _ 13 0 (by omega))).tr (FR.f _ 10 (-1) (by omega))
  have eb := tX_bg (uM7 (uM7 (uM7 (uM7 x (upd (mF x.2.1) 12 0)) (upd (upd (mF x.2.1) 12 0) 11 (-1))) (upd (upd (upd (mF x.2.1) 12 0) 11 (-1)) 13 0)) (upd (upd (upd (upd (mF x.2.1) 12 0) 11 (-1)) 13 0) 10 (-1))) u ev r c v 0
  have fb : FR 0 (uM7 (uM7 (uM7 (uM7 x (upd (mF x.2.1) 12 0)) (upd (upd (mF x.2.1) 12 0) 11 (-1))) (upd (upd (upd (mF x.2.1) 12 0) 11 (-1)) 13 0)) (upd (upd (upd (upd (mF x.2.1) 12 0) 11 (-1)) 13 0) 10 (-1))) (bgX (uM7 (uM7 (uM7 (uM7 x (upd (mF x.2.1) 12 0)) (upd (upd (mF x.2.1) 12 0) 11 (-1))) (upd (upd (upd (mF x.2.1) 12 0) 11 (-1)) 13 0)) (upd (upd (upd (upd (mF x.2.1) 12 0) 11 (-1)) 13 0) 10 (-1))) u ev r c v 0) := FR.bg _ u ev r c v 0 (Nat.le_refl _)
  have hb0 : bgC (mS x.2.1) u 0 ev r c v (nI 0) = 0 → bgX (uM7 (uM7 (uM7 (uM7 x (upd (mF x.2.1) 12 0)) (upd (upd (mF x.2.1) 12 0) 11 (-1))) (upd (upd (upd (mF x.2.1) 12 0) 11 (-1)) 13 0)) (upd (upd (upd (upd (mF x.2.1) 12 0) 11 (-1)) 13 0) 10 (-1))) u ev r c v 0 = bgW (uM7 (uM7 (uM7 (uM7 x (upd (mF x.2.1) 12 0)) (upd (upd (mF x.2.1) 12 0) 11 (-1))) (upd (upd (upd (mF x.2.1) 12 0) 11 (-1)) 13 0)) (upd (upd (upd (upd (mF x.2.1) 12 0) 11 (-1)) 13 0) 10 (-1))) u ev r c v 0 := fun h => if_pos h
  refine pw_aload_n (tk tkX8_states 0 rfl) rfl ?_
  refine pw_iconst (v := 0) (tk tkX8_states 1 rfl) (by decide) ?_
  refine p8_happened (tk tkX8_states 2 rfl) fkX8_52 ?_
  refine pw_aload_n (tk tkX8_states 3 rfl) rfl ?_
  refine pw_iconst (v := (-1)) (tk tkX8_states 4 rfl) (by decide) ?_
  refine p8_deepest (tk tkX8_states 5 rfl) fkX8_65 ?_
  refine pw_aload_n (tk tkX8_states 6 rfl) rfl ?_
  refine pw_iconst (v := 0) (tk tkX8_states 7 rfl) (by decide) ?_
  refine p8_refused (tk tkX8_states 8 rfl) fkX8_59 ?_
  refine pw_aload_n (tk tkX8_states 9 rfl) rfl ?_
  refine pw_iconst (v := (-1)) (tk tkX8_states 10 rfl) (by decide) ?_
  refine p8_depth (tk tkX8_states 11 rfl) fkX8_62 ?_
  refine pw_aload_n (tk tkX8_states 12 rfl) rfl ?_
  refine pw_iload_n (tk tkX8_states 13 rfl) rfl ?_
  refine pw_iload_n (tk tkX8_states 14 rfl) rfl ?_
  refine pw_iload_n (tk tkX8_states 15 rfl) rfl ?_
  refine pw_iload (tk tkX8_states 16 rfl) rfl ?_
  refine pw_iconst (v := 0) (tk tkX8_states 17 rfl) (by decide) ?_
  refine pw_cV (ct_X8_begins (uM7 (uM7 (uM7 (uM7 x (upd (mF x.2.1) 12 0)) (upd (upd (mF x.2.1) 12 0) 11 (-1))) (upd (upd (upd (mF x.2.1) 12 0) 11 (-1)) 13 0)) (upd (upd (upd (upd (mF x.2.1) 12 0) 11 (-1)) 13 0) 10 (-1))) u hv ev r c v 0 hr hc (by decide)) okX8_begins (tk tkX8_states 18 rfl) mkX8_72 imX8_begins seX8_begins (hp_ot _ 11) rfl rfl rfl (by decide) (by decide) (Nat.le_of_ble_eq_true rfl) ?_
  refine pw_ifb (tgt := 44) (tk tkX8_states 19 rfl) (by decide) (fun c30 => ?_) (fun c30 => ?_)
  · have q : ¬ bgC (mS x.2.1) u 0 ev r c v (nI 0) = 0 := of_decide_eq_false c30
    exact J44 _ (f0.tr fb) (by rw [hR, eb]; exact (hapT_bad u 6 _ ev r c v 0 q).symm) (by rw [hR, hapT_bad u 6 _ ev r c v 0 q, show bgT u (mS x.2.1, 0, -1, 0) ev r c v 0 = _ from if_neg q]; exact q)
  · refine pw_aload_n (tk tkX8_states 20 rfl) rfl ?_
    rw [hb0 (of_decide_eq_true c30)]
    refine pw_callV (ct_X8_follows (bgW (uM7 (uM7 (uM7 (uM7 x (upd (mF x.2.1) 12 0)) (upd (upd (mF x.2.1) 12 0) 11 (-1))) (upd (upd (upd (mF x.2.1) 12 0) 11 (-1)) 13 0)) (upd (upd (upd (upd (mF x.2.1) 12 0) 11 (-1)) 13 0) 10 (-1))) u ev r c v 0) u (mtC (mS x.2.1) ev r (nI c) v false) (alt_VS hv ev v hr hc) rfl rfl rfl) okX8_follows (tk tkX8_states 21 rfl) mkX8_83 imX8_follows seX8_follows (hp_ot _ 11) rfl rfl rfl (by decide) (by decide) (Nat.le_of_ble_eq_true rfl) (fun r h2 q => ?_) (fun E h2 q => by obtain ⟨y, e1, e2, e3, ho⟩ := q; cases ho)
    obtain ⟨y, rfl, e2, e3, ho⟩ := q
    cases ho
    have e4 : tX y = R := by
      rw [hR, e3, ← hb0 (of_decide_eq_true c30), eb]
      exact (if_pos (of_decide_eq_true c30)).symm
    have e5 : FR 0 x y := (f0.tr fb).tr (by rw [hb0 (of_decide_eq_true c30)]; exact e2)
    refine pw_ifb (tgt := 44) (tk tkX8_states 22 rfl) (by decide) (fun c37 => ?_) (fun c37 => ?_)
    · exact J44 _ e5 e4 (by rw [← e4]; exact of_decide_eq_false c37)
    · exact J40 _ e5 e4 (by rw [← e4]; exact of_decide_eq_true c37)
