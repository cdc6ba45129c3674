theorem VS_val {u : Nat} {s : Nat → Int32} (h : VS u s) {k : Nat} (v : Int32) (h6 : 6 ≤ k) (hk : k < 24) : VS u (upd s k v) :=
  h.of (fun j a _ _ => upd_nt _ _ (by omega)) (by rw [upd_nt _ _ (by omega)]; exact h.2.2.2.1) (fun j hj => by rw [upd_nt _ _ (by omega)]; exact h.2.2.2.2.1 j hj)
def FA (x y : XW) : Prop := y.1 = x.1 ∧ y.2.2 = x.2.2 ∧ E132 (mA y.2.1) (mS x.2.1) ∧ mHi y.2.1 = mHi x.2.1 ∧ mSl y.2.1 = mSl x.2.1 ∧ mTx y.2.1 = mTx x.2.1 ∧ ∀ k, k ≠ 10 → k ≠ 11 → k ≠ 12 → k ≠ 13 → mF y.2.1 k = mF x.2.1 k
theorem cpN_E (f g : Nat → Int32) : E132 (cpN 132 f g) f := fun j hj => if_pos hj
theorem FR.fa {x y : XW} (h : FR 0 (xPA x) y) : FA x y := by
  obtain ⟨a1, a2, a3, a4, a5, a6, a7, a8⟩ := h
  exact ⟨a1, a2, by rw [a3]; exact cpN_E _ _, a4, a5, a6, a7⟩
def insR (u : Nat) (s : Nat → Int32) (r : Nat) (a b c : Int32) : TT := if s r = 1 then (s, 0, -1, 1) else hapT u 6 (upd (upd (upd s (6 + 3 * r + 0) a) (6 + 3 * r + 1) b) (6 + 3 * r + 2) c, 0, -1, 0) 0 r 0 0 0
def updR (u : Nat) (s : Nat → Int32) (r c : Nat) (v : Int32) : TT := if s r = 0 then (s, 0, -1, 1) else if s (6 + 3 * r + c) = v then (s, 0, -1, 0) else hapT u 6 (s, 0, -1, 0) 1 r c v 0
def remR (u : Nat) (s : Nat → Int32) (r : Nat) : TT := if s r = 1 then hapT u 6 (s, 0, -1, 0) 2 r 0 0 0 else (s, 0, -1, 1)
def stP (x : XW) (R : TT) (w : Prop) : Out → Hp → Prop := fun o h2 => ∃ y, h2 = hp y ∧ FA x y ∧ (E132 (mS y.2.1) (fin R (mS x.2.1)) ∧ (R.2.2.2 = 0 → mS y.2.1 = fin R (mS x.2.1))) ∧ o = .inl (some (.int (bI (decide (R.2.2.2 = 0))))) ∧ (w → mF y.2.1 12 = R.2.1 ∧ mF y.2.1 11 = R.2.2.1 ∧ mF y.2.1 13 = R.2.2.2)
theorem stP.of {x x0 : XW} {R : TT} {w : Prop} {o : Out} {h2 : Hp} (h : stQ x0 R o h2) (hf : FR 0 (xPA x) x0) : stP x R w o h2 := by
  obtain ⟨y, e, f, a, b, c, d, g⟩ := h
  refine ⟨y, e, (hf.tr f).fa, ⟨?_, fun h0 => by rw [d]; unfold fin; rw [if_pos h0, if_pos h0]⟩, g, fun _ => ⟨a, b, c⟩⟩
  rw [d]
  unfold fin
  by_cases h0 : R.2.2.2 = 0
  · rw [if_pos h0, if_pos h0]; exact fun _ _ => rfl
  · rw [if_neg h0, if_neg h0]
    intro j hj
    rw [cpN_E _ _ j hj, hf.2.2.1]
    exact cpN_E _ _ j hj
set_option maxRecDepth 100000 in
set_option maxHeartbeats 4000000 in
theorem ct_X8_inserts (x : XW) (u : Nat) (hv : VS u (mS x.2.1)) (r : Nat) (a b c : Int32) (hr : r < 6) : CT MX8_inserts 6 0 [.ref 171, .int (nI r), .int a, .int b, .int c] (hp x) (stP x (insR u (mS x.2.1) r a b c) ((insR u (mS x.2.1) r a b c).2.2.2 ≠ 1)) := by
  refine ct_of (by decide +kernel) (by decide) rfl (k := 0) (ls := [some (.ref 171), some (.int (nI r)), some (.int a), some (.int b), some (.int c)]) rfl (Nat.le_of_ble_eq_true rfl) ?_
  have hv1 : VS u (mS (uM1 (uM1 (uM1 (xPA x) (upd (mS x.2.1) (6 + 3 * r + 0) a)) (upd (upd (mS x.2.1) (6 + 3 * r + 0) a) (6 + 3 * r + 1) b)) (upd (upd (upd (mS x.2.1) (6 + 3 * r + 0) a) (6 + 3 * r + 1) b) (6 + 3 * r + 2) c)).2.1) := VS_val (VS_val (VS_val hv a (by omega) (by omega)) b (by omega) (by omega)) c (by omega) (by omega)
  have f0 : FR 0 (xPA x) (uM1 (uM1 (uM1 (xPA x) (upd (mS x.2.1) (6 + 3 * r + 0) a)) (upd (upd (mS x.2.1) (6 + 3 * r + 0) a) (6 + 3 * r + 1) b)) (upd (upd (upd (mS x.2.1) (6 + 3 * r + 0) a) (6 + 3 * r + 1) b) (6 + 3 * r + 2) c)) := ((FR.s _ _).tr (FR.s _ _)).tr (FR.s _ _)
  refine pw_aload_n (tk tkX8_inserts 0 rfl) rfl ?_
  refine pw_cV0 (ct_X8_putAside x) okX8_putAside (tk tkX8_inserts 1 rfl) mkX8_39 imX8_putAside seX8_putAside (hp_ot _ 11) rfl rfl rfl (by decide) (by decide) (Nat.le_of_ble_eq_true rfl) ?_
  refine pw_aload_n (tk tkX8_inserts 2 rfl) rfl ?_
  refine g8_s (tk tkX8_inserts 3 rfl) fkX8_7 ?_
  refine pw_iconst (v := 0) (tk tkX8_inserts 4 rfl) (by decide) ?_
  refine pw_iload_n (tk tkX8_inserts 5 rfl) rfl ?_
  refine pw_iadd (tk tkX8_inserts 6 rfl) ?_
  refine al_s_e (e := r) (tk tkX8_inserts 7 rfl) (Int32.zero_add _) (by first | decide | omega) ?_
  refine pw_iconst (v := 1) (tk tkX8_inserts 8 rfl) (by decide) ?_
  refine pw_icmp_ne (tgt := 18) (tk tkX8_inserts 9 rfl) (by decide) (fun c13 => ?_) (fun c13 => ?_)
  · refine pw_aload_n (tk tkX8_inserts 12 rfl) rfl ?_
    refine g8_s (tk tkX8_inserts 13 rfl) fkX8_7 ?_
    refine pw_iload_n (tk tkX8_inserts 14 rfl) rfl ?_
    refine pw_iconst (v := 0) (tk tkX8_inserts 15 rfl) (by decide) ?_
    refine pw_cS (ct_X8_of _ r 0) okX8_of (tk tkX8_inserts 16 rfl) mkX8_49 stX8_of rfl rfl (by decide) (by decide) (Nat.le_of_ble_eq_true rfl) ?_
    refine pw_iload_n (tk tkX8_inserts 17 rfl) rfl ?_
    refine as_s_e (e := 6 + 3 * r + 0) (tk tkX8_inserts 18 rfl) rfl (by first | decide | omega) ?_
    refine pw_aload_n (tk tkX8_inserts 19 rfl) rfl ?_
    refine g8_s (tk tkX8_inserts 20 rfl) fkX8_7 ?_
    refine pw_iload_n (tk tkX8_inserts 21 rfl) rfl ?_
    refine pw_iconst (v := 1) (tk tkX8_inserts 22 rfl) (by decide) ?_
    refine pw_cS (ct_X8_of _ r 1) okX8_of (tk tkX8_inserts 23 rfl) mkX8_49 stX8_of rfl rfl (by decide) (by decide) (Nat.le_of_ble_eq_true rfl) ?_
    refine pw_iload_n (tk tkX8_inserts 24 rfl) rfl ?_
    refine as_s_e (e := 6 + 3 * r + 1) (tk tkX8_inserts 25 rfl) rfl (by first | decide | omega) ?_
    refine pw_aload_n (tk tkX8_inserts 26 rfl) rfl ?_
    refine g8_s (tk tkX8_inserts 27 rfl) fkX8_7 ?_
    refine pw_iload_n (tk tkX8_inserts 28 rfl) rfl ?_
    refine pw_iconst (v := 2) (tk tkX8_inserts 29 rfl) (by decide) ?_
    refine pw_cS (ct_X8_of _ r 2) okX8_of (tk tkX8_inserts 30 rfl) mkX8_49 stX8_of rfl rfl (by decide) (by decide) (Nat.le_of_ble_eq_true rfl) ?_
    refine pw_iload (tk tkX8_inserts 31 rfl) rfl ?_
    refine as_s_e (e := 6 + 3 * r + 2) (tk tkX8_inserts 32 rfl) rfl (by first | decide | omega) ?_
    refine pw_aload_n (tk tkX8_inserts 33 rfl) rfl ?_
    refine pw_iconst (v := 0) (tk tkX8_inserts 34 rfl) (by decide) ?_
    refine pw_iload_n (tk tkX8_inserts 35 rfl) rfl ?_
    refine pw_iconst (v := 0) (tk tkX8_inserts 36 rfl) (by decide) ?_
    refine pw_iconst (v := 0) (tk tkX8_inserts 37 rfl) (by decide) ?_
    refine pw_callV (ct_X8_states (uM1 (uM1 (uM1 (xPA x) (upd (mS x.2.1) (6 + 3 * r + 0) a)) (upd (upd (mS x.2.1) (6 + 3 * r + 0) a) (6 + 3 * r + 1) b)) (upd (upd (upd (mS x.2.1) (6 + 3 * r + 0) a) (6 + 3 * r + 1) b) (6 + 3 * r + 2) c)) u hv1 0 r 0 0 hr (by decide)) okX8_states (tk tkX8_inserts 38 rfl) mkX8_90 imX8_states seX8_states (hp_ot _ 11) rfl rfl rfl (by decide) (by decide) (Nat.le_of_ble_eq_true rfl) (fun r h2 q => ?_) (fun E h2 q => by obtain ⟨y, e1, e2, e3, e4, e5, e6, ho⟩ := q; cases ho)
    have q0 := q
    obtain ⟨y, e1, e2, e3, e4, e5, e6, ho⟩ := q
    cases ho
    have eR : insR u (mS x.2.1) r a b c = hapT u 6 (mS (uM1 (uM1 (uM1 (xPA x) (upd (mS x.2.1) (6 + 3 * r + 0) a)) (upd (upd (mS x.2.1) (6 + 3 * r + 0) a) (6 + 3 * r + 1) b)) (upd (upd (upd (mS x.2.1) (6 + 3 * r + 0) a) (6 + 3 * r + 1) b) (6 + 3 * r + 2) c)).2.1, 0, -1, 0) 0 r 0 0 0 := if_neg c13
    refine pw_ireturn (tk tkX8_inserts 39 rfl) rfl (by decide) (nar_bI _) ?_
    rw [eR]
    exact stP.of q0 f0
  · refine pw_iconst (v := 0) (tk tkX8_inserts 10 rfl) (by decide) ?_
    refine pw_ireturn (tk tkX8_inserts 11 rfl) rfl (by decide) (by first | rfl | exact nar_bI _) ?_
    have eR : insR u (mS x.2.1) r a b c = (mS x.2.1, 0, -1, 1) := if_pos c13
    rw [eR]
    exact ⟨_, rfl, (FR.rf 0 (xPA x)).fa, ⟨fun _ _ => rfl, fun h => absurd h (show ¬ (1 : Int32) = 0 by decide)⟩, rfl, fun w => absurd rfl w⟩
set_option maxRecDepth 100000 in
set_option maxHeartbeats 4000000 in
theorem ct_X8_updates (x : XW) (u : Nat) (hv : VS u (mS x.2.1)) (r c : Nat) (v : Int32) (hr : r < 6) (hc : c < 3) : CT MX8_updates 6 0 [.ref 171, .int (nI r), .int (nI c), .int v] (hp x) (stP x (updR u (mS x.2.1) r c v) True) := by
  refine ct_of (by decide +kernel) (by decide) rfl (k := 0) (ls := [some (.ref 171), some (.int (nI r)), some (.int (nI c)), some (.int v)]) rfl (Nat.le_of_ble_eq_true rfl) ?_
  have f0 : FR 0 (xPA x) (uM7 (uM7 (uM7 (xPA x) (upd (mF x.2.1) 12 0)) (upd (upd (mF x.2.1) 12 0) 11 (-1))) (upd (upd (upd (mF x.2.1) 12 0) 11 (-1)) 13 0)) := ((FR.f (xPA x) 12 0 (by omega)).tr (FR.f _ 11 (-1) (by omega))).tr (FR.f _ 13 0 (by omega))
  have f1 : FR 0 (xPA x) (uM7 (uM7 (uM7 (xPA x) (upd (mF x.2.1) 12 0)) (upd (upd (mF x.2.1) 12 0) 11 (-1))) (upd (upd (upd (mF x.2.1) 12 0) 11 (-1)) 13 1)) := ((FR.f (xPA x) 12 0 (by omega)).tr (FR.f _ 11 (-1) (by omega))).tr (FR.f _ 13 1 (by omega))
  refine pw_aload_n (tk tkX8_updates 0 rfl) rfl ?_
  refine pw_cV0 (ct_X8_putAside x) okX8_putAside (tk tkX8_updates 1 rfl) mkX8_39 imX8_putAside seX8_putAside (hp_ot _ 11) rfl rfl rfl (by decide) (by decide) (Nat.le_of_ble_eq_true rfl) ?_
  refine pw_aload_n (tk tkX8_updates 2 rfl) rfl ?_
  refine pw_iconst (v := 0) (tk tkX8_updates 3 rfl) (by decide) ?_
  refine p8_happened (tk tkX8_updates 4 rfl) fkX8_52 ?_
  refine pw_aload_n (tk tkX8_updates 5 rfl) rfl ?_
  refine pw_iconst (v := (-1)) (tk tkX8_updates 6 rfl) (by decide) ?_
  refine p8_deepest (tk tkX8_updates 7 rfl) fkX8_65 ?_
  refine pw_aload_n (tk tkX8_updates 8 rfl) rfl ?_
  refine pw_aload_n (tk tkX8_updates 9 rfl) rfl ?_
  refine g8_s (tk tkX8_updates 10 rfl) fkX8_7 ?_
  refine pw_iconst (v := 0) (tk tkX8_updates 11 rfl) (by decide) ?_
  refine pw_iload_n (tk tkX8_updates 12 rfl) rfl ?_
  refine pw_iadd (tk tkX8_updates 13 rfl) ?_
  refine al_s_e (e := r) (tk tkX8_updates 14 rfl) (Int32.zero_add _) (by first | decide | omega) ?_
  refine pw_if_ne (tgt := 30) (tk tkX8_updates 15 rfl) (by decide) (fun c23 => ?_) (fun c23 => ?_)
  · refine pw_iconst (v := 0) (tk tkX8_updates 18 rfl) (by decide) ?_
    refine p8_refused (tk tkX8_updates 19 rfl) fkX8_59 ?_
    refine pw_aload_n (tk tkX8_updates 20 rfl) rfl ?_
    refine g8_refused (tk tkX8_updates 21 rfl) fkX8_59 ?_
    refine pw_if_ne (tgt := 70) (tk tkX8_updates 22 rfl) (by decide) (fun c38 => absurd rfl c38) (fun c38 => ?_)
    refine pw_aload_n (tk tkX8_updates 23 rfl) rfl ?_
    refine g8_s (tk tkX8_updates 24 rfl) fkX8_7 ?_
    refine pw_iload_n (tk tkX8_updates 25 rfl) rfl ?_
    refine pw_iload_n (tk tkX8_updates 26 rfl) rfl ?_
    refine pw_cS (ct_X8_of _ r c) okX8_of (tk tkX8_updates 27 rfl) mkX8_49 stX8_of rfl rfl (by decide) (by decide) (Nat.le_of_ble_eq_true rfl) ?_
    refine al_s_e (e := 6 + 3 * r + c) (tk tkX8_updates 28 rfl) rfl (by first | decide | omega) ?_
    refine pw_iload_n (tk tkX8_updates 29 rfl) rfl ?_
    refine pw_icmp_eq (tgt := 66) (tk tkX8_updates 30 rfl) (by decide) (fun c52 => ?_) (fun c52 => ?_)
    · refine pw_iconst (v := 1) (tk tkX8_updates 38 rfl) (by decide) ?_
      refine pw_goto (tgt := 71) (tk tkX8_updates 39 rfl) (by decide) ?_
      refine pw_ireturn (tk tkX8_updates 41 rfl) rfl (by decide) (by first | rfl | exact nar_bI _) ?_
      have eR : updR u (mS x.2.1) r c v = (mS x.2.1, 0, -1, 0) := (if_neg c23).trans (if_pos c52)
      rw [eR]
      exact ⟨_, rfl, f0.fa, (have q9 : ∀ j, mS x.2.1 j = upd (mS x.2.1) 98 (mS x.2.1 98 + 0) j := fun j => by rw [Int32.add_zero]; unfold upd; by_cases k : j = 98 <;> simp [k]
        ⟨fun j _ => q9 j, fun _ => funext q9⟩), rfl, fun _ => ⟨rfl, rfl, rfl⟩⟩
    · refine pw_aload_n (tk tkX8_updates 31 rfl) rfl ?_
      refine pw_iconst (v := 1) (tk tkX8_updates 32 rfl) (by decide) ?_
      refine pw_iload_n (tk tkX8_updates 33 rfl) rfl ?_
      refine pw_iload_n (tk tkX8_updates 34 rfl) rfl ?_
      refine pw_iload_n (tk tkX8_updates 35 rfl) rfl ?_
      refine pw_callV (ct_X8_states (uM7 (uM7 (uM7 (xPA x) (upd (mF x.2.1) 12 0)) (upd (upd (mF x.2.1) 12 0) 11 (-1))) (upd (upd (upd (mF x.2.1) 12 0) 11 (-1)) 13 0)) u hv 1 r c v hr hc) okX8_states (tk tkX8_updates 36 rfl) mkX8_90 imX8_states seX8_states (hp_ot _ 11) rfl rfl rfl (by decide) (by decide) (Nat.le_of_ble_eq_true rfl) (fun r h2 q => ?_) (fun E h2 q => by obtain ⟨y, e1, e2, e3, e4, e5, e6, ho⟩ := q; cases ho)
      have q0 := q
      obtain ⟨y, e1, e2, e3, e4, e5, e6, ho⟩ := q
      cases ho
      have eR : updR u (mS x.2.1) r c v = hapT u 6 (mS (uM7 (uM7 (uM7 (xPA x) (upd (mF x.2.1) 12 0)) (upd (upd (mF x.2.1) 12 0) 11 (-1))) (upd (upd (upd (mF x.2.1) 12 0) 11 (-1)) 13 0)).2.1, 0, -1, 0) 1 r c v 0 := (if_neg c23).trans (if_neg c52)
      refine pw_ifb (tgt := 70) (tk tkX8_updates 37 rfl) (by decide) (fun c63 => ?_) (fun c63 => ?_)
      · refine pw_iconst (v := 0) (tk tkX8_updates 40 rfl) (by decide) ?_
        refine pw_ireturn (tk tkX8_updates 41 rfl) rfl (by decide) (by first | rfl | exact nar_bI _) ?_
        rw [eR]
        rw [c63] at q0
        exact stP.of q0 f0
      · refine pw_iconst (v := 1) (tk tkX8_updates 38 rfl) (by decide) ?_
        refine pw_goto (tgt := 71) (tk tkX8_updates 39 rfl) (by decide) ?_
        refine pw_ireturn (tk tkX8_updates 41 rfl) rfl (by decide) (by first | rfl | exact nar_bI _) ?_
        rw [eR]
        rw [c63] at q0
        exact stP.of q0 f0
  · refine pw_iconst (v := 1) (tk tkX8_updates 16 rfl) (by decide) ?_
    refine pw_goto (tgt := 31) (tk tkX8_updates 17 rfl) (by decide) ?_
    refine p8_refused (tk tkX8_updates 19 rfl) fkX8_59 ?_
    refine pw_aload_n (tk tkX8_updates 20 rfl) rfl ?_
    refine g8_refused (tk tkX8_updates 21 rfl) fkX8_59 ?_
    refine pw_if_ne (tgt := 70) (tk tkX8_updates 22 rfl) (by decide) (fun c38 => ?_) (fun c38 => absurd (show (1 : Int32) = 0 from c38) (by decide))
    refine pw_iconst (v := 0) (tk tkX8_updates 40 rfl) (by decide) ?_
    refine pw_ireturn (tk tkX8_updates 41 rfl) rfl (by decide) (by first | rfl | exact nar_bI _) ?_
    have eR : updR u (mS x.2.1) r c v = (mS x.2.1, 0, -1, 1) := if_pos c23
    rw [eR]
    exact ⟨_, rfl, f1.fa, ⟨fun _ _ => rfl, fun h => absurd h (show ¬ (1 : Int32) = 0 by decide)⟩, rfl, fun _ => ⟨rfl, rfl, rfl⟩⟩
set_option maxRecDepth 100000 in
set_option maxHeartbeats 4000000 in
theorem ct_X8_removes (x : XW) (u : Nat) (hv : VS u (mS x.2.1)) (r : Nat) (hr : r < 6) : CT MX8_removes 6 0 [.ref 171, .int (nI r)] (hp x) (stP x (remR u (mS x.2.1) r) ((remR u (mS x.2.1) r).2.2.2 ≠ 1)) := by
  refine ct_of (by decide +kernel) (by decide) rfl (k := 0) (ls := [some (.ref 171), some (.int (nI r))]) rfl (Nat.le_of_ble_eq_true rfl) ?_
  refine pw_aload_n (tk tkX8_removes 0 rfl) rfl ?_
  refine pw_cV0 (ct_X8_putAside x) okX8_putAside (tk tkX8_removes 1 rfl) mkX8_39 imX8_putAside seX8_putAside (hp_ot _ 11) rfl rfl rfl (by decide) (by decide) (Nat.le_of_ble_eq_true rfl) ?_
  refine pw_aload_n (tk tkX8_removes 2 rfl) rfl ?_
  refine g8_s (tk tkX8_removes 3 rfl) fkX8_7 ?_
  refine pw_iconst (v := 0) (tk tkX8_removes 4 rfl) (by decide) ?_
  refine pw_iload_n (tk tkX8_removes 5 rfl) rfl ?_
  refine pw_iadd (tk tkX8_removes 6 rfl) ?_
  refine al_s_e (e := r) (tk tkX8_removes 7 rfl) (Int32.zero_add _) (by first | decide | omega) ?_
  refine pw_iconst (v := 1) (tk tkX8_removes 8 rfl) (by decide) ?_
  refine pw_icmp_ne (tgt := 31) (tk tkX8_removes 9 rfl) (by decide) (fun c13 => ?_) (fun c13 => ?_)
  · refine pw_iconst (v := 0) (tk tkX8_removes 19 rfl) (by decide) ?_
    refine pw_ireturn (tk tkX8_removes 20 rfl) rfl (by decide) (by first | rfl | exact nar_bI _) ?_
    have eR : remR u (mS x.2.1) r = (mS x.2.1, 0, -1, 1) := if_neg c13
    rw [eR]
    exact ⟨_, rfl, (FR.rf 0 (xPA x)).fa, ⟨fun _ _ => rfl, fun h => absurd h (show ¬ (1 : Int32) = 0 by decide)⟩, rfl, fun w => absurd rfl w⟩
  · refine pw_aload_n (tk tkX8_removes 10 rfl) rfl ?_
    refine pw_iconst (v := 2) (tk tkX8_removes 11 rfl) (by decide) ?_
    refine pw_iload_n (tk tkX8_removes 12 rfl) rfl ?_
    refine pw_iconst (v := 0) (tk tkX8_removes 13 rfl) (by decide) ?_
    refine pw_iconst (v := 0) (tk tkX8_removes 14 rfl) (by decide) ?_
    refine pw_callV (ct_X8_states (xPA x) u hv 2 r 0 0 hr (by decide)) okX8_states (tk tkX8_removes 15 rfl) mkX8_90 imX8_states seX8_states (hp_ot _ 11) rfl rfl rfl (by decide) (by decide) (Nat.le_of_ble_eq_true rfl) (fun r h2 q => ?_) (fun E h2 q => by obtain ⟨y, e1, e2, e3, e4, e5, e6, ho⟩ := q; cases ho)
    have q0 := q
    obtain ⟨y, e1, e2, e3, e4, e5, e6, ho⟩ := q
    cases ho
    have eR : remR u (mS x.2.1) r = hapT u 6 (mS (xPA x).2.1, 0, -1, 0) 2 r 0 0 0 := if_pos c13
    refine pw_ifb (tgt := 31) (tk tkX8_removes 16 rfl) (by decide) (fun c24 => ?_) (fun c24 => ?_)
    · refine pw_iconst (v := 0) (tk tkX8_removes 19 rfl) (by decide) ?_
      refine pw_ireturn (tk tkX8_removes 20 rfl) rfl (by decide) (by first | rfl | exact nar_bI _) ?_
      rw [eR]
      rw [c24] at q0
      exact stP.of q0 (FR.rf 0 (xPA x))
    · refine pw_iconst (v := 1) (tk tkX8_removes 17 rfl) (by decide) ?_
      refine pw_goto (tgt := 32) (tk tkX8_removes 18 rfl) (by decide) ?_
      refine pw_ireturn (tk tkX8_removes 20 rfl) rfl (by decide) (by first | rfl | exact nar_bI _) ?_
      rw [eR]
      rw [c24] at q0
      exact stP.of q0 (FR.rf 0 (xPA x))
