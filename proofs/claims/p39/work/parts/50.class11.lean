theorem fg_app (rl : Nat) : ∀ a b : LL, fg rl (a ++ b) = fg rl a ++ fg rl b
  | [], _ => rfl
  | p :: t, b => by
    show (if _ then _ else _ : LL) = (if _ then _ else _ : LL) ++ _
    by_cases h : p.1 = nI rl
    · rw [if_pos h, if_pos h]; exact fg_app rl t b
    · rw [if_neg h, if_neg h]; show _ :: fg rl (t ++ b) = _ :: (fg rl t ++ fg rl b); rw [fg_app rl t b]
theorem take_q {l : LL} {k : Nat} {p : Int32 × Int32} (h : l[k]? = some p) : l.take (k + 1) = l.take k ++ [p] := by
  obtain ⟨h1, h2⟩ := List.getElem?_eq_some_iff.mp h
  rw [← h2]; exact List.take_succ_eq_append_getElem h1
theorem drL_l {t : Nat → Int32} {rl : Nat} {l : LL} (hl : l.length ≤ 16) (hm : ∀ k p, l[k]? = some p → t (100 + k) = p.1 ∧ t (116 + k) = p.2) : ∀ k, k ≤ l.length → (drL t rl k).2 = (fg rl (l.take k)).length ∧ (∀ j p, (fg rl (l.take k))[j]? = some p → (drL t rl k).1 (100 + j) = p.1 ∧ (drL t rl k).1 (116 + j) = p.2) ∧ ∀ j, k ≤ j → j < 16 → (drL t rl k).1 (100 + j) = t (100 + j) ∧ (drL t rl k).1 (116 + j) = t (116 + j)
  | 0, _ => ⟨rfl, (fun j p h => by rw [List.take_zero] at h; cases h), fun j _ _ => ⟨rfl, rfl⟩⟩
  | k + 1, hk => by
    obtain ⟨i1, i2, i3⟩ := drL_l hl hm k (by omega)
    obtain ⟨p, hp0⟩ : ∃ p, l[k]? = some p := ⟨_, List.getElem?_eq_getElem (by omega)⟩
    obtain ⟨p1, p2⟩ := hm k p hp0
    obtain ⟨q1, q2⟩ := i3 k (Nat.le_refl _) (by omega)
    have cle := drL_le t rl k
    obtain ⟨D, eD⟩ : ∃ D, D = (drL t rl k).1 := ⟨_, rfl⟩
    obtain ⟨c, ec⟩ : ∃ c, c = (drL t rl k).2 := ⟨_, rfl⟩
    rw [← eD] at i2 i3 q1 q2
    rw [← ec] at i1 cle
    have e1 : (drL t rl (k + 1)).1 = upd (upd D (100 + c) (rnm rl p.1)) (116 + c) p.2 := by
      show upd (upd (drL t rl k).1 (100 + (drL t rl k).2) (drV (drL t rl k).1 rl k)) (116 + (drL t rl k).2) (upd (drL t rl k).1 (100 + (drL t rl k).2) (drV (drL t rl k).1 rl k) (116 + k)) = _
      rw [← eD, ← ec, upd_nt _ _ (show 116 + k ≠ 100 + c by omega), q2, p2]
      have : drV D rl k = rnm rl p.1 := by unfold drV rnm; rw [q1, p1]
      rw [this]
    have e2 : (drL t rl (k + 1)).2 = c + (if p.1 = nI rl then 0 else 1) := by
      show (drL t rl k).2 + (if (drL t rl k).1 (100 + k) = nI rl then 0 else 1) = _
      rw [← eD, ← ec, q1, p1]
    rw [e1, e2, take_q hp0, fg_app]
    refine ⟨?_, ?_, fun j h1 h2 => ?_⟩
    · rw [List.length_append, ← i1]
      show _ = _ + (if p.1 = nI rl then _ else _ : LL).length
      by_cases h : p.1 = nI rl
      · rw [if_pos h, if_pos h]; rfl
      · rw [if_neg h, if_neg h]; rfl
    · intro j q hq
      have lt : ∀ j q, (fg rl (l.take k))[j]? = some q → (upd (upd D (100 + c) (rnm rl p.1)) (116 + c) p.2) (100 + j) = q.1 ∧ (upd (upd D (100 + c) (rnm rl p.1)) (116 + c) p.2) (116 + j) = q.2 := fun j q hq => by
        have := qlt hq
        rw [upd_nt _ _ (by omega), upd_nt _ _ (by omega), upd_nt _ _ (by omega), upd_nt _ _ (by omega)]
        exact i2 j q hq
      have e3 : fg rl [p] = if p.1 = nI rl then [] else [(rnm rl p.1, p.2)] := rfl
      rw [e3] at hq
      by_cases h : p.1 = nI rl
      · rw [if_pos h, List.append_nil] at hq; exact lt j q hq
      · rw [if_neg h] at hq
        rcases Nat.lt_or_ge j (fg rl (l.take k)).length with w | w
        · rw [List.getElem?_append_left w] at hq; exact lt j q hq
        · rw [List.getElem?_append_right w] at hq
          have hj : j = c := by
            have := (List.getElem?_eq_some_iff.mp hq).1
            rw [List.length_singleton] at this; omega
          subst hj
          rw [i1, Nat.sub_self] at hq
          cases hq
          rw [upd_nt _ _ (by omega), upd_at, upd_at]
          exact ⟨rfl, rfl⟩
    · rw [upd_nt _ _ (by omega), upd_nt _ _ (by omega), upd_nt _ _ (by omega), upd_nt _ _ (by omega)]
      exact i3 j (by omega) h2
theorem RS1.drop {σ τ : SS} {s : Nat → Int32} {w : Int32} {u rl : Nat} {l : LL} (h : RS1 σ s w) (hv : VS u s) (hr : rl < u) (hm : LM s l) (h1 : sTh τ = sTh σ) (h2 : sVa τ = sVa σ) (h3 : sRu τ = srR rl (u - 1 - rl) (sRu σ)) (h4 : sSc τ = upd (sSc σ) 0 (nI (u - 1))) (h5 : LR τ (fg rl l)) : RS1 τ (drS s u rl l.length) w := by
  have hu8 := hv.1
  obtain ⟨a, b, c, d, f, g, _⟩ := h
  obtain ⟨m1, m2, m3⟩ := hm
  have nt : ∀ j, j < 99 → drS s u rl l.length j = drB s u rl j := fun j hj => by unfold drS; rw [upd_nt _ _ (by omega), drL_nt _ _ (by omega)]
  have hi : ∀ j, j < 25 ∨ j = 98 → drS s u rl l.length j = s j := fun j hj => by rw [nt j (by omega), drB_hi s hr hu8 (by omega) (by omega)]
  have e25 : drS s u rl l.length 25 = nI (u - 1) := by rw [nt 25 (by omega)]; unfold drB shR; rw [if_neg (by omega), upd_at]
  have eu : uN (drS s u rl l.length) = u - 1 := by unfold uN; rw [e25, nI_clamp (by omega)]
  refine ⟨fun j hj => by rw [h1, hi j (by omega)]; exact a j hj, fun j hj => by rw [h2, hi _ (by omega)]; exact b j hj, by rw [h4, e25, upd_at], by rw [h4, hi 24 (by omega), upd_nt _ _ (by decide)]; exact d, by rw [h4, upd_nt _ _ (by decide)]; exact f, fun i k hi2 hk => ?_, _, h5, Nat.le_trans (fg_len _ _) m1, ?_, ?_⟩
  · rw [eu] at hi2
    rw [show rN (drS s u rl l.length) i k = rN (drB s u rl) i k from nt _ (by omega), drB_ru s hr hi2 hk, h3]
    unfold srR
    by_cases q : i < rl
    · rw [if_neg (by omega), if_pos q]; exact g i k (by rw [hv.un]; omega) hk
    · rw [if_pos (by omega), if_neg q, cp9_at _ _ _ hk]; exact g (i + 1) k (by rw [hv.un]; omega) hk
  · obtain ⟨q1, _, _⟩ := drL_l (rl := rl) (t := drB s u rl) m1 (fun k p hk => by have := qlt hk; rw [drB_hi s hr hu8 (by omega) (by omega), drB_hi s hr hu8 (by omega) (by omega)]; exact m3 k p hk) l.length (Nat.le_refl _)
    rw [List.take_length] at q1
    unfold drS; rw [upd_at, q1]
  · intro k p hk
    obtain ⟨_, q2, _⟩ := drL_l (rl := rl) (t := drB s u rl) m1 (fun k p hk => by have := qlt hk; rw [drB_hi s hr hu8 (by omega) (by omega), drB_hi s hr hu8 (by omega) (by omega)]; exact m3 k p hk) l.length (Nat.le_refl _)
    rw [List.take_length] at q2
    have := qlt hk
    have := fg_len rl l
    unfold drS; rw [upd_nt _ _ (by omega), upd_nt _ _ (by omega)]
    exact q2 k p hk
set_option maxRecDepth 100000 in
set_option maxHeartbeats 4000000 in
theorem ct_X7_dropRule (x : XW) (a : AM) (hc : RC a x.1) (hv : VS (uN (aS a)) (aS a)) (r : Int32) : CT MX7_dropRule 30 6 [.ref 160, .int r] (hp x) (CQ [(1, "java/lang/IndexOutOfBoundsException")] x (sdropRule a r)) := by
  refine ct_of (by decide +kernel) (by decide) rfl (k := 1) (ls := [some (.ref 160), some (.int r), none]) rfl (Nat.le_of_ble_eq_true rfl) ?_
  obtain ⟨u, eu⟩ : ∃ u, u = uN (aS a) := ⟨_, rfl⟩
  have hvu := hv
  rw [← eu] at hvu
  have hu8 := hvu.1
  have hu : sSc (cSt x.1 0) 0 = nI u := hc.1.2.2.1.trans hvu.2.1
  have e25 : aS a 25 = nI u := hvu.2.1
  obtain ⟨nx, hnx, g0, g1, g6, gh⟩ := hc.2.1
  obtain ⟨z, ez⟩ : ∃ z, z = kpX x u 0 nx (aK a) := ⟨_, rfl⟩
  obtain ⟨rz, rz2, rz0⟩ : RC (aS a, recH a (aS a), a.2.2) z.1 ∧ z.2 = x.2 ∧ cSt z.1 0 = cSt x.1 0 := by rw [ez]; exact kp_RC hc hvu hnx g1 g6 gh
  have rs : RS (cSt z.1 0) (aS a) := rz.1
  have huz : sSc (cSt z.1 0) 0 = nI u := rs.2.2.1.trans e25
  obtain ⟨l, l1, l2⟩ := rs.2.2.2.2.2.2
  refine pw_aload_n (tk tkX7_dropRule 0 rfl) rfl ?_
  refine pw_iload_n (tk tkX7_dropRule 1 rfl) rfl ?_
  refine pw_callV (ct_X7_checkRule x u hu hu8 _) okX7_checkRule (tk tkX7_dropRule 2 rfl) mkX7_89 imX7_checkRule seX7_checkRule (hp_ot _ 0) rfl rfl rfl (by decide) (by decide) (Nat.le_of_ble_eq_true rfl) (fun r h2 q => ?_) (fun E h2 q => by obtain ⟨k1, rfl, rfl⟩ := ck_r q; exact pt_out rfl rfl (CQ.thr hc rfl List.mem_cons_self (if_pos (show inR r 0 (aS a 25 - 1) = false from by rw [e25]; exact k1))))
  obtain ⟨k1, rfl, rfl⟩ := ck_l q
  refine pw_aload_n (tk tkX7_dropRule 3 rfl) rfl ?_
  refine g7_history (tk tkX7_dropRule 4 rfl) fkX7_40 ?_
  refine pw_aload_n (tk tkX7_dropRule 5 rfl) rfl ?_
  refine g7_now (tk tkX7_dropRule 6 rfl) fkX7_10 ?_
  refine pw_cV0 (ct_X1_keep x u 0 nx (aK a) (by decide) hnx g6 g0 g1 (hc.1.wb hvu)) okX1_keep (tk tkX7_dropRule 7 rfl) mkX7_75 imX1_keep seX1_keep (hp_ot _ 7) rfl rfl rfl (by decide) (by decide) (Nat.le_of_ble_eq_true rfl) ?_
  rw [← ez]
  have k2 : inR r 0 (aS a 25 - 1) = true := by rw [e25]; exact k1
  obtain ⟨r1, hr, er, er2⟩ := inR_lt rfl (by omega) k1
  refine pw_aload_n (tk tkX7_dropRule 8 rfl) rfl ?_
  refine g7_now (tk tkX7_dropRule 9 rfl) fkX7_10 ?_
  refine g4_rules (by first | assumption | decide | omega) (tk tkX7_dropRule 10 rfl) fkX7_79 ?_
  refine pw_iload_n (tk tkX7_dropRule 11 rfl) rfl ?_
  refine al_rules_e (e := r1) (by first | assumption | decide | omega) (tk tkX7_dropRule 12 rfl) er (by first | decide | omega) ?_
  refine g3_acts (by first | assumption | decide | omega) (by first | assumption | decide | omega) (tk tkX7_dropRule 13 rfl) fkX7_114 ?_
  rw [rs.2.2.2.2.2.1 r1 8 (by omega) (by omega)]
  refine pw_ist2 (tk tkX7_dropRule 14 rfl) rfl (by decide) ?_
  refine pw_aload_n (tk tkX7_dropRule 15 rfl) rfl ?_
  refine g7_now (tk tkX7_dropRule 16 rfl) fkX7_10 ?_
  refine pw_iload_n (tk tkX7_dropRule 17 rfl) rfl ?_
  refine pw_callV (show CT MX4_takeRuleAway 3 0 [.ref (16 * 0), .int r] (hp z) (trQ z 0 r1 u l) from by rw [er]; exact ct_X4_takeRuleAway z 0 r1 u l (by decide) hr (rs.wb hvu) l1) okX4_takeRuleAway (tk tkX7_dropRule 18 rfl) mkX7_117 imX4_takeRuleAway seX4_takeRuleAway (hp_st _ (by first | assumption | decide | omega) (by decide : 0 < 16)) rfl rfl rfl (by decide) (by decide) (Nat.le_of_ble_eq_true rfl) (fun r h2 q => ?_) (fun E h2 q => by cases q.1)
  obtain ⟨ho, τ, rfl, t1, t2, t3, t4, t5⟩ := q
  cases ho
  refine pw_iload_n (tk tkX7_dropRule 19 rfl) rfl ?_
  refine pw_ireturn (tk tkX7_dropRule 20 rfl) rfl (by decide) rfl ?_
  have e : sdropRule a r = (0, rN (aS a) r1 8, (drS (aS a) u r1 l.length, recH a (aS a), a.2.2)) := (if_neg (ne_f k2)).trans (by rw [er2, ← eu, l2.2.1, nI_clamp (show l.length < 2 ^ 31 from by have := l2.1; omega)])
  exact CQ.ret (rz.now ((rs.drop hvu hr l2 t1 t2 t3 t4 t5).rs (by unfold drS; rw [upd_nt _ _ (by omega), drL_nt _ _ (by omega), drB_hi _ hr hu8 (by omega) (by omega)]))) rz2 e
set_option maxRecDepth 100000 in
set_option maxHeartbeats 4000000 in
theorem ct_X7_undo (x : XW) (a : AM) (hc : RC a x.1) (hv : VS (uN (aS a)) (aS a)) (hA : VA a)  : CT MX7_undo 30 6 [.ref 160] (hp x) (CQ [(1, "java/lang/IllegalStateException")] x (sundo a )) := by
  refine ct_of (by decide +kernel) (by decide) rfl (k := 0) (ls := [some (.ref 160)]) rfl (Nat.le_of_ble_eq_true rfl) ?_
  obtain ⟨u, eu⟩ : ∃ u, u = uN (aS a) := ⟨_, rfl⟩
  have hvu := hv
  rw [← eu] at hvu
  have hu8 := hvu.1
  have hu : sSc (cSt x.1 0) 0 = nI u := hc.1.2.2.1.trans hvu.2.1
  have e25 : aS a 25 = nI u := hvu.2.1
  obtain ⟨nx, hnx, g0, g1, g6, gh⟩ := hc.2.1
  refine pw_aload_n (tk tkX7_undo 0 rfl) rfl ?_
  refine g7_history (tk tkX7_undo 1 rfl) fkX7_40 ?_
  refine g1_size (tk tkX7_undo 2 rfl) fkX7_269 ?_
  rw [g0]
  refine pw_if_ne (tgt := 21) (tk tkX7_undo 3 rfl) (by decide) (fun c7 => ?_) (fun c7 => ?_)
  · have hk0 : 0 < aK a := by
      rcases Nat.eq_zero_or_pos (aK a) with q | q
      · exact absurd (by rw [q]; rfl) c7
      · exact q
    have hl : RS (cSt x.1 (2 + (nx + 5) % 6)) (aH a (aK a - 1)) := by
      have q := gh (aK a - 1) (by omega)
      rw [show (nx + 6 - aK a + (aK a - 1)) % 6 = (nx + 5) % 6 by omega] at q
      exact q
    have hvl := hA.1 (aK a - 1) (by omega)
    refine pw_aload_n (tk tkX7_undo 9 rfl) rfl ?_
    refine g7_history (tk tkX7_undo 10 rfl) fkX7_40 ?_
    refine pw_aload_n (tk tkX7_undo 11 rfl) rfl ?_
    refine g7_now (tk tkX7_undo 12 rfl) fkX7_10 ?_
    refine pw_cV0 (ct_X1_takeBack x (uN (aH a (aK a - 1))) 0 nx (aK a) (by decide) hnx g6 hk0 g0 g1 (hl.wb hvl)) okX1_takeBack (tk tkX7_undo 13 rfl) mkX7_272 imX1_takeBack seX1_takeBack (hp_ot _ 7) rfl rfl rfl (by decide) (by decide) (Nat.le_of_ble_eq_true rfl) ?_
    refine pw_aload_n (tk tkX7_undo 14 rfl) rfl ?_
    refine g7_history (tk tkX7_undo 15 rfl) fkX7_40 ?_
    refine g1_size (tk tkX7_undo 16 rfl) fkX7_269 ?_
    refine pw_ireturn (tk tkX7_undo 17 rfl) rfl (by decide) rfl ?_
    have e : sundo a = (0, nI (aK a - 1), (aH a (aK a - 1), (aK a - 1, aH a), a.2.2)) := if_neg (by omega)
    obtain ⟨c1, _, c3, c4⟩ := hc
    refine CQ.ret (a := (aH a (aK a - 1), (aK a - 1, aH a), a.2.2)) (v := nI (aK a - 1)) ⟨?_, ⟨(nx + 5) % 6, Nat.mod_lt _ (by decide), rfl, rfl, (show aK a - 1 ≤ 6 by omega), ?_⟩, ?_, c4⟩ rfl e
    · show RS (cpS _ (cSt x.1 0) (cSt x.1 (2 + (nx + 5) % 6))) (aH a (aK a - 1))
      exact hl.cp _ rfl
    · show ∀ i, i < aK a - 1 → RS (cSt (tbX x (uN (aH a (aK a - 1))) 0 nx (aK a)).1 (2 + ((nx + 5) % 6 + 6 - (aK a - 1) + i) % 6)) (aH a i)
      intro i hi
      rw [show cSt (tbX x (uN (aH a (aK a - 1))) 0 nx (aK a)).1 (2 + ((nx + 5) % 6 + 6 - (aK a - 1) + i) % 6) = cSt x.1 (2 + ((nx + 5) % 6 + 6 - (aK a - 1) + i) % 6) from cSt_n x _ (by omega), show ((nx + 5) % 6 + 6 - (aK a - 1) + i) % 6 = (nx + 6 - aK a + i) % 6 by omega]
      exact gh i (by omega)
    · intro i hi
      refine ⟨(c3 i hi).1, fun hb => ?_⟩
      show RS (cSt (tbX x (uN (aH a (aK a - 1))) 0 nx (aK a)).1 (8 + i)) (aL a i)
      rw [show cSt (tbX x (uN (aH a (aK a - 1))) 0 nx (aK a)).1 (8 + i) = cSt x.1 (8 + i) from cSt_n x _ (by omega)]
      exact (c3 i hi).2 hb
  · exact pw_throwW twISE rfl rfl rfl ckX7_70 (tx := "no state is recorded") (List.mem_of_getElem? (i := 11) rfl) (tk tkX7_undo 4 rfl) (tk tkX7_undo 5 rfl) (tk tkX7_undo 6 rfl) (tk tkX7_undo 7 rfl) (tk tkX7_undo 8 rfl) (by decide) (by decide) (CQ.thr hc rfl List.mem_cons_self (if_pos ((nI_eq (a := aK a) (b := 0) (by omega) (by decide)).mp c7)))
