theorem RS1.n98 {σ : SS} {s : Nat → Int32} {w : Int32} (h : RS1 σ s w) (h8 : uN s ≤ 8) (v : Int32) : RS1 σ (upd s 98 v) w := by
  have nt : ∀ j, j ≠ 98 → upd s 98 v j = s j := fun j hj => upd_nt _ _ hj
  obtain ⟨a, b, c, d, f, g, l, l1, m1, m2, m3⟩ := h
  refine ⟨fun j hj => by rw [nt j (by omega)]; exact a j hj, fun j hj => by rw [nt _ (by omega)]; exact b j hj, by rw [nt 25 (by omega)]; exact c, by rw [nt 24 (by omega)]; exact d, f, fun i k hi hk => ?_, l, l1, m1, by rw [nt 99 (by omega)]; exact m2, fun k p hk => by have := qlt hk; rw [nt _ (by omega), nt _ (by omega)]; exact m3 k p hk⟩
  rw [uN_of (nt 25 (by omega))] at hi
  by_cases q : 26 + 9 * i + k = 98
  · exfalso; omega
  · exact (g i k hi hk).trans (nt _ q).symm
theorem CQ.of {exs : List (Int32 × String)} {x y : XW} {R : RS3} {o : Out} {h2 : Hp} (h : y.2 = x.2) (q : CQ exs y R o h2) : CQ exs x R o h2 := by
  obtain ⟨z, a, b, c⟩ := q; exact ⟨z, a, b.trans h, c⟩
theorem cq_l {exs : List (Int32 × String)} {R : RS3} {r : Option Value} (h : (R.1 = 0 ∧ (Sum.inl r : Out) = .inl (some (.int R.2.1))) ∨ ∃ k E, (k, E) ∈ exs ∧ R.1 = k ∧ (Sum.inl r : Out) = .inr E) : R.1 = 0 ∧ r = some (.int R.2.1) := by
  rcases h with ⟨h1, h2⟩ | ⟨k, E, _, _, h⟩
  · cases h2; exact ⟨h1, rfl⟩
  · cases h
def RNN (t : TT) : Prop := 0 ≤ t.2.2.2
theorem bgT_NN {u : Nat} {t : TT} (h : RNN t) (ev : Int32) (r c : Nat) (v : Int32) (its : Nat) : RNN (bgT u t ev r c v its) := by
  unfold bgT
  split
  · exact Int32.le_refl _
  · show 0 ≤ bgC _ _ _ _ _ _ _ _
    rcases bgC_cs t.1 u t.2.1 ev r c v (nI its) with q | q | q | ⟨q, _⟩ <;> rw [q] <;> decide
theorem lpT_NN {F : Nat → TT → TT} (hF : ∀ i t, RNN t → RNN (F i t)) (p : Nat → Bool) : ∀ (k i : Nat) (t : TT), RNN t → RNN (lpT F p k i t)
  | 0, _, _, h => h
  | k + 1, i, t, h => by
    refine lpT_NN hF p k (i + 1) _ ?_
    split
    · exact hF i t h
    · exact h
theorem acT_NN {H : TT → Int32 → Nat → Nat → Int32 → Nat → TT} (hH : ∀ t ev r c v d, RNN t → RNN (H t ev r c v d)) (d : Nat) (i : Nat) (t : TT) (h : RNN t) : RNN (acT H d i t) := by
  unfold acT
  split
  · exact h
  · split
    · exact hH _ _ _ _ _ _ h
    · split
      · show (0 : Int32) ≤ 2; decide
      · split
        · exact h
        · exact hH _ _ _ _ _ _ h
theorem hapT_NN (u : Nat) : ∀ (f : Nat) (t : TT) (ev : Int32) (r c : Nat) (v : Int32) (d : Nat), RNN t → RNN (hapT u f t ev r c v d)
  | 0, t, ev, r, c, v, d, h => bgT_NN h ev r c v d
  | f + 1, t, ev, r, c, v, d, h => by
    by_cases h0 : bgC t.1 u t.2.1 ev r c v (nI d) = 0
    · rw [show hapT u (f + 1) t ev r c v d = lpT (acT (hapT u f) d) (mtC t.1 ev r (nI c) v false) u 0 (bgT u t ev r c v d) from if_pos h0]
      exact lpT_NN (fun i t ht => acT_NN (fun t ev r c v d => hapT_NN u f t ev r c v d) d i t ht) _ u 0 _ (bgT_NN h ev r c v d)
    · rw [hapT_bad u (f + 1) t ev r c v d h0]; exact bgT_NN h ev r c v d
theorem updR_NN (u : Nat) (s : Nat → Int32) (r c : Nat) (v : Int32) : RNN (updR u s r c v) := by
  unfold updR
  split
  · show (0 : Int32) ≤ 1; decide
  · split
    · exact Int32.le_refl _
    · exact hapT_NN _ _ _ _ _ _ _ _ (Int32.le_refl _)
theorem le0_eq {v : Int32} (h : 0 ≤ v) : v ≤ 0 ↔ v = 0 := ⟨fun q => Int32.le_antisymm q h, fun q => by rw [q]; exact Int32.le_refl _⟩
set_option maxRecDepth 100000 in
set_option maxHeartbeats 4000000 in
theorem ct_X7_finishStatement (x : XW) (a : AM) (hc : RC a x.1) (hv : VS (uN (aS a)) (aS a)) (R : TT) (hR : VS (uN (aS a)) R.1) (rt : RT x R) (bad : Int32) (exs : List (Int32 × String)) (hm : (bad, "java/lang/IllegalStateException") ∈ exs) : CT MX7_finishStatement 10 1 [.ref 160] (hp x) (CQ exs x (stA a R bad)) := by
  refine ct_of (by decide +kernel) (by decide) rfl (k := 0) (ls := [some (.ref 160)]) rfl (Nat.le_of_ble_eq_true rfl) ?_
  obtain ⟨u, eu⟩ : ∃ u, u = uN (aS a) := ⟨_, rfl⟩
  have hvu := hv
  rw [← eu] at hvu hR
  have e25 : aS a 25 = nI u := hvu.2.1
  obtain ⟨nx, hnx, g0, g1, g6, gh⟩ := hc.2.1
  obtain ⟨z, ez⟩ : ∃ z, z = kpX x u 0 nx (aK a) := ⟨_, rfl⟩
  obtain ⟨rz, rz2, rz0⟩ : RC (aS a, recH a (aS a), a.2.2) z.1 ∧ z.2 = x.2 ∧ cSt z.1 0 = cSt x.1 0 := by rw [ez]; exact kp_RC hc hvu hnx g1 g6 gh
  have rs : RS (cSt z.1 0) (aS a) := rz.1
  have huz : sSc (cSt z.1 0) 0 = nI u := rs.2.2.1.trans e25
  have ez1 : cSt z.1 1 = cSt x.1 1 := by rw [ez]; exact kp_st x u nx _ (by omega)
  have ezm : cSm z.1 = cSm x.1 := by rw [ez]; rfl
  have rt1 : RS1 (cSt z.1 1) R.1 (R.1 98 + R.2.1) := by rw [ez1]; exact rt.1
  refine pw_aload_n (tk tkX7_finishStatement 0 rfl) rfl ?_
  refine g7_trial (tk tkX7_finishStatement 1 rfl) fkX7_19 ?_
  refine g5_refusal (tk tkX7_finishStatement 2 rfl) fkX7_146 ?_
  rw [rt.2.2.2]
  refine pw_if_eq (tgt := 20) (tk tkX7_finishStatement 3 rfl) (by decide) (fun c7 => ?_) (fun c7 => ?_)
  · refine pw_aload_n (tk tkX7_finishStatement 9 rfl) rfl ?_
    refine g7_history (tk tkX7_finishStatement 10 rfl) fkX7_40 ?_
    refine pw_aload_n (tk tkX7_finishStatement 11 rfl) rfl ?_
    refine g7_now (tk tkX7_finishStatement 12 rfl) fkX7_10 ?_
    refine pw_cV0 (ct_X1_keep x u 0 nx (aK a) (by decide) hnx g6 g0 g1 (hc.1.wb hvu)) okX1_keep (tk tkX7_finishStatement 13 rfl) mkX7_75 imX1_keep seX1_keep (hp_ot _ 7) rfl rfl rfl (by decide) (by decide) (Nat.le_of_ble_eq_true rfl) ?_
    rw [← ez]
    refine pw_aload_n (tk tkX7_finishStatement 14 rfl) rfl ?_
    refine g7_now (tk tkX7_finishStatement 15 rfl) fkX7_10 ?_
    refine pw_aload_n (tk tkX7_finishStatement 16 rfl) rfl ?_
    refine g7_trial (tk tkX7_finishStatement 17 rfl) fkX7_19 ?_
    refine g5_state (tk tkX7_finishStatement 18 rfl) fkX7_164 ?_
    refine pw_cV0 (ct_X4_copyFrom z 0 1 u (by decide) (by decide) (by decide) (rt1.wb hR)) okX4_copyFrom (tk tkX7_finishStatement 19 rfl) mkX7_167 imX4_copyFrom seX4_copyFrom (hp_st _ (by decide : 0 < 10) (by decide : 0 < 16)) rfl rfl rfl (by decide) (by decide) (Nat.le_of_ble_eq_true rfl) ?_
    refine pw_aload_n (tk tkX7_finishStatement 20 rfl) rfl ?_
    refine g7_trial (tk tkX7_finishStatement 21 rfl) fkX7_19 ?_
    refine g5_events (tk tkX7_finishStatement 22 rfl) fkX7_149 ?_
    refine pw_ireturn (tk tkX7_finishStatement 23 rfl) rfl (by decide) rfl ?_
    rw [show cSm (uC1 z 0 (cpS u (cSt z.1 0) (cSt z.1 1))).1 0 = R.2.1 from (congrFun ezm 0).trans rt.2.1]
    refine CQ.ret (rz.now (t := fin R (aS a)) ?_) rz2 (stA_ok bad (decide_eq_true c7))
    rw [show fin R (aS a) = upd R.1 98 (R.1 98 + R.2.1) from if_pos c7]
    exact ((rt1.cp _ hR.un).n98 (by rw [hR.un]; exact hR.1) _).rs (upd_at _ _ _)
  · exact pw_throw twISE rfl rfl rfl ckX7_70 (tx := "the row does not allow it, or the statement is refused") (List.mem_of_getElem? (i := 7) rfl) (tk tkX7_finishStatement 4 rfl) (tk tkX7_finishStatement 5 rfl) (tk tkX7_finishStatement 6 rfl) (tk tkX7_finishStatement 7 rfl) (tk tkX7_finishStatement 8 rfl) (by decide) (by decide) (CQ.thr hc rfl hm (stA_bad bad (decide_eq_false c7)))
set_option maxRecDepth 100000 in
set_option maxHeartbeats 4000000 in
theorem ct_X7_insert (x : XW) (a : AM) (hc : RC a x.1) (hv : VS (uN (aS a)) (aS a)) (r b1 b2 b3 : Int32) : CT MX7_insert 30 6 [.ref 160, .int r, .int b1, .int b2, .int b3] (hp x) (CQ [(1, "java/lang/IndexOutOfBoundsException"), (2, "java/lang/IllegalArgumentException"), (3, "java/lang/IllegalStateException")] x (sinsert a r b1 b2 b3)) := by
  refine ct_of (by decide +kernel) (by decide) rfl (k := 0) (ls := [some (.ref 160), some (.int r), some (.int b1), some (.int b2), some (.int b3)]) rfl (Nat.le_of_ble_eq_true rfl) ?_
  obtain ⟨u, eu⟩ : ∃ u, u = uN (aS a) := ⟨_, rfl⟩
  have hvu := hv
  rw [← eu] at hvu
  have hu8 := hvu.1
  have hu : sSc (cSt x.1 0) 0 = nI u := hc.1.2.2.1.trans hvu.2.1
  have e25 : aS a 25 = nI u := hvu.2.1
  refine pw_iload_n (tk tkX7_insert 0 rfl) rfl ?_
  refine pw_callS (ct_X7_checkRow x _) okX7_checkRow (tk tkX7_insert 1 rfl) mkX7_125 stX7_checkRow rfl rfl (by decide) (by decide) (Nat.le_of_ble_eq_true rfl) (fun r h2 q => ?_) (fun E h2 q => by obtain ⟨k1, rfl, rfl⟩ := ck_r q; exact pt_out rfl rfl (CQ.thr hc rfl List.mem_cons_self (if_pos k1)))
  obtain ⟨k1, rfl, rfl⟩ := ck_l q
  refine pw_iload_n (tk tkX7_insert 2 rfl) rfl ?_
  refine pw_callS (ct_X7_checkValue x _) okX7_checkValue (tk tkX7_insert 3 rfl) mkX7_128 stX7_checkValue rfl rfl (by decide) (by decide) (Nat.le_of_ble_eq_true rfl) (fun r h2 q => ?_) (fun E h2 q => by obtain ⟨k2, rfl, rfl⟩ := ck_r q; exact pt_out rfl rfl (CQ.thr hc rfl (List.mem_cons_of_mem _ List.mem_cons_self) ((if_neg (ne_f k1)).trans (if_pos k2))))
  obtain ⟨k2, rfl, rfl⟩ := ck_l q
  refine pw_iload_n (tk tkX7_insert 4 rfl) rfl ?_
  refine pw_callS (ct_X7_checkValue x _) okX7_checkValue (tk tkX7_insert 5 rfl) mkX7_128 stX7_checkValue rfl rfl (by decide) (by decide) (Nat.le_of_ble_eq_true rfl) (fun r h2 q => ?_) (fun E h2 q => by obtain ⟨k3, rfl, rfl⟩ := ck_r q; exact pt_out rfl rfl (CQ.thr hc rfl (List.mem_cons_of_mem _ List.mem_cons_self) ((if_neg (ne_f k1)).trans ((if_neg (ne_f k2)).trans (if_pos k3)))))
  obtain ⟨k3, rfl, rfl⟩ := ck_l q
  refine pw_iload (tk tkX7_insert 6 rfl) rfl ?_
  refine pw_callS (ct_X7_checkValue x _) okX7_checkValue (tk tkX7_insert 7 rfl) mkX7_128 stX7_checkValue rfl rfl (by decide) (by decide) (Nat.le_of_ble_eq_true rfl) (fun r h2 q => ?_) (fun E h2 q => by obtain ⟨k4, rfl, rfl⟩ := ck_r q; exact pt_out rfl rfl (CQ.thr hc rfl (List.mem_cons_of_mem _ List.mem_cons_self) ((if_neg (ne_f k1)).trans ((if_neg (ne_f k2)).trans ((if_neg (ne_f k3)).trans (if_pos k4))))))
  obtain ⟨k4, rfl, rfl⟩ := ck_l q
  refine pw_aload_n (tk tkX7_insert 8 rfl) rfl ?_
  refine g7_trial (tk tkX7_insert 9 rfl) fkX7_19 ?_
  refine pw_aload_n (tk tkX7_insert 10 rfl) rfl ?_
  refine g7_now (tk tkX7_insert 11 rfl) fkX7_10 ?_
  refine pw_iload_n (tk tkX7_insert 12 rfl) rfl ?_
  refine pw_iload_n (tk tkX7_insert 13 rfl) rfl ?_
  refine pw_iload_n (tk tkX7_insert 14 rfl) rfl ?_
  refine pw_iload (tk tkX7_insert 15 rfl) rfl ?_
  refine pw_callV (ct_X5_putIn x (aS a) u hc.1 hvu r b1 b2 b3) okX5_putIn (tk tkX7_insert 16 rfl) mkX7_131 imX5_putIn seX5_putIn (hp_ot _ 1) rfl rfl rfl (by decide) (by decide) (Nat.le_of_ble_eq_true rfl) (fun r h2 q => ?_) (fun E h2 q => by cases q.1)
  obtain ⟨ho, y, rfl, fy, ry⟩ := q
  cases ho
  obtain ⟨r1, hr, er, er2⟩ := inR_row k1
  obtain ⟨R, eR⟩ : ∃ R, R = insR u (aS a) r1 b1 b2 b3 := ⟨_, rfl⟩
  have eP : piR u (aS a) r b1 b2 b3 = R := (if_neg (ne_f k1)).trans (by rw [er2, eR])
  rw [eP] at ry
  have hR : VS (uN (aS a)) R.1 := by rw [← eu, eR]; exact insR_VS hvu b1 b2 b3 hr
  have eS : sinsert a r b1 b2 b3 = stA a R 3 := (if_neg (ne_f k1)).trans ((if_neg (ne_f k2)).trans ((if_neg (ne_f k3)).trans ((if_neg (ne_f k4)).trans (by rw [er2, ← eu, eR]))))
  refine pw_aload_n (tk tkX7_insert 17 rfl) rfl ?_
  refine pw_callV (ct_X7_finishStatement y a (fy.rc hc) hv R hR ry 3 _ (List.mem_cons_of_mem _ (List.mem_cons_of_mem _ List.mem_cons_self))) okX7_finishStatement (tk tkX7_insert 18 rfl) mkX7_135 imX7_finishStatement seX7_finishStatement (hp_ot _ 0) rfl rfl rfl (by decide) (by decide) (Nat.le_of_ble_eq_true rfl) (fun r h2 q => ?_) (fun E h2 q => pt_out rfl rfl (by rw [eS]; exact CQ.of fy.1 q))
  obtain ⟨z, rfl, zx, zc, zo⟩ := q
  obtain ⟨z0, ho⟩ := cq_l zo
  cases ho
  exact pw_ireturn (tk tkX7_insert 19 rfl) rfl (by decide) rfl ⟨z, rfl, zx.trans fy.1, by rw [eS]; exact zc, .inl ⟨by rw [eS]; exact z0, by rw [eS]⟩⟩
set_option maxRecDepth 100000 in
set_option maxHeartbeats 4000000 in
theorem ct_X7_remove (x : XW) (a : AM) (hc : RC a x.1) (hv : VS (uN (aS a)) (aS a)) (r : Int32) : CT MX7_remove 30 6 [.ref 160, .int r] (hp x) (CQ [(1, "java/lang/IndexOutOfBoundsException"), (2, "java/lang/IllegalStateException")] x (sremove a r)) := by
  refine ct_of (by decide +kernel) (by decide) rfl (k := 0) (ls := [some (.ref 160), some (.int r)]) rfl (Nat.le_of_ble_eq_true rfl) ?_
  obtain ⟨u, eu⟩ : ∃ u, u = uN (aS a) := ⟨_, rfl⟩
  have hvu := hv
  rw [← eu] at hvu
  have hu8 := hvu.1
  have hu : sSc (cSt x.1 0) 0 = nI u := hc.1.2.2.1.trans hvu.2.1
  have e25 : aS a 25 = nI u := hvu.2.1
  refine pw_iload_n (tk tkX7_remove 0 rfl) rfl ?_
  refine pw_callS (ct_X7_checkRow x _) okX7_checkRow (tk tkX7_remove 1 rfl) mkX7_125 stX7_checkRow rfl rfl (by decide) (by decide) (Nat.le_of_ble_eq_true rfl) (fun r h2 q => ?_) (fun E h2 q => by obtain ⟨k1, rfl, rfl⟩ := ck_r q; exact pt_out rfl rfl (CQ.thr hc rfl List.mem_cons_self (if_pos k1)))
  obtain ⟨k1, rfl, rfl⟩ := ck_l q
  refine pw_aload_n (tk tkX7_remove 2 rfl) rfl ?_
  refine g7_trial (tk tkX7_remove 3 rfl) fkX7_19 ?_
  refine pw_aload_n (tk tkX7_remove 4 rfl) rfl ?_
  refine g7_now (tk tkX7_remove 5 rfl) fkX7_10 ?_
  refine pw_iload_n (tk tkX7_remove 6 rfl) rfl ?_
  refine pw_callV (ct_X5_takeOut x (aS a) u hc.1 hvu r) okX5_takeOut (tk tkX7_remove 7 rfl) mkX7_142 imX5_takeOut seX5_takeOut (hp_ot _ 1) rfl rfl rfl (by decide) (by decide) (Nat.le_of_ble_eq_true rfl) (fun r h2 q => ?_) (fun E h2 q => by cases q.1)
  obtain ⟨ho, y, rfl, fy, ry⟩ := q
  cases ho
  obtain ⟨r1, hr, er, er2⟩ := inR_row k1
  obtain ⟨R, eR⟩ : ∃ R, R = remR u (aS a) r1 := ⟨_, rfl⟩
  have eP : toR u (aS a) r = R := (if_neg (ne_f k1)).trans (by rw [er2, eR])
  rw [eP] at ry
  have hR : VS (uN (aS a)) R.1 := by rw [← eu, eR]; exact remR_VS hvu hr
  have eS : sremove a r = stA a R 2 := (if_neg (ne_f k1)).trans (by rw [er2, ← eu, eR])
  refine pw_aload_n (tk tkX7_remove 8 rfl) rfl ?_
  refine pw_callV (ct_X7_finishStatement y a (fy.rc hc) hv R hR ry 2 _ (List.mem_cons_of_mem _ List.mem_cons_self)) okX7_finishStatement (tk tkX7_remove 9 rfl) mkX7_135 imX7_finishStatement seX7_finishStatement (hp_ot _ 0) rfl rfl rfl (by decide) (by decide) (Nat.le_of_ble_eq_true rfl) (fun r h2 q => ?_) (fun E h2 q => pt_out rfl rfl (by rw [eS]; exact CQ.of fy.1 q))
  obtain ⟨z, rfl, zx, zc, zo⟩ := q
  obtain ⟨z0, ho⟩ := cq_l zo
  cases ho
  exact pw_ireturn (tk tkX7_remove 10 rfl) rfl (by decide) rfl ⟨z, rfl, zx.trans fy.1, by rw [eS]; exact zc, .inl ⟨by rw [eS]; exact z0, by rw [eS]⟩⟩
def TUQ (x : XW) (a : AM) (r c v : Int32) : Out → Hp → Prop := fun o h2 => (tuC r c v = 0 ∧ o = .inl none ∧ ∃ y, h2 = hp y ∧ FC x y ∧ RT y (tuR a r c v) ∧ VS (uN (aS a)) (tuR a r c v).1) ∨ (h2 = hp x ∧ ((tuC r c v = 1 ∧ o = .inr "java/lang/IndexOutOfBoundsException") ∨ (tuC r c v = 2 ∧ o = .inr "java/lang/IllegalArgumentException")))
theorem TUQ.l {x : XW} {a : AM} {r c v : Int32} {z : Option Value} {h2 : Hp} (q : TUQ x a r c v (.inl z) h2) : tuC r c v = 0 ∧ z = none ∧ ∃ y, h2 = hp y ∧ FC x y ∧ RT y (tuR a r c v) ∧ VS (uN (aS a)) (tuR a r c v).1 := by
  rcases q with ⟨q1, q2, q3⟩ | ⟨_, ⟨_, q⟩ | ⟨_, q⟩⟩
  · cases q2; exact ⟨q1, rfl, q3⟩
  · cases q
  · cases q
theorem TUQ.r {x : XW} {a : AM} {r c v : Int32} {E : String} {h2 : Hp} (q : TUQ x a r c v (.inr E) h2) : h2 = hp x ∧ ((tuC r c v = 1 ∧ E = "java/lang/IndexOutOfBoundsException") ∨ (tuC r c v = 2 ∧ E = "java/lang/IllegalArgumentException")) := by
  rcases q with ⟨_, q2, _⟩ | ⟨q0, ⟨q1, q⟩ | ⟨q1, q⟩⟩
  · cases q2
  · cases q; exact ⟨q0, .inl ⟨q1, rfl⟩⟩
  · cases q; exact ⟨q0, .inr ⟨q1, rfl⟩⟩
theorem su_tu (a : AM) (r c v : Int32) : supdate a r c v = if tuC r c v = 0 then stA a (tuR a r c v) 3 else (tuC r c v, 0, a) := by
  unfold supdate tuC tuR
  by_cases h1 : inR r 0 5 = false
  · rw [if_pos h1, if_pos h1, if_neg (by decide)]
  · rw [if_neg h1, if_neg h1]
    by_cases h2 : inR c 0 2 = false
    · rw [if_pos h2, if_pos h2, if_neg (by decide)]
    · rw [if_neg h2, if_neg h2]
      by_cases h3 : inR v 0 999 = false
      · rw [if_pos h3, if_pos h3, if_neg (by decide)]
      · rw [if_neg h3, if_neg h3, if_pos rfl]
set_option maxRecDepth 100000 in
set_option maxHeartbeats 4000000 in
theorem ct_X7_tryUpdate (x : XW) (a : AM) (hc : RC a x.1) (hv : VS (uN (aS a)) (aS a)) (r c v : Int32) : CT MX7_tryUpdate 20 3 [.ref 160, .int r, .int c, .int v] (hp x) (TUQ x a r c v) := by
  refine ct_of (by decide +kernel) (by decide) rfl (k := 0) (ls := [some (.ref 160), some (.int r), some (.int c), some (.int v)]) rfl (Nat.le_of_ble_eq_true rfl) ?_
  obtain ⟨u, eu⟩ : ∃ u, u = uN (aS a) := ⟨_, rfl⟩
  have hvu := hv
  rw [← eu] at hvu
  refine pw_iload_n (tk tkX7_tryUpdate 0 rfl) rfl ?_
  refine pw_callS (ct_X7_checkRow x _) okX7_checkRow (tk tkX7_tryUpdate 1 rfl) mkX7_125 stX7_checkRow rfl rfl (by decide) (by decide) (Nat.le_of_ble_eq_true rfl) (fun r h2 q => ?_) (fun E h2 q => by obtain ⟨k1, rfl, rfl⟩ := ck_r q; exact pt_out rfl rfl (.inr ⟨rfl, .inl ⟨if_pos k1, rfl⟩⟩))
  obtain ⟨k1, rfl, rfl⟩ := ck_l q
  refine pw_iload_n (tk tkX7_tryUpdate 2 rfl) rfl ?_
  refine pw_callS (ct_X7_checkColumn x _) okX7_checkColumn (tk tkX7_tryUpdate 3 rfl) mkX7_155 stX7_checkColumn rfl rfl (by decide) (by decide) (Nat.le_of_ble_eq_true rfl) (fun r h2 q => ?_) (fun E h2 q => by obtain ⟨k2, rfl, rfl⟩ := ck_r q; exact pt_out rfl rfl (.inr ⟨rfl, .inl ⟨((if_neg (ne_f k1)).trans (if_pos k2)), rfl⟩⟩))
  obtain ⟨k2, rfl, rfl⟩ := ck_l q
  refine pw_iload_n (tk tkX7_tryUpdate 4 rfl) rfl ?_
  refine pw_callS (ct_X7_checkValue x _) okX7_checkValue (tk tkX7_tryUpdate 5 rfl) mkX7_128 stX7_checkValue rfl rfl (by decide) (by decide) (Nat.le_of_ble_eq_true rfl) (fun r h2 q => ?_) (fun E h2 q => by obtain ⟨k3, rfl, rfl⟩ := ck_r q; exact pt_out rfl rfl (.inr ⟨rfl, .inr ⟨((if_neg (ne_f k1)).trans ((if_neg (ne_f k2)).trans (if_pos k3))), rfl⟩⟩))
  obtain ⟨k3, rfl, rfl⟩ := ck_l q
  refine pw_aload_n (tk tkX7_tryUpdate 6 rfl) rfl ?_
  refine g7_trial (tk tkX7_tryUpdate 7 rfl) fkX7_19 ?_
  refine pw_aload_n (tk tkX7_tryUpdate 8 rfl) rfl ?_
  refine g7_now (tk tkX7_tryUpdate 9 rfl) fkX7_10 ?_
  refine pw_iload_n (tk tkX7_tryUpdate 10 rfl) rfl ?_
  refine pw_iload_n (tk tkX7_tryUpdate 11 rfl) rfl ?_
  refine pw_iload_n (tk tkX7_tryUpdate 12 rfl) rfl ?_
  refine pw_callV (ct_X5_change x (aS a) u hc.1 hvu r c v) okX5_change (tk tkX7_tryUpdate 13 rfl) mkX7_158 imX5_change seX5_change (hp_ot _ 1) rfl rfl rfl (by decide) (by decide) (Nat.le_of_ble_eq_true rfl) (fun r h2 q => ?_) (fun E h2 q => by cases q.1)
  obtain ⟨ho, y, rfl, fy, ry⟩ := q
  cases ho
  obtain ⟨r1, hr, er, er2⟩ := inR_row k1
  obtain ⟨c1, hc3, ec, ec2⟩ := inR_col k2
  have eP : chR u (aS a) r c v = tuR a r c v := (if_neg (ne_f k1)).trans ((if_neg (ne_f k2)).trans (by rw [eu]; rfl))
  rw [eP] at ry
  exact pw_return (tk tkX7_tryUpdate 14 rfl) rfl (by decide) (.inl ⟨(if_neg (ne_f k1)).trans ((if_neg (ne_f k2)).trans (if_neg (ne_f k3))), rfl, y, rfl, fy, ry, (by unfold tuR; rw [← eu, er2, ec2]; exact updR_VS hvu v hr hc3)⟩)
set_option maxRecDepth 100000 in
set_option maxHeartbeats 4000000 in
theorem ct_X7_update (x : XW) (a : AM) (hc : RC a x.1) (hv : VS (uN (aS a)) (aS a)) (r c v : Int32) : CT MX7_update 30 6 [.ref 160, .int r, .int c, .int v] (hp x) (CQ [(1, "java/lang/IndexOutOfBoundsException"), (2, "java/lang/IllegalArgumentException"), (3, "java/lang/IllegalStateException")] x (supdate a r c v)) := by
  refine ct_of (by decide +kernel) (by decide) rfl (k := 0) (ls := [some (.ref 160), some (.int r), some (.int c), some (.int v)]) rfl (Nat.le_of_ble_eq_true rfl) ?_
  obtain ⟨u, eu⟩ : ∃ u, u = uN (aS a) := ⟨_, rfl⟩
  have hvu := hv
  rw [← eu] at hvu
  have hu8 := hvu.1
  have hu : sSc (cSt x.1 0) 0 = nI u := hc.1.2.2.1.trans hvu.2.1
  have e25 : aS a 25 = nI u := hvu.2.1
  refine pw_aload_n (tk tkX7_update 0 rfl) rfl ?_
  refine pw_iload_n (tk tkX7_update 1 rfl) rfl ?_
  refine pw_iload_n (tk tkX7_update 2 rfl) rfl ?_
  refine pw_iload_n (tk tkX7_update 3 rfl) rfl ?_
  refine pw_callV (ct_X7_tryUpdate x a hc hv r c v) okX7_tryUpdate (tk tkX7_update 4 rfl) mkX7_139 imX7_tryUpdate seX7_tryUpdate (hp_ot _ 0) rfl rfl rfl (by decide) (by decide) (Nat.le_of_ble_eq_true rfl) (fun r h2 q => ?_) (fun E h2 q => by obtain ⟨rfl, ⟨k1, rfl⟩ | ⟨k1, rfl⟩⟩ := q.r; exact pt_out rfl rfl (CQ.thr hc rfl List.mem_cons_self ((su_tu a r c v).trans ((if_neg (by rw [k1]; decide)).trans (by rw [k1])))); exact pt_out rfl rfl (CQ.thr hc rfl (List.mem_cons_of_mem _ List.mem_cons_self) ((su_tu a r c v).trans ((if_neg (by rw [k1]; decide)).trans (by rw [k1])))))
  obtain ⟨k0, rfl, y, rfl, fy, ry, hR⟩ := q.l
  have eS : supdate a r c v = stA a (tuR a r c v) 3 := (su_tu a r c v).trans (if_pos k0)
  refine pw_aload_n (tk tkX7_update 5 rfl) rfl ?_
  refine pw_callV (ct_X7_finishStatement y a (fy.rc hc) hv (tuR a r c v) hR ry 3 _ (List.mem_cons_of_mem _ (List.mem_cons_of_mem _ List.mem_cons_self))) okX7_finishStatement (tk tkX7_update 6 rfl) mkX7_135 imX7_finishStatement seX7_finishStatement (hp_ot _ 0) rfl rfl rfl (by decide) (by decide) (Nat.le_of_ble_eq_true rfl) (fun r h2 q => ?_) (fun E h2 q => pt_out rfl rfl (by rw [eS]; exact CQ.of fy.1 q))
  obtain ⟨z, rfl, zx, zc, zo⟩ := q
  obtain ⟨z0, ho⟩ := cq_l zo
  cases ho
  exact pw_ireturn (tk tkX7_update 7 rfl) rfl (by decide) rfl ⟨z, rfl, zx.trans fy.1, by rw [eS]; exact zc, .inl ⟨by rw [eS]; exact z0, by rw [eS]⟩⟩
set_option maxRecDepth 100000 in
set_option maxHeartbeats 4000000 in
theorem ct_X7_whyNotUpdate (x : XW) (a : AM) (hc : RC a x.1) (hv : VS (uN (aS a)) (aS a)) (r c v : Int32) : CT MX7_whyNotUpdate 30 6 [.ref 160, .int r, .int c, .int v] (hp x) (CQ [(1, "java/lang/IndexOutOfBoundsException"), (2, "java/lang/IllegalArgumentException")] x (swhyNotUpdate a r c v)) := by
  refine ct_of (by decide +kernel) (by decide) rfl (k := 0) (ls := [some (.ref 160), some (.int r), some (.int c), some (.int v)]) rfl (Nat.le_of_ble_eq_true rfl) ?_
  obtain ⟨u, eu⟩ : ∃ u, u = uN (aS a) := ⟨_, rfl⟩
  have hvu := hv
  rw [← eu] at hvu
  have hu8 := hvu.1
  have hu : sSc (cSt x.1 0) 0 = nI u := hc.1.2.2.1.trans hvu.2.1
  have e25 : aS a 25 = nI u := hvu.2.1
  refine pw_aload_n (tk tkX7_whyNotUpdate 0 rfl) rfl ?_
  refine pw_iload_n (tk tkX7_whyNotUpdate 1 rfl) rfl ?_
  refine pw_iload_n (tk tkX7_whyNotUpdate 2 rfl) rfl ?_
  refine pw_iload_n (tk tkX7_whyNotUpdate 3 rfl) rfl ?_
  refine pw_callV (ct_X7_tryUpdate x a hc hv r c v) okX7_tryUpdate (tk tkX7_whyNotUpdate 4 rfl) mkX7_139 imX7_tryUpdate seX7_tryUpdate (hp_ot _ 0) rfl rfl rfl (by decide) (by decide) (Nat.le_of_ble_eq_true rfl) (fun r h2 q => ?_) (fun E h2 q => by obtain ⟨rfl, ⟨k1, rfl⟩ | ⟨k1, rfl⟩⟩ := q.r; exact pt_out rfl rfl (CQ.thr hc rfl List.mem_cons_self (show (tuC r c v, _, a) = _ from by rw [k1]; rfl)); exact pt_out rfl rfl (CQ.thr hc rfl (List.mem_cons_of_mem _ List.mem_cons_self) (show (tuC r c v, _, a) = _ from by rw [k1]; rfl)))
  obtain ⟨k0, rfl, y, rfl, fy, ry, hR⟩ := q.l
  refine pw_aload_n (tk tkX7_whyNotUpdate 5 rfl) rfl ?_
  refine g7_trial (tk tkX7_whyNotUpdate 6 rfl) fkX7_19 ?_
  refine g5_refusal (tk tkX7_whyNotUpdate 7 rfl) fkX7_146 ?_
  rw [ry.2.2.2]
  exact pw_ireturn (tk tkX7_whyNotUpdate 8 rfl) rfl (by decide) rfl (CQ.ret (fy.rc hc) fy.1 (show (tuC r c v, (if tuC r c v = 0 then _ else _), a) = _ from by rw [k0]; rfl))
set_option maxRecDepth 100000 in
set_option maxHeartbeats 4000000 in
theorem ct_X7_eventsOfUpdate (x : XW) (a : AM) (hc : RC a x.1) (hv : VS (uN (aS a)) (aS a)) (r c v : Int32) : CT MX7_eventsOfUpdate 30 6 [.ref 160, .int r, .int c, .int v] (hp x) (CQ [(1, "java/lang/IndexOutOfBoundsException"), (2, "java/lang/IllegalArgumentException")] x (seventsOfUpdate a r c v)) := by
  refine ct_of (by decide +kernel) (by decide) rfl (k := 0) (ls := [some (.ref 160), some (.int r), some (.int c), some (.int v)]) rfl (Nat.le_of_ble_eq_true rfl) ?_
  obtain ⟨u, eu⟩ : ∃ u, u = uN (aS a) := ⟨_, rfl⟩
  have hvu := hv
  rw [← eu] at hvu
  have hu8 := hvu.1
  have hu : sSc (cSt x.1 0) 0 = nI u := hc.1.2.2.1.trans hvu.2.1
  have e25 : aS a 25 = nI u := hvu.2.1
  refine pw_aload_n (tk tkX7_eventsOfUpdate 0 rfl) rfl ?_
  refine pw_iload_n (tk tkX7_eventsOfUpdate 1 rfl) rfl ?_
  refine pw_iload_n (tk tkX7_eventsOfUpdate 2 rfl) rfl ?_
  refine pw_iload_n (tk tkX7_eventsOfUpdate 3 rfl) rfl ?_
  refine pw_callV (ct_X7_tryUpdate x a hc hv r c v) okX7_tryUpdate (tk tkX7_eventsOfUpdate 4 rfl) mkX7_139 imX7_tryUpdate seX7_tryUpdate (hp_ot _ 0) rfl rfl rfl (by decide) (by decide) (Nat.le_of_ble_eq_true rfl) (fun r h2 q => ?_) (fun E h2 q => by obtain ⟨rfl, ⟨k1, rfl⟩ | ⟨k1, rfl⟩⟩ := q.r; exact pt_out rfl rfl (CQ.thr hc rfl List.mem_cons_self (show (tuC r c v, _, a) = _ from by rw [k1]; rfl)); exact pt_out rfl rfl (CQ.thr hc rfl (List.mem_cons_of_mem _ List.mem_cons_self) (show (tuC r c v, _, a) = _ from by rw [k1]; rfl)))
  obtain ⟨k0, rfl, y, rfl, fy, ry, hR⟩ := q.l
  refine pw_aload_n (tk tkX7_eventsOfUpdate 5 rfl) rfl ?_
  refine g7_trial (tk tkX7_eventsOfUpdate 6 rfl) fkX7_19 ?_
  refine g5_refusal (tk tkX7_eventsOfUpdate 7 rfl) fkX7_146 ?_
  rw [ry.2.2.2]
  refine pw_if_ne (tgt := 27) (tk tkX7_eventsOfUpdate 8 rfl) (by decide) (fun c14 => ?_) (fun c14 => ?_)
  · refine pw_iconst (v := (-1)) (tk tkX7_eventsOfUpdate 13 rfl) (by decide) ?_
    exact pw_ireturn (tk tkX7_eventsOfUpdate 14 rfl) rfl (by decide) rfl (CQ.ret (fy.rc hc) fy.1 (show (tuC r c v, (if tuC r c v = 0 then _ else _), a) = _ from by rw [k0, if_pos rfl, if_neg (fun q => c14 ((le0_eq (show RNN (tuR a r c v) from updR_NN _ _ _ _ _)).mp q))]))
  · refine pw_aload_n (tk tkX7_eventsOfUpdate 9 rfl) rfl ?_
    refine g7_trial (tk tkX7_eventsOfUpdate 10 rfl) fkX7_19 ?_
    refine g5_events (tk tkX7_eventsOfUpdate 11 rfl) fkX7_149 ?_
    rw [ry.2.1]
    refine pw_goto (tgt := 28) (tk tkX7_eventsOfUpdate 12 rfl) (by decide) ?_
    exact pw_ireturn (tk tkX7_eventsOfUpdate 14 rfl) rfl (by decide) rfl (CQ.ret (fy.rc hc) fy.1 (show (tuC r c v, (if tuC r c v = 0 then _ else _), a) = _ from by rw [k0, if_pos rfl, if_pos ((le0_eq (show RNN (tuR a r c v) from updR_NN _ _ _ _ _)).mpr c14)]))
set_option maxRecDepth 100000 in
set_option maxHeartbeats 4000000 in
theorem ct_X7_depthOfUpdate (x : XW) (a : AM) (hc : RC a x.1) (hv : VS (uN (aS a)) (aS a)) (r c v : Int32) : CT MX7_depthOfUpdate 30 6 [.ref 160, .int r, .int c, .int v] (hp x) (CQ [(1, "java/lang/IndexOutOfBoundsException"), (2, "java/lang/IllegalArgumentException")] x (sdepthOfUpdate a r c v)) := by
  refine ct_of (by decide +kernel) (by decide) rfl (k := 0) (ls := [some (.ref 160), some (.int r), some (.int c), some (.int v)]) rfl (Nat.le_of_ble_eq_true rfl) ?_
  obtain ⟨u, eu⟩ : ∃ u, u = uN (aS a) := ⟨_, rfl⟩
  have hvu := hv
  rw [← eu] at hvu
  have hu8 := hvu.1
  have hu : sSc (cSt x.1 0) 0 = nI u := hc.1.2.2.1.trans hvu.2.1
  have e25 : aS a 25 = nI u := hvu.2.1
  refine pw_aload_n (tk tkX7_depthOfUpdate 0 rfl) rfl ?_
  refine pw_iload_n (tk tkX7_depthOfUpdate 1 rfl) rfl ?_
  refine pw_iload_n (tk tkX7_depthOfUpdate 2 rfl) rfl ?_
  refine pw_iload_n (tk tkX7_depthOfUpdate 3 rfl) rfl ?_
  refine pw_callV (ct_X7_tryUpdate x a hc hv r c v) okX7_tryUpdate (tk tkX7_depthOfUpdate 4 rfl) mkX7_139 imX7_tryUpdate seX7_tryUpdate (hp_ot _ 0) rfl rfl rfl (by decide) (by decide) (Nat.le_of_ble_eq_true rfl) (fun r h2 q => ?_) (fun E h2 q => by obtain ⟨rfl, ⟨k1, rfl⟩ | ⟨k1, rfl⟩⟩ := q.r; exact pt_out rfl rfl (CQ.thr hc rfl List.mem_cons_self (show (tuC r c v, _, a) = _ from by rw [k1]; rfl)); exact pt_out rfl rfl (CQ.thr hc rfl (List.mem_cons_of_mem _ List.mem_cons_self) (show (tuC r c v, _, a) = _ from by rw [k1]; rfl)))
  obtain ⟨k0, rfl, y, rfl, fy, ry, hR⟩ := q.l
  refine pw_aload_n (tk tkX7_depthOfUpdate 5 rfl) rfl ?_
  refine g7_trial (tk tkX7_depthOfUpdate 6 rfl) fkX7_19 ?_
  refine g5_refusal (tk tkX7_depthOfUpdate 7 rfl) fkX7_146 ?_
  rw [ry.2.2.2]
  refine pw_if_ne (tgt := 27) (tk tkX7_depthOfUpdate 8 rfl) (by decide) (fun c14 => ?_) (fun c14 => ?_)
  · refine pw_iconst (v := (-1)) (tk tkX7_depthOfUpdate 13 rfl) (by decide) ?_
    exact pw_ireturn (tk tkX7_depthOfUpdate 14 rfl) rfl (by decide) rfl (CQ.ret (fy.rc hc) fy.1 (show (tuC r c v, (if tuC r c v = 0 then _ else _), a) = _ from by rw [k0, if_pos rfl, if_neg (fun q => c14 ((le0_eq (show RNN (tuR a r c v) from updR_NN _ _ _ _ _)).mp q))]))
  · refine pw_aload_n (tk tkX7_depthOfUpdate 9 rfl) rfl ?_
    refine g7_trial (tk tkX7_depthOfUpdate 10 rfl) fkX7_19 ?_
    refine g5_deepest (tk tkX7_depthOfUpdate 11 rfl) fkX7_152 ?_
    rw [ry.2.2.1]
    refine pw_goto (tgt := 28) (tk tkX7_depthOfUpdate 12 rfl) (by decide) ?_
    exact pw_ireturn (tk tkX7_depthOfUpdate 14 rfl) rfl (by decide) rfl (CQ.ret (fy.rc hc) fy.1 (show (tuC r c v, (if tuC r c v = 0 then _ else _), a) = _ from by rw [k0, if_pos rfl, if_pos ((le0_eq (show RNN (tuR a r c v) from updR_NN _ _ _ _ _)).mpr c14)]))
theorem so_st {σ : SS} {s : Nat → Int32} {e : Int32} (h : RS1 σ s e) {i j : Nat} (hi : i < uN s) (hj : j < uN s) : soC (sRu σ i) (sRu σ j) = stO s i j := by
  have g := h.2.2.2.2.2.1
  unfold soC stO
  rw [g i 7 hi (by decide), g j 7 hj (by decide), g i 3 hi (by decide), g j 0 hj (by decide), g j 1 hj (by decide), g i 5 hi (by decide)]
set_option maxRecDepth 100000 in
set_option maxHeartbeats 4000000 in
theorem ct_X7_canSetOff (x : XW) (a : AM) (hc : RC a x.1) (hv : VS (uN (aS a)) (aS a)) (r w : Int32) (h1 : inR r 0 (aS a 25 - 1) = true) (h2 : inR w 0 (aS a 25 - 1) = true) : CT MX7_canSetOff 30 0 [.ref 160, .int r, .int w] (hp x) (CQ [(1, "java/lang/IndexOutOfBoundsException")] x (scanSetOff a r w)) := by
  refine ct_of (by decide +kernel) (by decide) rfl (k := 0) (ls := [some (.ref 160), some (.int r), some (.int w)]) rfl (Nat.le_of_ble_eq_true rfl) ?_
  obtain ⟨u, eu⟩ : ∃ u, u = uN (aS a) := ⟨_, rfl⟩
  have hvu := hv
  rw [← eu] at hvu
  have hu8 := hvu.1
  have hu : sSc (cSt x.1 0) 0 = nI u := hc.1.2.2.1.trans hvu.2.1
  have e25 : aS a 25 = nI u := hvu.2.1
  refine pw_aload_n (tk tkX7_canSetOff 0 rfl) rfl ?_
  refine pw_iload_n (tk tkX7_canSetOff 1 rfl) rfl ?_
  refine pw_callV (ct0_X7_checkRule x u hu hu8 _ (by rw [← e25]; exact h1)) okX7_checkRule (tk tkX7_canSetOff 2 rfl) mkX7_89 imX7_checkRule seX7_checkRule (hp_ot _ 0) rfl rfl rfl (by decide) (by decide) (Nat.le_of_ble_eq_true rfl) (fun r h2 q => ?_) (fun E h2 q => by obtain ⟨k1, rfl, rfl⟩ := ck_r q; exact pt_out rfl rfl (CQ.thr hc rfl List.mem_cons_self (if_pos (show inR r 0 (aS a 25 - 1) = false from by rw [e25]; exact k1))))
  obtain ⟨k1, rfl, rfl⟩ := ck_l q
  refine pw_aload_n (tk tkX7_canSetOff 3 rfl) rfl ?_
  refine pw_iload_n (tk tkX7_canSetOff 4 rfl) rfl ?_
  refine pw_callV (ct0_X7_checkRule x u hu hu8 _ (by rw [← e25]; exact h2)) okX7_checkRule (tk tkX7_canSetOff 5 rfl) mkX7_89 imX7_checkRule seX7_checkRule (hp_ot _ 0) rfl rfl rfl (by decide) (by decide) (Nat.le_of_ble_eq_true rfl) (fun r h2 q => ?_) (fun E h2 q => by obtain ⟨k2, rfl, rfl⟩ := ck_r q; exact pt_out rfl rfl (CQ.thr hc rfl List.mem_cons_self ((if_neg (ne_f (show inR r 0 (aS a 25 - 1) = true from by rw [e25]; exact k1))).trans (if_pos (show inR w 0 (aS a 25 - 1) = false from by rw [e25]; exact k2)))))
  obtain ⟨k2, rfl, rfl⟩ := ck_l q
  obtain ⟨r1, hr, er, er2⟩ := inR_lt rfl (by omega) k1
  obtain ⟨w1, hw, ew, ew2⟩ := inR_lt rfl (by omega) k2
  refine pw_aload_n (tk tkX7_canSetOff 6 rfl) rfl ?_
  refine g7_now (tk tkX7_canSetOff 7 rfl) fkX7_10 ?_
  refine g4_rules (by first | assumption | decide | omega) (tk tkX7_canSetOff 8 rfl) fkX7_79 ?_
  refine pw_iload_n (tk tkX7_canSetOff 9 rfl) rfl ?_
  refine al_rules_e (e := r1) (by first | assumption | decide | omega) (tk tkX7_canSetOff 10 rfl) er (by first | decide | omega) ?_
  refine pw_aload_n (tk tkX7_canSetOff 11 rfl) rfl ?_
  refine g7_now (tk tkX7_canSetOff 12 rfl) fkX7_10 ?_
  refine g4_rules (by first | assumption | decide | omega) (tk tkX7_canSetOff 13 rfl) fkX7_79 ?_
  refine pw_iload_n (tk tkX7_canSetOff 14 rfl) rfl ?_
  refine al_rules_e (e := w1) (by first | assumption | decide | omega) (tk tkX7_canSetOff 15 rfl) ew (by first | decide | omega) ?_
  refine pw_cV (ct_X3_setsOff x 0 r1 0 w1 (by decide) (by omega) (by decide) (by omega)) okX3_setsOff (tk tkX7_canSetOff 16 rfl) mkX7_208 imX3_setsOff seX3_setsOff ((hp_st _ (by decide : 0 < 10) (by omega)).trans (stc_ru _ _ _ (by omega))) rfl rfl rfl (by decide) (by decide) (Nat.le_of_ble_eq_true rfl) ?_
  rw [so_st hc.1 (by omega) (by omega)]
  exact pw_ireturn (tk tkX7_canSetOff 17 rfl) rfl (by decide) (by first | rfl | exact nar_bI _) (CQ.ret hc rfl ((if_neg (ne_f (show inR r 0 (aS a 25 - 1) = true from by rw [e25]; exact k1))).trans ((if_neg (ne_f (show inR w 0 (aS a 25 - 1) = true from by rw [e25]; exact k2))).trans (by rw [er2, ew2]))))
