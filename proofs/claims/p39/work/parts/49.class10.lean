theorem kp_st (x : XW) (u nx k : Nat) {j : Nat} (h : j ≠ 2 + nx) : cSt (kpX x u 0 nx k).1 j = cSt x.1 j := cSt_n x _ h
theorem kp_at (x : XW) (u nx k : Nat) : cSt (kpX x u 0 nx k).1 (2 + nx) = cpS u (cSt x.1 (2 + nx)) (cSt x.1 0) := cSt_u x _ _
theorem kp_RC {x : XW} {a : AM} {u nx : Nat} (hc : RC a x.1) (hv : VS u (aS a)) (hnx : nx < 6) (h1 : cHi x.1 1 = nI nx) (h6 : aK a ≤ 6) (hh : ∀ i, i < aK a → RS (cSt x.1 (2 + (nx + 6 - aK a + i) % 6)) (aH a i)) : RC (aS a, recH a (aS a), a.2.2) (kpX x u 0 nx (aK a)).1 ∧ (kpX x u 0 nx (aK a)).2 = x.2 ∧ cSt (kpX x u 0 nx (aK a)).1 0 = cSt x.1 0 := by
  have e0 : cSt (kpX x u 0 nx (aK a)).1 0 = cSt x.1 0 := kp_st x u nx _ (by omega)
  obtain ⟨c1, _, c3, c4⟩ := hc
  have hn : RS (cSt (kpX x u 0 nx (aK a)).1 (2 + nx)) (aS a) := by rw [kp_at]; exact RS1.cp c1 _ hv.un
  refine ⟨⟨(show RS (cSt (kpX x u 0 nx (aK a)).1 0) (aS a) from by rw [e0]; exact c1), ⟨(nx + 1) % 6, Nat.mod_lt _ (by decide), ?_, rfl, ?_, ?_⟩, fun i hi => ⟨(c3 i hi).1, fun hb => ?_⟩, c4⟩, rfl, e0⟩
  · show nI (min (aK a + 1) 6) = nI (recH a (aS a)).1
    unfold recH
    by_cases q : aK a = 6
    · rw [if_pos q, q]; rfl
    · rw [if_neg q, Nat.min_eq_left (by omega)]
  · show (recH a (aS a)).1 ≤ 6
    unfold recH
    by_cases q : aK a = 6
    · rw [if_pos q]; exact Nat.le_refl _
    · rw [if_neg q]; show aK a + 1 ≤ 6; omega
  · show ∀ i, i < (recH a (aS a)).1 → RS (cSt (kpX x u 0 nx (aK a)).1 (2 + ((nx + 1) % 6 + 6 - (recH a (aS a)).1 + i) % 6)) ((recH a (aS a)).2 i)
    unfold recH
    by_cases q : aK a = 6
    · rw [if_pos q]
      intro i hi
      dsimp only at hi ⊢
      by_cases w : i = 5
      · rw [if_pos w, show ((nx + 1) % 6 + 6 - 6 + i) % 6 = nx by omega]; exact hn
      · rw [if_neg w, kp_st x u nx _ (by omega), show ((nx + 1) % 6 + 6 - 6 + i) % 6 = (nx + 6 - aK a + (i + 1)) % 6 by omega]
        exact hh (i + 1) (by omega)
    · rw [if_neg q]
      intro i hi
      dsimp only at hi ⊢
      by_cases w : i = aK a
      · rw [if_pos w, show ((nx + 1) % 6 + 6 - (aK a + 1) + i) % 6 = nx by omega]; exact hn
      · rw [if_neg w, kp_st x u nx _ (by omega), show ((nx + 1) % 6 + 6 - (aK a + 1) + i) % 6 = (nx + 6 - aK a + i) % 6 by omega]
        exact hh i (by omega)
  · show RS (cSt (kpX x u 0 nx (aK a)).1 (8 + i)) (aL a i)
    rw [kp_st x u nx _ (by omega)]
    exact (c3 i hi).2 hb
/-- another state now -/
theorem RC.now {a : AM} {x : XW} (hc : RC a x.1) {σ : SS} {t : Nat → Int32} (h : RS σ t) : RC (t, a.2) (uC1 x 0 σ).1 := by
  obtain ⟨c1, ⟨nx, g1, g2, g3, g4, g5⟩, c3, c4⟩ := hc
  refine ⟨(show RS (cSt (uC1 x 0 σ).1 0) t from by rw [cSt_u]; exact h), ⟨nx, g1, g2, g3, g4, fun i hi => ?_⟩, fun i hi => ⟨(c3 i hi).1, fun hb => ?_⟩, c4⟩
  · rw [cSt_n _ _ (by omega)]; exact g5 i hi
  · rw [cSt_n _ _ (by omega)]; exact (c3 i hi).2 hb
theorem FC.rc {a : AM} {x y : XW} (h : FC x y) (hc : RC a x.1) : RC a y.1 := by
  obtain ⟨f1, f2, f3⟩ := h
  obtain ⟨c1, ⟨nx, g1, g2, g3, g4, g5⟩, c3, c4, c5, c6⟩ := hc
  have eH : cHi y.1 = cHi x.1 := congrArg (fun c => c.2.2.2.2.1) f3
  have eF : cSf y.1 = cSf x.1 := congrArg (fun c => c.2.2.2.2.2) f3
  have eT : cTx y.1 = cTx x.1 := congrArg (fun c => c.2.2.1) f3
  have eG : cSg y.1 = cSg x.1 := congrArg (fun c => c.2.1) f3
  refine ⟨by rw [f2 0 (by omega)]; exact c1, ⟨nx, g1, by rw [eH]; exact g2, by rw [eH]; exact g3, g4, fun i hi => by rw [f2 _ (by omega)]; exact g5 i hi⟩, fun i hi => ⟨by rw [eF]; exact (c3 i hi).1, fun hb => by rw [f2 _ (by omega)]; exact (c3 i hi).2 hb⟩, by rw [eT]; exact c4, c5, fun i hi => by rw [eG]; exact c6 i hi⟩
/-- numbers that the log, the counts and the table don't see -/
theorem RS1.mid {σ τ : SS} {s t : Nat → Int32} {e : Int32} (h : RS1 σ s e) (h1 : sTh τ = sTh σ) (h2 : sVa τ = sVa σ) (h3 : sLr τ = sLr σ) (h4 : sLd τ = sLd σ) (h5 : sLs τ = sLs σ) (h6 : sSc τ 2 = sSc σ 2) (g : ∀ j, j < 24 ∨ 98 ≤ j → t j = s j) (g5 : sSc τ 0 = t 25) (g4 : sSc τ 1 = t 24) (gr : ∀ i k, i < uN t → k < 9 → sRu τ i k = rN t i k) : RS1 τ t e := by
  obtain ⟨a, b, c, d, f, _, l, ⟨l1, l2, la, l3, l4, l5⟩, m1, m2, m3⟩ := h
  refine ⟨fun j hj => by rw [h1, g j (by omega)]; exact a j hj, fun j hj => by rw [h2, g _ (by omega)]; exact b j hj, g5, g4, h6.trans f, gr, l, ⟨l1, by rw [h5]; exact l2, la, l3, by rw [h5]; exact l4, fun k p hk => by rw [h3, h4]; exact l5 k p hk⟩, m1, by rw [g 99 (by omega)]; exact m2, fun k p hk => by rw [g _ (by omega), g _ (by omega)]; exact m3 k p hk⟩
theorem RS1.ru {σ : SS} {s : Nat → Int32} {e : Int32} (h : RS1 σ s e) {i k : Nat} (v : Int32) (hi : i < 8) (hk : k < 9) : RS1 (uS3 σ (upR (sRu σ) i (upd (sRu σ i) k v))) (upd s (26 + 9 * i + k) v) e := by
  have nt : ∀ j, j ≠ 26 + 9 * i + k → upd s (26 + 9 * i + k) v j = s j := fun j hj => upd_nt _ _ hj
  refine h.mid rfl rfl rfl rfl rfl rfl (fun j hj => nt j (by omega)) (by rw [nt 25 (by omega)]; exact h.2.2.1) (by rw [nt 24 (by omega)]; exact h.2.2.2.1) (fun i2 k2 hi2 hk2 => ?_)
  rw [uN_of (nt 25 (by omega))] at hi2
  show upR (sRu σ) i (upd (sRu σ i) k v) i2 k2 = upd s (26 + 9 * i + k) v (26 + 9 * i2 + k2)
  unfold upR
  by_cases q : i2 = i
  · subst q
    rw [if_pos rfl]
    unfold upd
    by_cases w : k2 = k
    · rw [if_pos w, if_pos (by omega)]
    · rw [if_neg w, if_neg (by omega)]; exact h.2.2.2.2.2.1 _ k2 hi2 hk2
  · rw [if_neg q, nt _ (by omega)]; exact h.2.2.2.2.2.1 _ k2 hi2 hk2
theorem upd_row {q t : Nat → Int32} {p : Nat} (h : ∀ k, k < 9 → q k = t (p + k)) (m : Nat) (v : Int32) : ∀ k, k < 9 → upd q m v k = upd t (p + m) v (p + k) := by
  intro k hk
  unfold upd
  by_cases w : k = m
  · rw [if_pos w, if_pos (by omega)]
  · rw [if_neg w, if_neg (by omega)]; exact h k hk
theorem RS1.row {σ : SS} {s : Nat → Int32} {e : Int32} (h : RS1 σ s e) {i : Nat} (hi : i < 8) (q t : Nat → Int32) (g : ∀ j, j < 26 + 9 * i ∨ 26 + 9 * i + 9 ≤ j → t j = s j) (g2 : ∀ k, k < 9 → q k = t (26 + 9 * i + k)) : RS1 (uS3 σ (upR (sRu σ) i q)) t e := by
  refine h.mid rfl rfl rfl rfl rfl rfl (fun j hj => g j (by omega)) (by rw [g 25 (by omega)]; exact h.2.2.1) (by rw [g 24 (by omega)]; exact h.2.2.2.1) (fun i2 k2 hi2 hk2 => ?_)
  rw [uN_of (g 25 (by omega))] at hi2
  show upR (sRu σ) i q i2 k2 = t (26 + 9 * i2 + k2)
  unfold upR
  by_cases w : i2 = i
  · subst w; rw [if_pos rfl]; exact g2 k2 hk2
  · rw [if_neg w, g _ (by omega)]; exact h.2.2.2.2.2.1 _ k2 hi2 hk2
theorem RS1.rs {σ : SS} {t : Nat → Int32} {w : Int32} (h : RS1 σ t w) (e : t 98 = w) : RS σ t := by subst e; exact h
theorem RS1.dep {σ : SS} {s : Nat → Int32} {e : Int32} (h : RS1 σ s e) (v : Int32) : RS1 (uS7 σ (upd (sSc σ) 1 v)) (upd s 24 v) e := by
  refine h.mid rfl rfl rfl rfl rfl rfl (fun j hj => upd_nt _ _ (by omega)) h.2.2.1 rfl (fun i k hi hk => ?_)
  exact (h.2.2.2.2.2.1 i k hi hk).trans (upd_nt s v (show 26 + 9 * i + k ≠ 24 by omega)).symm
theorem inR_t4 {v hi : Int32} (h1 : ¬ v < 0) (h2 : v ≤ hi) : inR v 0 hi = true := by
  unfold inR; rw [decide_eq_true h1, decide_eq_true (Int32.not_lt.mpr h2)]; rfl
theorem inR_f1 {v lo hi : Int32} (h1 : v < lo) : inR v lo hi = false := by
  unfold inR; rw [decide_eq_false (fun q => q h1)]; rfl
theorem inR_f2 {v lo hi : Int32} (h2 : hi < v) : inR v lo hi = false := by
  unfold inR; rw [decide_eq_false (show ¬ ¬ hi < v from fun q => q h2), Bool.and_false]
set_option maxRecDepth 100000 in
set_option maxHeartbeats 4000000 in
theorem ct_X7_setDepth (x : XW) (a : AM) (hc : RC a x.1) (hv : VS (uN (aS a)) (aS a)) (v : Int32) : CT MX7_setDepth 30 6 [.ref 160, .int v] (hp x) (CQ [(1, "java/lang/IllegalArgumentException")] x (ssetDepth a v)) := by
  refine ct_of (by decide +kernel) (by decide) rfl (k := 1) (ls := [some (.ref 160), some (.int v), none]) rfl (Nat.le_of_ble_eq_true rfl) ?_
  obtain ⟨u, eu⟩ : ∃ u, u = uN (aS a) := ⟨_, rfl⟩
  have hvu := hv
  rw [← eu] at hvu
  have hu8 := hvu.1
  have hu : sSc (cSt x.1 0) 0 = nI u := hc.1.2.2.1.trans hvu.2.1
  have e25 : aS a 25 = nI u := hvu.2.1
  obtain ⟨nx, hnx, g0, g1, g6, gh⟩ := hc.2.1
  obtain ⟨z, ez⟩ : ∃ z, z = kpX x u 0 nx (aK a) := ⟨_, rfl⟩
  obtain ⟨rz, rz2, rz0⟩ : RC (aS a, recH a (aS a), a.2.2) z.1 ∧ z.2 = x.2 ∧ cSt z.1 0 = cSt x.1 0 := by rw [ez]; exact kp_RC hc hvu hnx g1 g6 gh
  have rs : RS (cSt z.1 0) (aS a) := rz.1
  have huz : sSc (cSt z.1 0) 0 = nI u := rs.2.2.1.trans e25
  refine pw_iload_n (tk tkX7_setDepth 0 rfl) rfl ?_
  refine pw_if_lt (tgt := 9) (tk tkX7_setDepth 1 rfl) (by decide) (fun c1 => ?_) (fun c1 => ?_)
  · exact pw_throw twIAE rfl rfl rfl ckX7_59 (tx := "depth is out of range") (List.mem_of_getElem? (i := 4) rfl) (tk tkX7_setDepth 5 rfl) (tk tkX7_setDepth 6 rfl) (tk tkX7_setDepth 7 rfl) (tk tkX7_setDepth 8 rfl) (tk tkX7_setDepth 9 rfl) (by decide) (by decide) (CQ.thr hc rfl List.mem_cons_self (if_pos (inR_f1 c1)))
  · refine pw_iload_n (tk tkX7_setDepth 2 rfl) rfl ?_
    refine pw_iconst (v := 5) (tk tkX7_setDepth 3 rfl) (by decide) ?_
    refine pw_icmp_le (tgt := 19) (tk tkX7_setDepth 4 rfl) (by decide) (fun c6 => ?_) (fun c6 => ?_)
    · refine pw_aload_n (tk tkX7_setDepth 10 rfl) rfl ?_
      refine g7_history (tk tkX7_setDepth 11 rfl) fkX7_40 ?_
      refine pw_aload_n (tk tkX7_setDepth 12 rfl) rfl ?_
      refine g7_now (tk tkX7_setDepth 13 rfl) fkX7_10 ?_
      refine pw_cV0 (ct_X1_keep x u 0 nx (aK a) (by decide) hnx g6 g0 g1 (hc.1.wb hvu)) okX1_keep (tk tkX7_setDepth 14 rfl) mkX7_75 imX1_keep seX1_keep (hp_ot _ 7) rfl rfl rfl (by decide) (by decide) (Nat.le_of_ble_eq_true rfl) ?_
      rw [← ez]
      refine pw_aload_n (tk tkX7_setDepth 15 rfl) rfl ?_
      refine g7_now (tk tkX7_setDepth 16 rfl) fkX7_10 ?_
      refine g4_depth (by first | assumption | decide | omega) (tk tkX7_setDepth 17 rfl) fkX7_122 ?_
      rw [rs.2.2.2.1]
      refine pw_ist2 (tk tkX7_setDepth 18 rfl) rfl (by decide) ?_
      refine pw_aload_n (tk tkX7_setDepth 19 rfl) rfl ?_
      refine g7_now (tk tkX7_setDepth 20 rfl) fkX7_10 ?_
      refine pw_iload_n (tk tkX7_setDepth 21 rfl) rfl ?_
      refine p4_depth (by first | assumption | decide | omega) (tk tkX7_setDepth 22 rfl) fkX7_122 ?_
      refine pw_iload_n (tk tkX7_setDepth 23 rfl) rfl ?_
      exact pw_ireturn (tk tkX7_setDepth 24 rfl) rfl (by decide) rfl (CQ.ret (rz.now (rs.dep v)) rz2 (if_neg (ne_f (inR_t4 c1 c6))))
    · exact pw_throw twIAE rfl rfl rfl ckX7_59 (tx := "depth is out of range") (List.mem_of_getElem? (i := 4) rfl) (tk tkX7_setDepth 5 rfl) (tk tkX7_setDepth 6 rfl) (tk tkX7_setDepth 7 rfl) (tk tkX7_setDepth 8 rfl) (tk tkX7_setDepth 9 rfl) (by decide) (by decide) (CQ.thr hc rfl List.mem_cons_self (if_pos (inR_f2 (Int32.not_le.mp c6))))
theorem uRu_get7 (z : XW) (b i : Nat) (v : Int32) : sRu (cSt (uC1 z b (uS3 (cSt z.1 b) (upR (sRu (cSt z.1 b)) i (upd (sRu (cSt z.1 b) i) 7 v)))).1 b) i 7 = v := by
  rw [show uC1 z b (uS3 (cSt z.1 b) (upR (sRu (cSt z.1 b)) i (upd (sRu (cSt z.1 b) i) 7 v))) = uRu z b i (upd (sRu (cSt z.1 b) i) 7 v) from rfl, uRu_get, upd_at]
set_option maxRecDepth 100000 in
set_option maxHeartbeats 4000000 in
theorem ct_X7_turnMute (x : XW) (a : AM) (hc : RC a x.1) (hv : VS (uN (aS a)) (aS a)) (r : Int32) : CT MX7_turnMute 30 6 [.ref 160, .int r] (hp x) (CQ [(1, "java/lang/IndexOutOfBoundsException")] x (sturnMute a r)) := by
  refine ct_of (by decide +kernel) (by decide) rfl (k := 1) (ls := [some (.ref 160), some (.int r), none]) rfl (Nat.le_of_ble_eq_true rfl) ?_
  obtain ⟨u, eu⟩ : ∃ u, u = uN (aS a) := ⟨_, rfl⟩
  have hvu := hv
  rw [← eu] at hvu
  have hu8 := hvu.1
  have hu : sSc (cSt x.1 0) 0 = nI u := hc.1.2.2.1.trans hvu.2.1
  have e25 : aS a 25 = nI u := hvu.2.1
  obtain ⟨nx, hnx, g0, g1, g6, gh⟩ := hc.2.1
  obtain ⟨z, ez⟩ : ∃ z, z = kpX x u 0 nx (aK a) := ⟨_, rfl⟩
  obtain ⟨rz, rz2, rz0⟩ : RC (aS a, recH a (aS a), a.2.2) z.1 ∧ z.2 = x.2 ∧ cSt z.1 0 = cSt x.1 0 := by rw [ez]; exact kp_RC hc hvu hnx g1 g6 gh
  have rs : RS (cSt z.1 0) (aS a) := rz.1
  have huz : sSc (cSt z.1 0) 0 = nI u := rs.2.2.1.trans e25
  refine pw_aload_n (tk tkX7_turnMute 0 rfl) rfl ?_
  refine pw_iload_n (tk tkX7_turnMute 1 rfl) rfl ?_
  refine pw_callV (ct_X7_checkRule x u hu hu8 _) okX7_checkRule (tk tkX7_turnMute 2 rfl) mkX7_89 imX7_checkRule seX7_checkRule (hp_ot _ 0) rfl rfl rfl (by decide) (by decide) (Nat.le_of_ble_eq_true rfl) (fun r h2 q => ?_) (fun E h2 q => by obtain ⟨k1, rfl, rfl⟩ := ck_r q; exact pt_out rfl rfl (CQ.thr hc rfl List.mem_cons_self (if_pos (show inR r 0 (aS a 25 - 1) = false from by rw [e25]; exact k1))))
  obtain ⟨k1, rfl, rfl⟩ := ck_l q
  refine pw_aload_n (tk tkX7_turnMute 3 rfl) rfl ?_
  refine g7_history (tk tkX7_turnMute 4 rfl) fkX7_40 ?_
  refine pw_aload_n (tk tkX7_turnMute 5 rfl) rfl ?_
  refine g7_now (tk tkX7_turnMute 6 rfl) fkX7_10 ?_
  refine pw_cV0 (ct_X1_keep x u 0 nx (aK a) (by decide) hnx g6 g0 g1 (hc.1.wb hvu)) okX1_keep (tk tkX7_turnMute 7 rfl) mkX7_75 imX1_keep seX1_keep (hp_ot _ 7) rfl rfl rfl (by decide) (by decide) (Nat.le_of_ble_eq_true rfl) ?_
  rw [← ez]
  have k2 : inR r 0 (aS a 25 - 1) = true := by rw [e25]; exact k1
  obtain ⟨r1, hr, er, er2⟩ := inR_lt rfl (by omega) k1
  have m7 : rN (aS a) r1 7 = 0 ∨ rN (aS a) r1 7 = 1 := (hvu.2.2.2.2.2 r1 (by omega)).2.2.2.1
  have q7 : sRu (cSt z.1 0) r1 7 = rN (aS a) r1 7 := rs.2.2.2.2.2.1 r1 7 (by omega) (by omega)
  refine pw_aload_n (tk tkX7_turnMute 8 rfl) rfl ?_
  refine g7_now (tk tkX7_turnMute 9 rfl) fkX7_10 ?_
  refine g4_rules (by first | assumption | decide | omega) (tk tkX7_turnMute 10 rfl) fkX7_79 ?_
  refine pw_iload_n (tk tkX7_turnMute 11 rfl) rfl ?_
  refine al_rules_e (e := r1) (by first | assumption | decide | omega) (tk tkX7_turnMute 12 rfl) er (by first | decide | omega) ?_
  refine pw_ast2 (tk tkX7_turnMute 13 rfl) rfl (by decide) ?_
  refine pw_aload_n (tk tkX7_turnMute 14 rfl) rfl ?_
  refine pw_aload_n (tk tkX7_turnMute 15 rfl) rfl ?_
  refine g3_muted (by first | assumption | decide | omega) (by first | assumption | decide | omega) (tk tkX7_turnMute 16 rfl) fkX7_110 ?_
  rw [q7]
  refine pw_if_ne (tgt := 38) (tk tkX7_turnMute 17 rfl) (by decide) (fun c31 => ?_) (fun c31 => ?_)
  · refine pw_iconst (v := 0) (tk tkX7_turnMute 20 rfl) (by decide) ?_
    have h7 : rN (aS a) r1 7 = 1 := m7.resolve_left c31
    
    refine p3_muted (by first | assumption | decide | omega) (by first | assumption | decide | omega) (tk tkX7_turnMute 21 rfl) fkX7_110 ⟨rfl, rfl⟩ ?_
    refine pw_aload_n (tk tkX7_turnMute 22 rfl) rfl ?_
    refine g3_muted (by first | assumption | decide | omega) (by first | assumption | decide | omega) (tk tkX7_turnMute 23 rfl) fkX7_110 ?_
    rw [show sRu (cSt (uC1 z 0 (uS3 (cSt z.1 0) (upR (sRu (cSt z.1 0)) r1 (upd (sRu (cSt z.1 0) r1) 7 0)))).1 0) r1 7 = 0 from uRu_get7 z 0 r1 _, show (0 : Int32) = 1 - rN (aS a) r1 7 from by rw [h7]; rfl]
    refine pw_ireturn (tk tkX7_turnMute 24 rfl) rfl (by decide) (by rw [h7]; rfl) ?_
    have e : sturnMute a r = (0, 1 - rN (aS a) r1 7, (upd (aS a) (26 + 9 * r1 + 7) (1 - rN (aS a) r1 7), recH a (aS a), a.2.2)) := (if_neg (ne_f k2)).trans (by rw [er2, h7]; rfl)
    exact CQ.ret (rz.now ((rs.ru (i := r1) (k := 7) (1 - rN (aS a) r1 7) (by omega) (by decide)).rs (upd_nt _ _ (by omega)))) rz2 e
  · refine pw_iconst (v := 1) (tk tkX7_turnMute 18 rfl) (by decide) ?_
    refine pw_goto (tgt := 39) (tk tkX7_turnMute 19 rfl) (by decide) ?_
    have h7 : rN (aS a) r1 7 = 0 := c31
    
    refine p3_muted (by first | assumption | decide | omega) (by first | assumption | decide | omega) (tk tkX7_turnMute 21 rfl) fkX7_110 ⟨rfl, rfl⟩ ?_
    refine pw_aload_n (tk tkX7_turnMute 22 rfl) rfl ?_
    refine g3_muted (by first | assumption | decide | omega) (by first | assumption | decide | omega) (tk tkX7_turnMute 23 rfl) fkX7_110 ?_
    rw [show sRu (cSt (uC1 z 0 (uS3 (cSt z.1 0) (upR (sRu (cSt z.1 0)) r1 (upd (sRu (cSt z.1 0) r1) 7 1)))).1 0) r1 7 = 1 from uRu_get7 z 0 r1 _, show (1 : Int32) = 1 - rN (aS a) r1 7 from by rw [h7]; rfl]
    refine pw_ireturn (tk tkX7_turnMute 24 rfl) rfl (by decide) (by rw [h7]; rfl) ?_
    have e : sturnMute a r = (0, 1 - rN (aS a) r1 7, (upd (aS a) (26 + 9 * r1 + 7) (1 - rN (aS a) r1 7), recH a (aS a), a.2.2)) := (if_neg (ne_f k2)).trans (by rw [er2, h7]; rfl)
    exact CQ.ret (rz.now ((rs.ru (i := r1) (k := 7) (1 - rN (aS a) r1 7) (by omega) (by decide)).rs (upd_nt _ _ (by omega)))) rz2 e
set_option maxRecDepth 100000 in
set_option maxHeartbeats 4000000 in
theorem ct_X7_setAction (x : XW) (a : AM) (hc : RC a x.1) (hv : VS (uN (aS a)) (aS a)) (r k ro c m : Int32) : CT MX7_setAction 30 6 [.ref 160, .int r, .int k, .int ro, .int c, .int m] (hp x) (CQ [(1, "java/lang/IndexOutOfBoundsException"), (2, "java/lang/IllegalArgumentException")] x (ssetAction a r k ro c m)) := by
  refine ct_of (by decide +kernel) (by decide) rfl (k := 2) (ls := [some (.ref 160), some (.int r), some (.int k), some (.int ro), some (.int c), some (.int m), none, none]) rfl (Nat.le_of_ble_eq_true rfl) ?_
  obtain ⟨u, eu⟩ : ∃ u, u = uN (aS a) := ⟨_, rfl⟩
  have hvu := hv
  rw [← eu] at hvu
  have hu8 := hvu.1
  have hu : sSc (cSt x.1 0) 0 = nI u := hc.1.2.2.1.trans hvu.2.1
  have e25 : aS a 25 = nI u := hvu.2.1
  obtain ⟨nx, hnx, g0, g1, g6, gh⟩ := hc.2.1
  obtain ⟨z, ez⟩ : ∃ z, z = kpX x u 0 nx (aK a) := ⟨_, rfl⟩
  obtain ⟨rz, rz2, rz0⟩ : RC (aS a, recH a (aS a), a.2.2) z.1 ∧ z.2 = x.2 ∧ cSt z.1 0 = cSt x.1 0 := by rw [ez]; exact kp_RC hc hvu hnx g1 g6 gh
  have rs : RS (cSt z.1 0) (aS a) := rz.1
  have huz : sSc (cSt z.1 0) 0 = nI u := rs.2.2.1.trans e25
  refine pw_aload_n (tk tkX7_setAction 0 rfl) rfl ?_
  refine pw_iload_n (tk tkX7_setAction 1 rfl) rfl ?_
  refine pw_callV (ct_X7_checkRule x u hu hu8 _) okX7_checkRule (tk tkX7_setAction 2 rfl) mkX7_89 imX7_checkRule seX7_checkRule (hp_ot _ 0) rfl rfl rfl (by decide) (by decide) (Nat.le_of_ble_eq_true rfl) (fun r h2 q => ?_) (fun E h2 q => by obtain ⟨k1, rfl, rfl⟩ := ck_r q; exact pt_out rfl rfl (CQ.thr hc rfl List.mem_cons_self (if_pos (show inR r 0 (aS a 25 - 1) = false from by rw [e25]; exact k1))))
  obtain ⟨k1, rfl, rfl⟩ := ck_l q
  have k2 : inR r 0 (aS a 25 - 1) = true := by rw [e25]; exact k1
  obtain ⟨r1, hr, er, er2⟩ := inR_lt rfl (by omega) k1
  refine pw_iload_n (tk tkX7_setAction 3 rfl) rfl ?_
  refine pw_if_lt (tgt := 45) (tk tkX7_setAction 4 rfl) (by decide) (fun c6 => ?_) (fun c6 => ?_)
  · exact pw_throw twIAE rfl rfl rfl ckX7_59 (tx := "action, row, column or amount is out of range") (List.mem_of_getElem? (i := 3) rfl) (tk tkX7_setAction 20 rfl) (tk tkX7_setAction 21 rfl) (tk tkX7_setAction 22 rfl) (tk tkX7_setAction 23 rfl) (tk tkX7_setAction 24 rfl) (by decide) (by decide) (CQ.thr hc rfl (List.mem_cons_of_mem _ List.mem_cons_self) ((if_neg (ne_f k2)).trans (if_pos (inR_f1 c6))))
  · refine pw_iload_n (tk tkX7_setAction 5 rfl) rfl ?_
    refine pw_iconst (v := 3) (tk tkX7_setAction 6 rfl) (by decide) ?_
    refine pw_icmp_gt (tgt := 45) (tk tkX7_setAction 7 rfl) (by decide) (fun c11 => ?_) (fun c11 => ?_)
    · exact pw_throw twIAE rfl rfl rfl ckX7_59 (tx := "action, row, column or amount is out of range") (List.mem_of_getElem? (i := 3) rfl) (tk tkX7_setAction 20 rfl) (tk tkX7_setAction 21 rfl) (tk tkX7_setAction 22 rfl) (tk tkX7_setAction 23 rfl) (tk tkX7_setAction 24 rfl) (by decide) (by decide) (CQ.thr hc rfl (List.mem_cons_of_mem _ List.mem_cons_self) ((if_neg (ne_f k2)).trans (if_pos (inR_f2 c11))))
    · refine pw_iload_n (tk tkX7_setAction 8 rfl) rfl ?_
      refine pw_cS (ct_X7_isRow _ _) okX7_isRow (tk tkX7_setAction 9 rfl) mkX7_93 stX7_isRow rfl rfl (by decide) (by decide) (Nat.le_of_ble_eq_true rfl) ?_
      refine pw_ifb (tgt := 45) (tk tkX7_setAction 10 rfl) (by decide) (fun c18 => ?_) (fun c18 => ?_)
      · exact pw_throw twIAE rfl rfl rfl ckX7_59 (tx := "action, row, column or amount is out of range") (List.mem_of_getElem? (i := 3) rfl) (tk tkX7_setAction 20 rfl) (tk tkX7_setAction 21 rfl) (tk tkX7_setAction 22 rfl) (tk tkX7_setAction 23 rfl) (tk tkX7_setAction 24 rfl) (by decide) (by decide) (CQ.thr hc rfl (List.mem_cons_of_mem _ List.mem_cons_self) ((if_neg (ne_f k2)).trans ((if_neg (ne_f (inR_t4 c6 (Int32.not_lt.mp c11)))).trans (if_pos c18))))
      · refine pw_iload (tk tkX7_setAction 11 rfl) rfl ?_
        refine pw_cS (ct_X7_isColumn _ _) okX7_isColumn (tk tkX7_setAction 12 rfl) mkX7_52 stX7_isColumn rfl rfl (by decide) (by decide) (Nat.le_of_ble_eq_true rfl) ?_
        refine pw_ifb (tgt := 45) (tk tkX7_setAction 13 rfl) (by decide) (fun c26 => ?_) (fun c26 => ?_)
        · exact pw_throw twIAE rfl rfl rfl ckX7_59 (tx := "action, row, column or amount is out of range") (List.mem_of_getElem? (i := 3) rfl) (tk tkX7_setAction 20 rfl) (tk tkX7_setAction 21 rfl) (tk tkX7_setAction 22 rfl) (tk tkX7_setAction 23 rfl) (tk tkX7_setAction 24 rfl) (by decide) (by decide) (CQ.thr hc rfl (List.mem_cons_of_mem _ List.mem_cons_self) ((if_neg (ne_f k2)).trans ((if_neg (ne_f (inR_t4 c6 (Int32.not_lt.mp c11)))).trans ((if_neg (ne_f c18)).trans (if_pos c26)))))
        · refine pw_iload (tk tkX7_setAction 14 rfl) rfl ?_
          refine pw_sipush (v := (-999)) (tk tkX7_setAction 15 rfl) (by decide) ?_
          refine pw_icmp_lt (tgt := 45) (tk tkX7_setAction 16 rfl) (by decide) (fun c34 => ?_) (fun c34 => ?_)
          · exact pw_throw twIAE rfl rfl rfl ckX7_59 (tx := "action, row, column or amount is out of range") (List.mem_of_getElem? (i := 3) rfl) (tk tkX7_setAction 20 rfl) (tk tkX7_setAction 21 rfl) (tk tkX7_setAction 22 rfl) (tk tkX7_setAction 23 rfl) (tk tkX7_setAction 24 rfl) (by decide) (by decide) (CQ.thr hc rfl (List.mem_cons_of_mem _ List.mem_cons_self) ((if_neg (ne_f k2)).trans ((if_neg (ne_f (inR_t4 c6 (Int32.not_lt.mp c11)))).trans ((if_neg (ne_f c18)).trans ((if_neg (ne_f c26)).trans (if_pos (inR_f1 c34)))))))
          · refine pw_iload (tk tkX7_setAction 17 rfl) rfl ?_
            refine pw_sipush (v := 999) (tk tkX7_setAction 18 rfl) (by decide) ?_
            refine pw_icmp_le (tgt := 55) (tk tkX7_setAction 19 rfl) (by decide) (fun c42 => ?_) (fun c42 => ?_)
            · refine pw_aload_n (tk tkX7_setAction 25 rfl) rfl ?_
              refine g7_history (tk tkX7_setAction 26 rfl) fkX7_40 ?_
              refine pw_aload_n (tk tkX7_setAction 27 rfl) rfl ?_
              refine g7_now (tk tkX7_setAction 28 rfl) fkX7_10 ?_
              refine pw_cV0 (ct_X1_keep x u 0 nx (aK a) (by decide) hnx g6 g0 g1 (hc.1.wb hvu)) okX1_keep (tk tkX7_setAction 29 rfl) mkX7_75 imX1_keep seX1_keep (hp_ot _ 7) rfl rfl rfl (by decide) (by decide) (Nat.le_of_ble_eq_true rfl) ?_
              rw [← ez]
              refine pw_aload_n (tk tkX7_setAction 30 rfl) rfl ?_
              refine g7_now (tk tkX7_setAction 31 rfl) fkX7_10 ?_
              refine g4_rules (by first | assumption | decide | omega) (tk tkX7_setAction 32 rfl) fkX7_79 ?_
              refine pw_iload_n (tk tkX7_setAction 33 rfl) rfl ?_
              refine al_rules_e (e := r1) (by first | assumption | decide | omega) (tk tkX7_setAction 34 rfl) er (by first | decide | omega) ?_
              refine pw_ast6 (tk tkX7_setAction 35 rfl) rfl (by decide) ?_
              refine pw_aload (tk tkX7_setAction 36 rfl) rfl ?_
              refine g3_action (by first | assumption | decide | omega) (by first | assumption | decide | omega) (tk tkX7_setAction 37 rfl) fkX7_98 ?_
              rw [rs.2.2.2.2.2.1 r1 3 (by omega) (by omega)]
              refine pw_ist7 (tk tkX7_setAction 38 rfl) rfl (by decide) ?_
              refine pw_aload (tk tkX7_setAction 39 rfl) rfl ?_
              refine pw_iload_n (tk tkX7_setAction 40 rfl) rfl ?_
              refine p3_action (by first | assumption | decide | omega) (by first | assumption | decide | omega) (tk tkX7_setAction 41 rfl) fkX7_98 ?_
              rw [uRu_put0]
              refine pw_aload (tk tkX7_setAction 42 rfl) rfl ?_
              refine pw_iload_n (tk tkX7_setAction 43 rfl) rfl ?_
              refine p3_targetRow (by first | assumption | decide | omega) (by first | assumption | decide | omega) (tk tkX7_setAction 44 rfl) fkX7_101 ?_
              rw [uRu_put]
              refine pw_aload (tk tkX7_setAction 45 rfl) rfl ?_
              refine pw_iload (tk tkX7_setAction 46 rfl) rfl ?_
              refine p3_targetColumn (by first | assumption | decide | omega) (by first | assumption | decide | omega) (tk tkX7_setAction 47 rfl) fkX7_104 ?_
              rw [uRu_put]
              refine pw_aload (tk tkX7_setAction 48 rfl) rfl ?_
              refine pw_iload (tk tkX7_setAction 49 rfl) rfl ?_
              refine p3_amount (by first | assumption | decide | omega) (by first | assumption | decide | omega) (tk tkX7_setAction 50 rfl) fkX7_107 ?_
              rw [uRu_put]
              refine pw_iload (tk tkX7_setAction 51 rfl) rfl ?_
              refine pw_ireturn (tk tkX7_setAction 52 rfl) rfl (by decide) rfl ?_
              have q9 := rs.row (i := r1) (by omega) (upd (upd (upd (upd (sRu (cSt z.1 0) r1) 3 k) 4 ro) 5 c) 6 m) (upd (upd (upd (upd (aS a) (26 + 9 * r1 + 3) k) (26 + 9 * r1 + 4) ro) (26 + 9 * r1 + 5) c) (26 + 9 * r1 + 6) m) (fun j hj => by rw [upd_nt _ _ (by omega), upd_nt _ _ (by omega), upd_nt _ _ (by omega), upd_nt _ _ (by omega)]) (upd_row (upd_row (upd_row (upd_row (fun k2 hk2 => rs.2.2.2.2.2.1 r1 k2 (by omega) hk2) 3 k) 4 ro) 5 c) 6 m)
              exact CQ.ret (rz.now (q9.rs (by rw [upd_nt _ _ (by omega), upd_nt _ _ (by omega), upd_nt _ _ (by omega), upd_nt _ _ (by omega)]))) rz2 ((if_neg (ne_f k2)).trans ((if_neg (ne_f (inR_t4 c6 (Int32.not_lt.mp c11)))).trans ((if_neg (ne_f c18)).trans ((if_neg (ne_f c26)).trans ((if_neg (ne_f (show inR m (-999) 999 = true from by unfold inR; rw [decide_eq_true c34, decide_eq_true (Int32.not_lt.mpr c42)]; rfl))).trans (by rw [er2]))))))
            · exact pw_throw twIAE rfl rfl rfl ckX7_59 (tx := "action, row, column or amount is out of range") (List.mem_of_getElem? (i := 3) rfl) (tk tkX7_setAction 20 rfl) (tk tkX7_setAction 21 rfl) (tk tkX7_setAction 22 rfl) (tk tkX7_setAction 23 rfl) (tk tkX7_setAction 24 rfl) (by decide) (by decide) (CQ.thr hc rfl (List.mem_cons_of_mem _ List.mem_cons_self) ((if_neg (ne_f k2)).trans ((if_neg (ne_f (inR_t4 c6 (Int32.not_lt.mp c11)))).trans ((if_neg (ne_f c18)).trans ((if_neg (ne_f c26)).trans (if_pos (inR_f2 (Int32.not_le.mp c42))))))))
theorem RS1.new {σ : SS} {s : Nat → Int32} {w0 : Int32} {u : Nat} (h : RS1 σ s w0) (hv : VS u s) (h8 : u < 8) (e c l : Int32) : RS1 (uS7 (uS3 σ (upR (sRu σ) u (stRu (sRu σ u) e c l))) (upd (sSc σ) 0 (nI (u + 1)))) (newR s u e c l) w0 := by
  have nt : ∀ j, j ≠ 25 → (j < 26 + 9 * u ∨ 26 + 9 * u + 9 ≤ j) → newR s u e c l j = s j := fun j h1 h2 => newR_nt s u e c l h1 h2
  have e25 : newR s u e c l 25 = nI (u + 1) := upd_at _ _ _
  have eu : uN (newR s u e c l) = u + 1 := by unfold uN; rw [e25, nI_clamp (by omega)]
  refine h.mid rfl rfl rfl rfl rfl rfl (fun j hj => nt j (by omega) (by omega)) (by rw [e25]; rfl) (by rw [nt 24 (by omega) (by omega)]; exact h.2.2.2.1) (fun i k hi hk => ?_)
  rw [eu] at hi
  show upR (sRu σ) u (stRu (sRu σ u) e c l) i k = newR s u e c l (26 + 9 * i + k)
  unfold upR
  by_cases q : i = u
  · subst q
    rw [if_pos rfl]
    have z : ∀ k, 3 ≤ k → k < 9 → newR s i e c l (26 + 9 * i + k) = 0 := fun k h3 h9 => newR_z s i e c l h3 h9
    match k, hk with
    | 0, _ => exact (show newR s i e c l (26 + 9 * i) = e from by unfold newR; rw [upd_nt _ _ (by omega), upd_nt _ _ (by omega), upd_nt _ _ (by omega), upd_at]).symm
    | 1, _ => exact (show newR s i e c l (26 + 9 * i + 1) = c from by unfold newR; rw [upd_nt _ _ (by omega), upd_nt _ _ (by omega), upd_at]).symm
    | 2, _ => exact (show newR s i e c l (26 + 9 * i + 2) = l from by unfold newR; rw [upd_nt _ _ (by omega), upd_at]).symm
    | 3, _ => exact (z 3 (by omega) (by omega)).symm
    | 4, _ => exact (z 4 (by omega) (by omega)).symm
    | 5, _ => exact (z 5 (by omega) (by omega)).symm
    | 6, _ => exact (z 6 (by omega) (by omega)).symm
    | 7, _ => exact (z 7 (by omega) (by omega)).symm
    | 8, _ => exact (z 8 (by omega) (by omega)).symm
    | k + 9, h => exact absurd h (by omega)
  · rw [if_neg q, nt _ (by omega) (by omega)]
    exact h.2.2.2.2.2.1 i k (by rw [hv.un]; omega) hk
set_option maxRecDepth 100000 in
set_option maxHeartbeats 4000000 in
theorem ct_X7_addRule (x : XW) (a : AM) (hc : RC a x.1) (hv : VS (uN (aS a)) (aS a)) (e c l : Int32) : CT MX7_addRule 30 6 [.ref 160, .int e, .int c, .int l] (hp x) (CQ [(1, "java/lang/IllegalArgumentException"), (2, "java/lang/IllegalStateException")] x (saddRule a e c l)) := by
  refine ct_of (by decide +kernel) (by decide) rfl (k := 1) (ls := [some (.ref 160), some (.int e), some (.int c), some (.int l), none]) rfl (Nat.le_of_ble_eq_true rfl) ?_
  obtain ⟨u, eu⟩ : ∃ u, u = uN (aS a) := ⟨_, rfl⟩
  have hvu := hv
  rw [← eu] at hvu
  have hu8 := hvu.1
  have hu : sSc (cSt x.1 0) 0 = nI u := hc.1.2.2.1.trans hvu.2.1
  have e25 : aS a 25 = nI u := hvu.2.1
  obtain ⟨nx, hnx, g0, g1, g6, gh⟩ := hc.2.1
  obtain ⟨z, ez⟩ : ∃ z, z = kpX x u 0 nx (aK a) := ⟨_, rfl⟩
  obtain ⟨rz, rz2, rz0⟩ : RC (aS a, recH a (aS a), a.2.2) z.1 ∧ z.2 = x.2 ∧ cSt z.1 0 = cSt x.1 0 := by rw [ez]; exact kp_RC hc hvu hnx g1 g6 gh
  have rs : RS (cSt z.1 0) (aS a) := rz.1
  have huz : sSc (cSt z.1 0) 0 = nI u := rs.2.2.1.trans e25
  refine pw_iload_n (tk tkX7_addRule 0 rfl) rfl ?_
  refine pw_if_lt (tgt := 23) (tk tkX7_addRule 1 rfl) (by decide) (fun c1 => ?_) (fun c1 => ?_)
  · exact pw_throw twIAE rfl rfl rfl ckX7_59 (tx := "event, column or least is out of range") (List.mem_of_getElem? (i := 0) rfl) (tk tkX7_addRule 11 rfl) (tk tkX7_addRule 12 rfl) (tk tkX7_addRule 13 rfl) (tk tkX7_addRule 14 rfl) (tk tkX7_addRule 15 rfl) (by decide) (by decide) (CQ.thr hc rfl List.mem_cons_self (if_pos (inR_f1 c1)))
  · refine pw_iload_n (tk tkX7_addRule 2 rfl) rfl ?_
    refine pw_iconst (v := 2) (tk tkX7_addRule 3 rfl) (by decide) ?_
    refine pw_icmp_gt (tgt := 23) (tk tkX7_addRule 4 rfl) (by decide) (fun c6 => ?_) (fun c6 => ?_)
    · exact pw_throw twIAE rfl rfl rfl ckX7_59 (tx := "event, column or least is out of range") (List.mem_of_getElem? (i := 0) rfl) (tk tkX7_addRule 11 rfl) (tk tkX7_addRule 12 rfl) (tk tkX7_addRule 13 rfl) (tk tkX7_addRule 14 rfl) (tk tkX7_addRule 15 rfl) (by decide) (by decide) (CQ.thr hc rfl List.mem_cons_self (if_pos (inR_f2 c6)))
    · refine pw_iload_n (tk tkX7_addRule 5 rfl) rfl ?_
      refine pw_cS (ct_X7_isColumn _ _) okX7_isColumn (tk tkX7_addRule 6 rfl) mkX7_52 stX7_isColumn rfl rfl (by decide) (by decide) (Nat.le_of_ble_eq_true rfl) ?_
      refine pw_ifb (tgt := 23) (tk tkX7_addRule 7 rfl) (by decide) (fun c13 => ?_) (fun c13 => ?_)
      · exact pw_throw twIAE rfl rfl rfl ckX7_59 (tx := "event, column or least is out of range") (List.mem_of_getElem? (i := 0) rfl) (tk tkX7_addRule 11 rfl) (tk tkX7_addRule 12 rfl) (tk tkX7_addRule 13 rfl) (tk tkX7_addRule 14 rfl) (tk tkX7_addRule 15 rfl) (by decide) (by decide) (CQ.thr hc rfl List.mem_cons_self ((if_neg (ne_f (inR_t4 c1 (Int32.not_lt.mp c6)))).trans (if_pos c13)))
      · refine pw_iload_n (tk tkX7_addRule 8 rfl) rfl ?_
        refine pw_cS (ct_X7_isValue _ _) okX7_isValue (tk tkX7_addRule 9 rfl) mkX7_56 stX7_isValue rfl rfl (by decide) (by decide) (Nat.le_of_ble_eq_true rfl) ?_
        refine pw_ifnb (tgt := 33) (tk tkX7_addRule 10 rfl) (by decide) (fun c20 => ?_) (fun c20 => ?_)
        · refine pw_aload_n (tk tkX7_addRule 16 rfl) rfl ?_
          refine g7_now (tk tkX7_addRule 17 rfl) fkX7_10 ?_
          refine g4_rulesUsed (by first | assumption | decide | omega) (tk tkX7_addRule 18 rfl) fkX7_66 ?_
          refine pw_bipush (v := 8) (tk tkX7_addRule 19 rfl) (by decide) ?_
          rw [hu]
          refine pw_icmp_lt (tgt := 55) (tk tkX7_addRule 20 rfl) (by decide) (fun c42 => ?_) (fun c42 => ?_)
          · have h8 : u < 8 := by
              rcases Nat.lt_or_ge u 8 with q | q
              · exact q
              · exact absurd c42 (nI_nlt q (by omega))
            refine pw_aload_n (tk tkX7_addRule 26 rfl) rfl ?_
            refine g7_history (tk tkX7_addRule 27 rfl) fkX7_40 ?_
            refine pw_aload_n (tk tkX7_addRule 28 rfl) rfl ?_
            refine g7_now (tk tkX7_addRule 29 rfl) fkX7_10 ?_
            refine pw_cV0 (ct_X1_keep x u 0 nx (aK a) (by decide) hnx g6 g0 g1 (hc.1.wb hvu)) okX1_keep (tk tkX7_addRule 30 rfl) mkX7_75 imX1_keep seX1_keep (hp_ot _ 7) rfl rfl rfl (by decide) (by decide) (Nat.le_of_ble_eq_true rfl) ?_
            rw [← ez]
            refine pw_aload_n (tk tkX7_addRule 31 rfl) rfl ?_
            refine g7_now (tk tkX7_addRule 32 rfl) fkX7_10 ?_
            refine g4_rulesUsed (by first | assumption | decide | omega) (tk tkX7_addRule 33 rfl) fkX7_66 ?_
            rw [huz]
            refine pw_ist4 (tk tkX7_addRule 34 rfl) rfl (by decide) ?_
            refine pw_aload_n (tk tkX7_addRule 35 rfl) rfl ?_
            refine g7_now (tk tkX7_addRule 36 rfl) fkX7_10 ?_
            refine g4_rules (by first | assumption | decide | omega) (tk tkX7_addRule 37 rfl) fkX7_79 ?_
            refine pw_iload (tk tkX7_addRule 38 rfl) rfl ?_
            refine al_rules_e (e := u) (by first | assumption | decide | omega) (tk tkX7_addRule 39 rfl) rfl (by first | decide | omega) ?_
            refine pw_iload_n (tk tkX7_addRule 40 rfl) rfl ?_
            refine pw_iload_n (tk tkX7_addRule 41 rfl) rfl ?_
            refine pw_iload_n (tk tkX7_addRule 42 rfl) rfl ?_
            refine pw_cV0 (ct_X3_start z 0 u (by decide) h8 e c l) okX3_start (tk tkX7_addRule 43 rfl) mkX7_83 imX3_start seX3_start ((hp_st _ (by decide : 0 < 10) (by omega)).trans (stc_ru _ _ _ (by omega))) rfl rfl rfl (by decide) (by decide) (Nat.le_of_ble_eq_true rfl) ?_
            refine pw_aload_n (tk tkX7_addRule 44 rfl) rfl ?_
            refine g7_now (tk tkX7_addRule 45 rfl) fkX7_10 ?_
            refine pw_dup (tk tkX7_addRule 46 rfl) rfl ?_
            refine g4_rulesUsed (by first | assumption | decide | omega) (tk tkX7_addRule 47 rfl) fkX7_66 ?_
            refine pw_iconst (v := 1) (tk tkX7_addRule 48 rfl) (by decide) ?_
            refine pw_iadd (tk tkX7_addRule 49 rfl) ?_
            rw [show sSc (cSt (uRu z 0 u (stRu (sRu (cSt z.1 0) u) e c l)).1 0) 0 = nI u from by unfold uRu; rw [cSt_u]; exact huz, nI_1]
            refine p4_rulesUsed (by first | assumption | decide | omega) (tk tkX7_addRule 50 rfl) fkX7_66 ?_
            unfold uRu
            rw [cSt_u, uC1_uC1]
            refine pw_iload (tk tkX7_addRule 51 rfl) rfl ?_
            refine pw_ireturn (tk tkX7_addRule 52 rfl) rfl (by decide) rfl ?_
            refine CQ.ret (rz.now ((rs.new hvu h8 e c l).rs (newR_nt _ _ _ _ _ (by omega) (by omega)))) rz2 ((if_neg (ne_f (inR_t4 c1 (Int32.not_lt.mp c6)))).trans ((if_neg (ne_f c13)).trans ((if_neg (ne_f c20)).trans ((if_neg (fun q => by rw [e25] at q; exact absurd ((nI_eq (by omega) (by decide)).mp q) (show ¬ u = 8 by omega))).trans (by rw [← eu])))))
          · exact pw_throw twISE rfl rfl rfl ckX7_70 (tx := "there are 8 rules") (List.mem_of_getElem? (i := 1) rfl) (tk tkX7_addRule 21 rfl) (tk tkX7_addRule 22 rfl) (tk tkX7_addRule 23 rfl) (tk tkX7_addRule 24 rfl) (tk tkX7_addRule 25 rfl) (by decide) (by decide) (CQ.thr hc rfl (List.mem_cons_of_mem _ List.mem_cons_self) ((if_neg (ne_f (inR_t4 c1 (Int32.not_lt.mp c6)))).trans ((if_neg (ne_f c13)).trans ((if_neg (ne_f c20)).trans (if_pos (by rw [e25, show u = 8 from by (have h8 : ¬ u < 8 := fun q => c42 (nI_lt q (by decide))); omega]; rfl))))))
        · exact pw_throw twIAE rfl rfl rfl ckX7_59 (tx := "event, column or least is out of range") (List.mem_of_getElem? (i := 0) rfl) (tk tkX7_addRule 11 rfl) (tk tkX7_addRule 12 rfl) (tk tkX7_addRule 13 rfl) (tk tkX7_addRule 14 rfl) (tk tkX7_addRule 15 rfl) (by decide) (by decide) (CQ.thr hc rfl List.mem_cons_self ((if_neg (ne_f (inR_t4 c1 (Int32.not_lt.mp c6)))).trans ((if_neg (ne_f c13)).trans (if_pos c20))))
