theorem lw_gt {a L : Nat} (ha : a < 10000) (hL : L ≤ 3072) : nI L - 6 < nI a ↔ L < a + 6 := by
  have h1 : (nI L - 6).toInt = (L : Int) - 6 := by
    rw [Int32.toInt_sub, nI_toInt (by omega)]
    show ((L : Int) - 6).bmod 4294967296 = (L : Int) - 6
    rw [Int.bmod_def]
    split <;> omega
  rw [Int32.lt_iff_toInt_lt, h1, nI_toInt (by omega)]
  omega
theorem x0_weak2 {k : Nat} {c' : Cel} (hk : (hp x0).2 k = some c') : ∃ c, ud (f8 (f7 (fun _ => none))) 178 (.inl (.long, 1, fun _ => .long 0)) k = some c ∧ cEq c c' := by
  by_cases e : k = 178
  · subst e
    have h9 : otc 18 x0 = some c' := hk
    cases h9
    exact ⟨_, rfl, cEq.rf _⟩
  · rw [ud_o e]
    have hs : ¬ k < 160 → (hp x0).2 k = otc (k - 160) x0 := fun q => if_neg q
    by_cases e2 : 171 ≤ k ∧ k < 178
    · rw [hs (by omega)] at hk
      exact ⟨c', (if_pos e2).trans hk, cEq.rf c'⟩
    · by_cases e3 : k < 171
      · exact ⟨c', (if_neg e2).trans ((if_pos e3).trans hk), cEq.rf c'⟩
      · rw [hs (by omega)] at hk
        have h9 : otc (k - 160) x0 = none := by
          unfold otc
          rw [if_neg (show ¬ k - 160 = 0 by omega), if_neg (show ¬ k - 160 = 1 by omega), if_neg (show ¬ k - 160 = 2 by omega), if_neg (show ¬ k - 160 = 3 by omega), if_neg (show ¬ k - 160 = 4 by omega), if_neg (show ¬ k - 160 = 5 by omega), if_neg (show ¬ k - 160 = 6 by omega), if_neg (show ¬ k - 160 = 7 by omega), if_neg (show ¬ k - 160 = 8 by omega), if_neg (show ¬ k - 160 = 9 by omega), if_neg (show ¬ k - 160 = 10 by omega), if_neg (show ¬ k - 160 = 11 by omega), if_neg (show ¬ k - 160 = 12 by omega), if_neg (show ¬ k - 160 = 13 by omega), if_neg (show ¬ k - 160 = 14 by omega), if_neg (show ¬ k - 160 = 15 by omega), if_neg (show ¬ k - 160 = 16 by omega), if_neg (show ¬ k - 160 = 17 by omega), if_neg (show ¬ k - 160 = 18 by omega)]
        rw [h9] at hk
        cases hk
set_option maxRecDepth 100000 in
set_option maxHeartbeats 4000000 in
theorem law_loop {L : Nat} {xs : Nat → Int32} {nm : String} {hh : List (Nat × Nat × Nat × Nat)} (hL : L ≤ 3072) : ∀ (k j : Nat) (x : XW) (z5 z6 : Option Value) (n : Nat), REL x → L ≤ 6 * (j + k) + 5 → 6 * j ≤ L + 5 → 6 * k ≤ n → PW (ML9 L xs nm hh) 32 n 23 [some (.ref 1020), some (.ref 160), some (.ref 171), some (.ref 178), some (.int (nI (6 * j))), z5, z6] [] (hp x) QL := by
  intro k
  induction k with
  | zero =>
    intro j x z5 z6 n hx hk hj hn
    refine pw_iload (tk tkL_law0 13 rfl) rfl ?_
    refine pw_aload_n (tk tkL_law0 14 rfl) rfl ?_
    refine pw_scrLen rfl (tk tkL_law0 15 rfl) ?_
    refine pw_bipush (v := 6) (tk tkL_law0 16 rfl) (by decide) ?_
    refine pw_isub (tk tkL_law0 17 rfl) ?_
    refine pw_icmp_gt (tgt := 2099) (tk tkL_law0 18 rfl) (by decide) (fun _ => ?_) (fun c => absurd ((lw_gt (L := L) (by omega) hL).mpr (by omega)) c)
    refine pw_iconst (v := 1) (tk tkL_law31 1 rfl) (by decide) ?_
    exact pw_lawret rfl rfl rfl (tk tkL_law31 2 rfl)
  | succ k ih =>
    intro j x z5 z6 n hx hk hj hn
    refine pw_iload (tk tkL_law0 13 rfl) rfl ?_
    refine pw_aload_n (tk tkL_law0 14 rfl) rfl ?_
    refine pw_scrLen rfl (tk tkL_law0 15 rfl) ?_
    refine pw_bipush (v := 6) (tk tkL_law0 16 rfl) (by decide) ?_
    refine pw_isub (tk tkL_law0 17 rfl) ?_
    refine pw_icmp_gt (tgt := 2099) (tk tkL_law0 18 rfl) (by decide) (fun c => ?_) (fun c => ?_)
    · refine pw_iconst (v := 1) (tk tkL_law31 1 rfl) (by decide) ?_
      exact pw_lawret rfl rfl rfl (tk tkL_law31 2 rfl)
    · have hj5 : 6 * j + 5 < L := by
        rcases Nat.lt_or_ge (6 * j + 5) L with q | q
        · exact q
        · exact absurd ((lw_gt (L := L) (by omega) hL).mpr (by omega)) c
      have ih2 : ∀ (x : XW) (z5 z6 : Option Value), REL x → PW (ML9 L xs nm hh) 32 (n - 6) 2093 [some (.ref 1020), some (.ref 160), some (.ref 171), some (.ref 178), some (.int (nI (6 * j))), z5, z6] [] (hp x) QL := by
        intro x z5 z6 hx
        refine pw_inc4 (tk tkL_law30 39 rfl) rfl (show 4 < 7 by decide) (show nI (6 * j) + Int32.ofInt 6 = nI (6 * (j + 1)) from nI_add (6 * j) 6) ?_
        refine pw_goto (tgt := 23) (tk tkL_law31 0 rfl) (by decide) ?_
        exact ih (j + 1) x z5 z6 (n - 6) hx (by omega) (by omega) (by omega)
      have hn6 : 6 ≤ n := by omega
      refine pw_aload_n (tk tkL_law0 19 rfl) rfl ?_
      refine pw_iload (tk tkL_law0 20 rfl) rfl ?_
      refine pw_sld_e (e := 6 * j) rfl (tk tkL_law0 21 rfl) rfl (show 6 * j < L by omega) (by omega) ?_
      refine pw_bipush (v := 63) (tk tkL_law0 22 rfl) (by decide) ?_
      refine pw_iand (tk tkL_law0 23 rfl) ?_
      by_cases hv : (xs (6 * j) &&& 63).toInt < 0 ∨ 35 < (xs (6 * j) &&& 63).toInt
      · refine pw_tabOut (tgt := 2093) (tk tkL_law0 24 rfl) hv (by decide) ?_
        exact pw_less (by omega) (ih2 x z5 z6 hx)
      · have h1 : ¬ (xs (6 * j) &&& 63).toInt < 0 := fun q => hv (Or.inl q)
        have h2 : ¬ 35 < (xs (6 * j) &&& 63).toInt := fun q => hv (Or.inr q)
        obtain ⟨q, hq, eq⟩ : ∃ q : Nat, q < 36 ∧ (xs (6 * j) &&& 63).toInt = (q : Int) := ⟨(xs (6 * j) &&& 63).toInt.toNat, by omega, by omega⟩
        match q, hq, eq with
        | 0, _, eq => exact pw_tabIn (off := 160) (tgt := 200) (tk tkL_law0 24 rfl) h1 h2 (by rw [eq]; rfl) (by decide) (law_0 hL hn6 j hj5 x hx z5 z6 ih2)
        | 1, _, eq => exact pw_tabIn (off := 240) (tgt := 280) (tk tkL_law0 24 rfl) h1 h2 (by rw [eq]; rfl) (by decide) (law_1 hL hn6 j hj5 x hx z5 z6 ih2)
        | 2, _, eq => exact pw_tabIn (off := 344) (tgt := 384) (tk tkL_law0 24 rfl) h1 h2 (by rw [eq]; rfl) (by decide) (law_2 hL hn6 j hj5 x hx z5 z6 ih2)
        | 3, _, eq => exact pw_tabIn (off := 407) (tgt := 447) (tk tkL_law0 24 rfl) h1 h2 (by rw [eq]; rfl) (by decide) (law_3 hL hn6 j hj5 x hx z5 z6 ih2)
        | 4, _, eq => exact pw_tabIn (off := 463) (tgt := 503) (tk tkL_law0 24 rfl) h1 h2 (by rw [eq]; rfl) (by decide) (law_4 hL hn6 j hj5 x hx z5 z6 ih2)
        | 5, _, eq => exact pw_tabIn (off := 519) (tgt := 559) (tk tkL_law0 24 rfl) h1 h2 (by rw [eq]; rfl) (by decide) (law_5 hL hn6 j hj5 x hx z5 z6 ih2)
        | 6, _, eq => exact pw_tabIn (off := 611) (tgt := 651) (tk tkL_law0 24 rfl) h1 h2 (by rw [eq]; rfl) (by decide) (law_6 hL hn6 j hj5 x hx z5 z6 ih2)
        | 7, _, eq => exact pw_tabIn (off := 691) (tgt := 731) (tk tkL_law0 24 rfl) h1 h2 (by rw [eq]; rfl) (by decide) (law_7 hL hn6 j hj5 x hx z5 z6 ih2)
        | 8, _, eq => exact pw_tabIn (off := 747) (tgt := 787) (tk tkL_law0 24 rfl) h1 h2 (by rw [eq]; rfl) (by decide) (law_8 hL hn6 j hj5 x hx z5 z6 ih2)
        | 9, _, eq => exact pw_tabIn (off := 827) (tgt := 867) (tk tkL_law0 24 rfl) h1 h2 (by rw [eq]; rfl) (by decide) (law_9 hL hn6 j hj5 x hx z5 z6 ih2)
        | 10, _, eq => exact pw_tabIn (off := 907) (tgt := 947) (tk tkL_law0 24 rfl) h1 h2 (by rw [eq]; rfl) (by decide) (law_10 hL hn6 j hj5 x hx z5 z6 ih2)
        | 11, _, eq => exact pw_tabIn (off := 987) (tgt := 1027) (tk tkL_law0 24 rfl) h1 h2 (by rw [eq]; rfl) (by decide) (law_11 hL hn6 j hj5 x hx z5 z6 ih2)
        | 12, _, eq => exact pw_tabIn (off := 1050) (tgt := 1090) (tk tkL_law0 24 rfl) h1 h2 (by rw [eq]; rfl) (by decide) (law_12 hL hn6 j hj5 x hx z5 z6 ih2)
        | 13, _, eq => exact pw_tabIn (off := 1063) (tgt := 1103) (tk tkL_law0 24 rfl) h1 h2 (by rw [eq]; rfl) (by decide) (law_13 hL hn6 j hj5 x hx z5 z6 ih2)
        | 14, _, eq => exact pw_tabIn (off := 1131) (tgt := 1171) (tk tkL_law0 24 rfl) h1 h2 (by rw [eq]; rfl) (by decide) (law_14 hL hn6 j hj5 x hx z5 z6 ih2)
        | 15, _, eq => exact pw_tabIn (off := 1187) (tgt := 1227) (tk tkL_law0 24 rfl) h1 h2 (by rw [eq]; rfl) (by decide) (law_15 hL hn6 j hj5 x hx z5 z6 ih2)
        | 16, _, eq => exact pw_tabIn (off := 1200) (tgt := 1240) (tk tkL_law0 24 rfl) h1 h2 (by rw [eq]; rfl) (by decide) (law_16 hL hn6 j hj5 x hx z5 z6 ih2)
        | 17, _, eq => exact pw_tabIn (off := 1256) (tgt := 1296) (tk tkL_law0 24 rfl) h1 h2 (by rw [eq]; rfl) (by decide) (law_17 hL hn6 j hj5 x hx z5 z6 ih2)
        | 18, _, eq => exact pw_tabIn (off := 1319) (tgt := 1359) (tk tkL_law0 24 rfl) h1 h2 (by rw [eq]; rfl) (by decide) (law_18 hL hn6 j hj5 x hx z5 z6 ih2)
        | 19, _, eq => exact pw_tabIn (off := 1375) (tgt := 1415) (tk tkL_law0 24 rfl) h1 h2 (by rw [eq]; rfl) (by decide) (law_19 hL hn6 j hj5 x hx z5 z6 ih2)
        | 20, _, eq => exact pw_tabIn (off := 1388) (tgt := 1428) (tk tkL_law0 24 rfl) h1 h2 (by rw [eq]; rfl) (by decide) (law_20 hL hn6 j hj5 x hx z5 z6 ih2)
        | 21, _, eq => exact pw_tabIn (off := 1401) (tgt := 1441) (tk tkL_law0 24 rfl) h1 h2 (by rw [eq]; rfl) (by decide) (law_21 hL hn6 j hj5 x hx z5 z6 ih2)
        | 22, _, eq => exact pw_tabIn (off := 1457) (tgt := 1497) (tk tkL_law0 24 rfl) h1 h2 (by rw [eq]; rfl) (by decide) (law_22 hL hn6 j hj5 x hx z5 z6 ih2)
        | 23, _, eq => exact pw_tabIn (off := 1513) (tgt := 1553) (tk tkL_law0 24 rfl) h1 h2 (by rw [eq]; rfl) (by decide) (law_23 hL hn6 j hj5 x hx z5 z6 ih2)
        | 24, _, eq => exact pw_tabIn (off := 1588) (tgt := 1628) (tk tkL_law0 24 rfl) h1 h2 (by rw [eq]; rfl) (by decide) (law_24 hL hn6 j hj5 x hx z5 z6 ih2)
        | 25, _, eq => exact pw_tabIn (off := 1644) (tgt := 1684) (tk tkL_law0 24 rfl) h1 h2 (by rw [eq]; rfl) (by decide) (law_25 hL hn6 j hj5 x hx z5 z6 ih2)
        | 26, _, eq => exact pw_tabIn (off := 1700) (tgt := 1740) (tk tkL_law0 24 rfl) h1 h2 (by rw [eq]; rfl) (by decide) (law_26 hL hn6 j hj5 x hx z5 z6 ih2)
        | 27, _, eq => exact pw_tabIn (off := 1713) (tgt := 1753) (tk tkL_law0 24 rfl) h1 h2 (by rw [eq]; rfl) (by decide) (law_27 hL hn6 j hj5 x hx z5 z6 ih2)
        | 28, _, eq => exact pw_tabIn (off := 1801) (tgt := 1841) (tk tkL_law0 24 rfl) h1 h2 (by rw [eq]; rfl) (by decide) (law_28 hL hn6 j hj5 x hx z5 z6 ih2)
        | 29, _, eq => exact pw_tabIn (off := 1814) (tgt := 1854) (tk tkL_law0 24 rfl) h1 h2 (by rw [eq]; rfl) (by decide) (law_29 hL hn6 j hj5 x hx z5 z6 ih2)
        | 30, _, eq => exact pw_tabIn (off := 1827) (tgt := 1867) (tk tkL_law0 24 rfl) h1 h2 (by rw [eq]; rfl) (by decide) (law_30 hL hn6 j hj5 x hx z5 z6 ih2)
        | 31, _, eq => exact pw_tabIn (off := 1840) (tgt := 1880) (tk tkL_law0 24 rfl) h1 h2 (by rw [eq]; rfl) (by decide) (law_31 hL hn6 j hj5 x hx z5 z6 ih2)
        | 32, _, eq => exact pw_tabIn (off := 1884) (tgt := 1924) (tk tkL_law0 24 rfl) h1 h2 (by rw [eq]; rfl) (by decide) (law_32 hL hn6 j hj5 x hx z5 z6 ih2)
        | 33, _, eq => exact pw_tabIn (off := 1928) (tgt := 1968) (tk tkL_law0 24 rfl) h1 h2 (by rw [eq]; rfl) (by decide) (law_33 hL hn6 j hj5 x hx z5 z6 ih2)
        | 34, _, eq => exact pw_tabIn (off := 1941) (tgt := 1981) (tk tkL_law0 24 rfl) h1 h2 (by rw [eq]; rfl) (by decide) (law_34 hL hn6 j hj5 x hx z5 z6 ih2)
        | 35, _, eq => exact pw_tabIn (off := 1997) (tgt := 2037) (tk tkL_law0 24 rfl) h1 h2 (by rw [eq]; rfl) (by decide) (law_35 hL hn6 j hj5 x hx z5 z6 ih2)
        | q + 36, h, _ => exact absurd h (by omega)
set_option maxRecDepth 100000 in
set_option maxHeartbeats 4000000 in
theorem law_all {L : Nat} {xs : Nat → Int32} {nm : String} {hh : List (Nat × Nat × Nat × Nat)} (hL : L ≤ 3072) : PW (ML9 L xs nm hh) 32 7000 0 [some (.ref 1020), none, none, none, none, none, none] [] (some 0, fun _ => none) QL := by
  refine pF_new (k := 160) (z' := 1) dF7 clX7 (tk tkL_law0 0 rfl) (by omega) (by decide +kernel) rfl ckL_8 itX7 iiX7 dF7_ok (by decide) (by decide) ?_
  refine pw_dup (tk tkL_law0 1 rfl) rfl ?_
  refine pw_cI0 (ct_X7_init (fun _ => none)) rfl okX7_init rfl rfl (tk tkL_law0 2 rfl) mkL_105 imX7_init rfl rfl (by decide) (by decide) (Nat.le_of_ble_eq_true rfl) ?_
  refine pw_ast1 (tk tkL_law0 3 rfl) rfl (show 1 < 7 by decide) ?_
  refine pF_new (k := 171) (z' := 162) dF8 clX8 (tk tkL_law0 4 rfl) (by omega) (by decide +kernel) rfl ckL_106 itX8 iiX8 dF8_ok (by decide) (by decide) ?_
  refine pw_dup (tk tkL_law0 5 rfl) rfl ?_
  refine pw_cI0 (ct_X8_init (f7 (fun _ => none))) rfl okX8_init rfl rfl (tk tkL_law0 6 rfl) mkL_108 imX8_init rfl rfl (by decide) (by decide) (Nat.le_of_ble_eq_true rfl) ?_
  refine pw_ast2 (tk tkL_law0 7 rfl) rfl (show 2 < 7 by decide) ?_
  refine pw_iconst (v := 1) (tk tkL_law0 8 rfl) (by decide) ?_
  refine pF_newarray (t0 := 3) (k := 178) (z' := 169) (N := 1) (v0 := .long 0) (tk tkL_law0 9 rfl) rfl rfl ra_long (by omega) (by decide +kernel) rfl ac_long (by decide) (by decide) (by decide) (by decide) (fun _ => rfl) (by decide) ?_
  refine pw_ast3 (tk tkL_law0 10 rfl) rfl (show 3 < 7 by decide) ?_
  refine pw_iconst (v := 0) (tk tkL_law0 11 rfl) (by decide) ?_
  refine pw_ist4 (tk tkL_law0 12 rfl) rfl (show 4 < 7 by decide) ?_
  refine pw_weak (h' := hp x0) (Or.inl rfl) (fun k c' hk => x0_weak2 hk) ?_
  exact pw_less (by decide) (law_loop hL 512 0 x0 none none 3072 REL_0 (by omega) (by omega) (by omega))
