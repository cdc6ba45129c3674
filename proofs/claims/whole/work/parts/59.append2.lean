set_option maxRecDepth 100000 in
set_option maxHeartbeats 4000000 in
theorem ct_X7_codeOf (h : Hp) (c : Int64) (k : Nat) (hk : k < 8) : CT MX7_codeOf 0 0 [.long c, .int (nI k)] h (Det (.inl (some (.int (nI (cb c.toBitVec.toNat k))))) h) := by
  refine ct_of (by decide +kernel) (by decide) rfl (k := 0) (ls := [some (.long c), none, some (.int (nI k))]) rfl (Nat.le_of_ble_eq_true rfl) ?_
  refine pw_lload_n (tk tkX7_codeOf 0 rfl) rfl ?_
  refine pw_iload_n (tk tkX7_codeOf 1 rfl) rfl ?_
  refine pw_bipush (v := 8) (tk tkX7_codeOf 2 rfl) (by decide) ?_
  refine pw_imul (tk tkX7_codeOf 3 rfl) ?_
  refine pw_lushr (tk tkX7_codeOf 4 rfl) rfl ?_
  refine pw_ldc2 (tk tkX7_codeOf 5 rfl) lkX7_267 ?_
  refine pw_land (tk tkX7_codeOf 6 rfl) ?_
  refine pw_l2i (tk tkX7_codeOf 7 rfl) (code_a c hk) ?_
  exact pw_ireturn (tk tkX7_codeOf 8 rfl) rfl (by decide) rfl ⟨rfl, rfl⟩
theorem div_s (v g : Nat) : v / 256 ^ (g + 1) = v / 256 ^ g / 256 := by rw [Nat.pow_succ, Nat.div_div_eq_div_mul]
theorem cb_z {v g : Nat} : nI (cb v g) = 0 ↔ v / 256 ^ g % 256 = 0 := by
  rw [show (0 : Int32) = nI 0 from rfl, nI_eq (by have := cb_lt v g; omega) (by decide)]; rfl
set_option maxRecDepth 100000 in
set_option maxHeartbeats 4000000 in
theorem ct_X7_charactersIn (h : Hp) (c : Int64) : CT MX7_charactersIn 1 0 [.long c] h (Det (.inl (some (.int (if mnF 8 c.toBitVec.toNat = 0 then -1 else if gdF 8 c.toBitVec.toNat = false then -1 else nI (mnF 8 c.toBitVec.toNat))))) h) := by
  refine ct_of (by decide +kernel) (by decide) rfl (k := 2) (ls := [some (.long c), none, none, none]) rfl (Nat.le_of_ble_eq_true rfl) ?_
  obtain ⟨v, ev⟩ : ∃ v, v = c.toBitVec.toNat := ⟨_, rfl⟩
  obtain ⟨M, eM⟩ : ∃ M, M = mnF 8 v := ⟨_, rfl⟩
  obtain ⟨G, eG⟩ : ∃ G, G = gdF 8 v := ⟨_, rfl⟩
  rw [← ev, ← eM, ← eG]
  have hM8 : M ≤ 8 := by rw [eM]; exact mnF_le 8 v
  have hv8 : v / 256 ^ 8 = 0 := Nat.div_eq_of_lt (by rw [ev]; exact Nat.lt_of_lt_of_le c.toBitVec.isLt (by decide))
  have L2 : ∀ (i : Nat), i ≤ 8 → (v / 256 ^ i = 0 → M = i ∧ G = true) → (¬ v / 256 ^ i = 0 → G = false) → ∀ (k g : Nat), g + k = 8 → i ≤ g → (v / 256 ^ g = 0 ↔ v / 256 ^ i = 0) → PW MX7_charactersIn 1 0 44 [some (.long c), none, some (.int (nI i)), some (.int (nI g))] [] h (Det (.inl (some (.int (if M = 0 then -1 else if G = false then -1 else nI M : Int32)))) h) := by
    intro i hi8 hz hnz k
    induction k with
    | zero =>
      intro g hg hig he
      obtain rfl : g = 8 := by omega
      obtain ⟨m1, m2⟩ := hz (he.mp hv8)
      refine pw_iload_n (tk tkX7_charactersIn 25 rfl) rfl ?_
      refine pw_bipush (v := 8) (tk tkX7_charactersIn 26 rfl) (by decide) ?_
      refine pw_icmp_ge (tgt := 66) (tk tkX7_charactersIn 27 rfl) (by decide) (fun c47 => ?_) (fun c47 => absurd (Int32.le_refl _) c47)
      refine pw_iload_n (tk tkX7_charactersIn 36 rfl) rfl ?_
      refine pw_if_ne (tgt := 74) (tk tkX7_charactersIn 37 rfl) (by decide) (fun c67 => ?_) (fun c67 => ?_)
      · refine pw_iload_n (tk tkX7_charactersIn 40 rfl) rfl ?_
        exact pw_ireturn (tk tkX7_charactersIn 41 rfl) rfl (by decide) rfl ⟨by rw [if_neg (fun q => c67 (by rw [show i = 0 from m1.symm.trans q]; rfl)), if_neg (ne_f m2), m1], rfl⟩
      · refine pw_iconst (v := (-1)) (tk tkX7_charactersIn 38 rfl) (by decide) ?_
        refine pw_goto (tgt := 75) (tk tkX7_charactersIn 39 rfl) (by decide) ?_
        exact pw_ireturn (tk tkX7_charactersIn 41 rfl) rfl (by decide) rfl ⟨by rw [if_pos (m1.trans ((nI_eq (b := 0) (by omega) (by decide)).mp c67))], rfl⟩
    | succ k ih =>
      intro g hg hig he
      refine pw_iload_n (tk tkX7_charactersIn 25 rfl) rfl ?_
      refine pw_bipush (v := 8) (tk tkX7_charactersIn 26 rfl) (by decide) ?_
      refine pw_icmp_ge (tgt := 66) (tk tkX7_charactersIn 27 rfl) (by decide) (fun c47 => absurd c47 (nI_ge (b := 8) (by omega) (by decide))) (fun c47 => ?_)
      refine pw_lload_n (tk tkX7_charactersIn 28 rfl) rfl ?_
      refine pw_iload_n (tk tkX7_charactersIn 29 rfl) rfl ?_
      refine pw_cS (ct_X7_codeOf h c g (by omega)) okX7_codeOf (tk tkX7_charactersIn 30 rfl) mkX7_233 stX7_codeOf rfl rfl (by decide) (by decide) (Nat.le_of_ble_eq_true rfl) ?_
      rw [← ev]
      refine pw_if_eq (tgt := 60) (tk tkX7_charactersIn 31 rfl) (by decide) (fun c55 => ?_) (fun c55 => ?_)
      · refine pw_inc3 (tk tkX7_charactersIn 34 rfl) rfl (by decide) (nI_1 g) ?_
        refine pw_goto (tgt := 44) (tk tkX7_charactersIn 35 rfl) (by decide) ?_
        refine ih (g + 1) (by omega) (by omega) ?_
        rw [div_s, ← he]
        have z := cb_z.mp c55
        omega
      · refine pw_iconst (v := (-1)) (tk tkX7_charactersIn 32 rfl) (by decide) ?_
        exact pw_ireturn (tk tkX7_charactersIn 33 rfl) rfl (by decide) rfl ⟨by rw [hnz (fun q => c55 (cb_z.mpr (by rw [he.mpr q])))]; by_cases m0 : M = 0 <;> simp [m0], rfl⟩
  have L1 : ∀ (f i : Nat) (b3 : Option Value), i + f = 8 → M = i + mnF f (v / 256 ^ i) → G = gdF f (v / 256 ^ i) → PW MX7_charactersIn 1 0 2 [some (.long c), none, some (.int (nI i)), b3] [] h (Det (.inl (some (.int (if M = 0 then -1 else if G = false then -1 else nI M : Int32)))) h) := by
    intro f
    induction f with
    | zero =>
      intro i b3 hi hm hg
      obtain rfl : i = 8 := by omega
      refine pw_iload_n (tk tkX7_charactersIn 2 rfl) rfl ?_
      refine pw_bipush (v := 8) (tk tkX7_charactersIn 3 rfl) (by decide) ?_
      refine pw_icmp_ge (tgt := 42) (tk tkX7_charactersIn 4 rfl) (by decide) (fun c5 => ?_) (fun c5 => absurd (Int32.le_refl _) c5)
      refine pw_iload_n (tk tkX7_charactersIn 23 rfl) rfl ?_
      refine pw_ist3 (tk tkX7_charactersIn 24 rfl) rfl (by decide) ?_
      exact L2 8 (by omega) (fun _ => ⟨hm, hg⟩) (fun q => absurd hv8 q) 0 8 (by omega) (Nat.le_refl _) Iff.rfl
    | succ f ih =>
      intro i b3 hi hm hg
      have ez : v / 256 ^ i = 0 → M = i ∧ G = true := fun q => by rw [hm, hg, q, mnF_0, gdF_0]; exact ⟨by omega, rfl⟩
      have en : ¬ v / 256 ^ i = 0 → G = (decide (33 ≤ v / 256 ^ i % 256 ∧ v / 256 ^ i % 256 ≤ 126) && gdF f (v / 256 ^ i / 256)) := fun q => by rw [hg]; exact if_neg q
      have bl := cb_lt v i
      have bad : ¬ (33 ≤ cb v i ∧ cb v i ≤ 126) → ¬ v / 256 ^ i = 0 → (if M = 0 then -1 else if G = false then -1 else nI M : Int32) = -1 := fun q z => by
        have w : G = false := by rw [en z, decide_eq_false (show ¬ (33 ≤ v / 256 ^ i % 256 ∧ v / 256 ^ i % 256 ≤ 126) from q)]; rfl
        rw [w]; by_cases m0 : M = 0 <;> simp [m0]
      refine pw_iload_n (tk tkX7_charactersIn 2 rfl) rfl ?_
      refine pw_bipush (v := 8) (tk tkX7_charactersIn 3 rfl) (by decide) ?_
      refine pw_icmp_ge (tgt := 42) (tk tkX7_charactersIn 4 rfl) (by decide) (fun c5 => absurd c5 (nI_ge (b := 8) (by omega) (by decide))) (fun c5 => ?_)
      refine pw_lload_n (tk tkX7_charactersIn 5 rfl) rfl ?_
      refine pw_iload_n (tk tkX7_charactersIn 6 rfl) rfl ?_
      refine pw_cS (ct_X7_codeOf h c i (by omega)) okX7_codeOf (tk tkX7_charactersIn 7 rfl) mkX7_233 stX7_codeOf rfl rfl (by decide) (by decide) (Nat.le_of_ble_eq_true rfl) ?_
      rw [← ev]
      refine pw_if_eq (tgt := 42) (tk tkX7_charactersIn 8 rfl) (by decide) (fun c13 => ?_) (fun c13 => ?_)
      · refine pw_iload_n (tk tkX7_charactersIn 23 rfl) rfl ?_
        refine pw_ist3 (tk tkX7_charactersIn 24 rfl) rfl (by decide) ?_
        have z := cb_z.mp c13
        exact L2 i (by omega) ez (fun q => by rw [en q, decide_eq_false (show ¬ (33 ≤ v / 256 ^ i % 256 ∧ v / 256 ^ i % 256 ≤ 126) by omega)]; rfl) (8 - i) i (by omega) (Nat.le_refl _) Iff.rfl
      · refine pw_lload_n (tk tkX7_charactersIn 9 rfl) rfl ?_
        refine pw_iload_n (tk tkX7_charactersIn 10 rfl) rfl ?_
        refine pw_cS (ct_X7_codeOf h c i (by omega)) okX7_codeOf (tk tkX7_charactersIn 11 rfl) mkX7_233 stX7_codeOf rfl rfl (by decide) (by decide) (Nat.le_of_ble_eq_true rfl) ?_
        rw [← ev]
        have nz : ¬ v / 256 ^ i = 0 := fun q => c13 (cb_z.mpr (by rw [q]))
        refine pw_ist3 (tk tkX7_charactersIn 12 rfl) rfl (by decide) ?_
        refine pw_iload_n (tk tkX7_charactersIn 13 rfl) rfl ?_
        refine pw_bipush (v := 33) (tk tkX7_charactersIn 14 rfl) (by decide) ?_
        refine pw_icmp_lt (tgt := 34) (tk tkX7_charactersIn 15 rfl) (by decide) (fun c25 => ?_) (fun c25 => ?_)
        · refine pw_iconst (v := (-1)) (tk tkX7_charactersIn 19 rfl) (by decide) ?_
          exact pw_ireturn (tk tkX7_charactersIn 20 rfl) rfl (by decide) rfl ⟨by rw [bad (fun q => nI_nlt (a := cb v i) (b := 33) q.1 (by omega) c25) nz], rfl⟩
        · refine pw_iload_n (tk tkX7_charactersIn 16 rfl) rfl ?_
          refine pw_bipush (v := 126) (tk tkX7_charactersIn 17 rfl) (by decide) ?_
          refine pw_icmp_le (tgt := 36) (tk tkX7_charactersIn 18 rfl) (by decide) (fun c31 => ?_) (fun c31 => ?_)
          · refine pw_inc2 (tk tkX7_charactersIn 21 rfl) rfl (by decide) (nI_1 i) ?_
            refine pw_goto (tgt := 2) (tk tkX7_charactersIn 22 rfl) (by decide) ?_
            have ok : 33 ≤ cb v i ∧ cb v i ≤ 126 := ⟨by
              rcases Nat.lt_or_ge (cb v i) 33 with q | q
              · exact absurd (nI_lt (b := 33) q (by decide)) c25
              · exact q, (nI_leI (b := 126) (by omega) (by decide)).mp c31⟩
            refine ih (i + 1) _ (by omega) ?_ ?_
            · rw [hm, div_s]; show i + (if _ then _ else _) = _; rw [if_neg nz]; omega
            · rw [en nz, div_s, decide_eq_true (show 33 ≤ v / 256 ^ i % 256 ∧ v / 256 ^ i % 256 ≤ 126 from ok)]; rfl
          · refine pw_iconst (v := (-1)) (tk tkX7_charactersIn 19 rfl) (by decide) ?_
            exact pw_ireturn (tk tkX7_charactersIn 20 rfl) rfl (by decide) rfl ⟨by rw [bad (fun q => c31 (nI_le (b := 126) q.2 (by decide))) nz], rfl⟩
  refine pw_iconst (v := 0) (tk tkX7_charactersIn 0 rfl) (by decide) ?_
  refine pw_ist2 (tk tkX7_charactersIn 1 rfl) rfl (by decide) ?_
  exact L1 8 0 none (by omega) (by rw [eM, Nat.pow_zero, Nat.div_one]; omega) (by rw [eG, Nat.pow_zero, Nat.div_one])
set_option maxRecDepth 100000 in
set_option maxHeartbeats 4000000 in
theorem ct_X6_append (x : XW) (n : Nat) (hn : n < 80) (h1 : cTx x.1 0 = nI n) (q : Nat) (hq : q < 65536) : CT MX6_append 0 0 [.ref 164, .int (nI q)] (hp x) (Det (.inl none) (hp (uC5 (uC4 x (upd (cSg x.1) n (nI q))) (upd (cTx x.1) 0 (nI (n + 1)))))) := by
  refine ct_of (by decide +kernel) (by decide) rfl (k := 0) (ls := [some (.ref 164), some (.int (nI q))]) rfl (Nat.le_of_ble_eq_true rfl) ?_
  refine pw_aload_n (tk tkX6_append 0 rfl) rfl ?_
  refine g6_length (tk tkX6_append 1 rfl) fkX6_19 ?_
  refine pw_bipush (v := 80) (tk tkX6_append 2 rfl) (by decide) ?_
  rw [h1]
  refine pw_icmp_ge (tgt := 29) (tk tkX6_append 3 rfl) (by decide) (fun c6 => absurd c6 (nI_ge (b := 80) (by omega) (by decide))) (fun c6 => ?_)
  refine pw_aload_n (tk tkX6_append 4 rfl) rfl ?_
  refine g6_signs (tk tkX6_append 5 rfl) fkX6_9 ?_
  refine pw_aload_n (tk tkX6_append 6 rfl) rfl ?_
  refine g6_length (tk tkX6_append 7 rfl) fkX6_19 ?_
  refine pw_iload_n (tk tkX6_append 8 rfl) rfl ?_
  refine as_signs_e (e := n) (tk tkX6_append 9 rfl) h1 (by first | decide | omega) (pk_charN hq).1 ?_
  refine pw_aload_n (tk tkX6_append 10 rfl) rfl ?_
  refine pw_dup (tk tkX6_append 11 rfl) rfl ?_
  refine g6_length (tk tkX6_append 12 rfl) fkX6_19 ?_
  refine pw_iconst (v := 1) (tk tkX6_append 13 rfl) (by decide) ?_
  refine pw_iadd (tk tkX6_append 14 rfl) ?_
  rw [show ∀ f, cTx (uC4 x f).1 0 = nI n from fun _ => h1, nI_1]
  refine p6_length (tk tkX6_append 15 rfl) fkX6_19 ?_
  exact pw_return (tk tkX6_append 16 rfl) rfl (by decide) ⟨rfl, rfl⟩
set_option maxRecDepth 100000 in
set_option maxHeartbeats 4000000 in
theorem ct_X7_appendText (x : XW) (a : AM) (hc : RC a x.1) (hv : VS (uN (aS a)) (aS a)) (c : Int64) : CT MX7_appendText 30 6 [.ref 160, .long c] (hp x) (CQ [(1, "java/lang/IllegalArgumentException"), (2, "java/lang/IllegalStateException")] x (sappendText a c)) := by
  refine ct_of (by decide +kernel) (by decide) rfl (k := 2) (ls := [some (.ref 160), some (.long c), none, none, none]) rfl (Nat.le_of_ble_eq_true rfl) ?_
  obtain ⟨u, eu⟩ : ∃ u, u = uN (aS a) := ⟨_, rfl⟩
  have hvu := hv
  rw [← eu] at hvu
  have hu8 := hvu.1
  have hu : sSc (cSt x.1 0) 0 = nI u := hc.1.2.2.1.trans hvu.2.1
  have e25 : aS a 25 = nI u := hvu.2.1
  obtain ⟨v, ev⟩ : ∃ v, v = c.toBitVec.toNat := ⟨_, rfl⟩
  obtain ⟨M, eM⟩ : ∃ M, M = mnF 8 v := ⟨_, rfl⟩
  obtain ⟨G, eG⟩ : ∃ G, G = gdF 8 v := ⟨_, rfl⟩
  obtain ⟨n, en⟩ : ∃ n, n = aN a := ⟨_, rfl⟩
  have h1 : cTx x.1 0 = nI n := by rw [en]; exact hc.2.2.2.1
  have hn80 : n ≤ 80 := by rw [en]; exact hc.2.2.2.2.1
  have hM8 : M ≤ 8 := by rw [eM]; exact mnF_le 8 v
  have eS : sappendText a c = if M = 0 then (1, 0, a) else if G = false then (1, 0, a) else if 80 < n + M then (2, 0, a) else (0, nI (n + M), (aS a, a.2.1, a.2.2.1, (n + M, apT (aT a) n M v M))) := by
    rw [eM, eG, ev, en]; rfl
  have cin := ct_X7_charactersIn (hp x) c
  rw [← ev, ← eM, ← eG] at cin
  rw [eS]
  have E : ¬ M = 0 → ¬ G = false → ¬ 80 < n + M → ∀ (y : XW), RC (aS a, a.2.1, a.2.2.1, (n + M, apT (aT a) n M v M)) y.1 → y.2 = x.2 → PW MX7_appendText 30 6 49 [some (.ref 160), some (.long c), none, some (.int (nI M)), some (.int (-1))] [] (hp y) (CQ [(1, "java/lang/IllegalArgumentException"), (2, "java/lang/IllegalStateException")] x (if M = 0 then (1, 0, a) else if G = false then (1, 0, a) else if 80 < n + M then (2, 0, a) else (0, nI (n + M), (aS a, a.2.1, a.2.2.1, (n + M, apT (aT a) n M v M))) : RS3)) := by
    intro m0 g0 l0 y yc y2
    rw [if_neg m0, if_neg g0, if_neg l0]
    refine pw_iload (tk tkX7_appendText 27 rfl) rfl ?_
    refine pw_if_lt (tgt := 74) (tk tkX7_appendText 28 rfl) (by decide) (fun c51 => ?_) (fun c51 => absurd (show (-1 : Int32) < 0 by decide) c51)
    refine pw_aload_n (tk tkX7_appendText 38 rfl) rfl ?_
    refine g7_text (tk tkX7_appendText 39 rfl) fkX7_33 ?_
    refine g6_length (tk tkX7_appendText 40 rfl) fkX7_228 ?_
    rw [yc.2.2.2.1]
    exact pw_ireturn (tk tkX7_appendText 41 rfl) rfl (by decide) rfl (CQ.ret yc y2 rfl)
  have st : ¬ 80 < n + M → ∀ (t : Nat) (y : XW), t < M → RC (aS a, a.2.1, a.2.2.1, (n + t, apT (aT a) n M v t)) y.1 → RC (aS a, a.2.1, a.2.2.1, (n + (t + 1), apT (aT a) n M v (t + 1))) (uC5 (uC4 y (upd (cSg y.1) (n + t) (nI (cb v (M - 1 - t))))) (upd (cTx y.1) 0 (nI (n + t + 1)))).1 := by
    intro l0 t y ht hy
    obtain ⟨c1, c2, c3, c4, c5, c6⟩ := hy
    refine ⟨c1, c2, c3, rfl, (show n + (t + 1) ≤ 80 by omega), fun i hi => ?_⟩
    have hi2 : i < n + (t + 1) := hi
    show upd (cSg y.1) (n + t) (nI (cb v (M - 1 - t))) i = apT (aT a) n M v (t + 1) i
    rw [← apT_s]
    unfold upd
    by_cases q : i = n + t
    · rw [if_pos q, if_pos q]
    · rw [if_neg q, if_neg q]; exact c6 i (show i < n + t by omega)
  have L2 : ¬ M = 0 → ¬ G = false → ¬ 80 < n + M → ∀ (k t : Nat) (y : XW), t + (k + 1) = M → RC (aS a, a.2.1, a.2.2.1, (n + t, apT (aT a) n M v t)) y.1 → y.2 = x.2 → PW MX7_appendText 30 6 49 [some (.ref 160), some (.long c), none, some (.int (nI M)), some (.int (nI k))] [] (hp y) (CQ [(1, "java/lang/IllegalArgumentException"), (2, "java/lang/IllegalStateException")] x (if M = 0 then (1, 0, a) else if G = false then (1, 0, a) else if 80 < n + M then (2, 0, a) else (0, nI (n + M), (aS a, a.2.1, a.2.2.1, (n + M, apT (aT a) n M v M))) : RS3)) := by
    intro m0 g0 l0 k
    induction k with
    | zero =>
      intro t y ht yc y2
      refine pw_iload (tk tkX7_appendText 27 rfl) rfl ?_
      refine pw_if_lt (tgt := 74) (tk tkX7_appendText 28 rfl) (by decide) (fun c51 => absurd c51 (nI_pos (by omega))) (fun c51 => ?_)
      refine pw_aload_n (tk tkX7_appendText 29 rfl) rfl ?_
      refine g7_text (tk tkX7_appendText 30 rfl) fkX7_33 ?_
      refine pw_lload_n (tk tkX7_appendText 31 rfl) rfl ?_
      refine pw_iload (tk tkX7_appendText 32 rfl) rfl ?_
      refine pw_cS (ct_X7_codeOf _ c 0 (by omega)) okX7_codeOf (tk tkX7_appendText 33 rfl) mkX7_233 stX7_codeOf rfl rfl (by decide) (by decide) (Nat.le_of_ble_eq_true rfl) ?_
      rw [← ev]
      refine pw_i2c (tk tkX7_appendText 34 rfl) ((pk_char _).trans (by rw [pk_tn (by have := cb_lt v 0; omega), Nat.mod_eq_of_lt (by have := cb_lt v 0; omega)])) ?_
      refine pw_cV0 (ct_X6_append y (n + t) (by omega) yc.2.2.2.1 (cb v 0) (by have := cb_lt v 0; omega)) okX6_append (tk tkX7_appendText 35 rfl) mkX7_237 imX6_append seX6_append (hp_ot _ 4) rfl rfl rfl (by decide) (by decide) (Nat.le_of_ble_eq_true rfl) ?_
      refine pw_inc4 (tk tkX7_appendText 36 rfl) rfl (by decide) (show nI 0 + (-1) = -1 by decide) ?_
      refine pw_goto (tgt := 49) (tk tkX7_appendText 37 rfl) (by decide) ?_
      have q9 := st l0 t y (by omega) yc
      rw [show M - 1 - t = 0 by omega, show t + 1 = M by omega] at q9
      exact E m0 g0 l0 _ q9 y2
    | succ k ih =>
      intro t y ht yc y2
      refine pw_iload (tk tkX7_appendText 27 rfl) rfl ?_
      refine pw_if_lt (tgt := 74) (tk tkX7_appendText 28 rfl) (by decide) (fun c51 => absurd c51 (nI_pos (by omega))) (fun c51 => ?_)
      refine pw_aload_n (tk tkX7_appendText 29 rfl) rfl ?_
      refine g7_text (tk tkX7_appendText 30 rfl) fkX7_33 ?_
      refine pw_lload_n (tk tkX7_appendText 31 rfl) rfl ?_
      refine pw_iload (tk tkX7_appendText 32 rfl) rfl ?_
      refine pw_cS (ct_X7_codeOf _ c (k + 1) (by omega)) okX7_codeOf (tk tkX7_appendText 33 rfl) mkX7_233 stX7_codeOf rfl rfl (by decide) (by decide) (Nat.le_of_ble_eq_true rfl) ?_
      rw [← ev]
      refine pw_i2c (tk tkX7_appendText 34 rfl) ((pk_char _).trans (by rw [pk_tn (by have := cb_lt v (k + 1); omega), Nat.mod_eq_of_lt (by have := cb_lt v (k + 1); omega)])) ?_
      refine pw_cV0 (ct_X6_append y (n + t) (by omega) yc.2.2.2.1 (cb v (k + 1)) (by have := cb_lt v (k + 1); omega)) okX6_append (tk tkX7_appendText 35 rfl) mkX7_237 imX6_append seX6_append (hp_ot _ 4) rfl rfl rfl (by decide) (by decide) (Nat.le_of_ble_eq_true rfl) ?_
      refine pw_inc4 (tk tkX7_appendText 36 rfl) rfl (by decide) (pk_m1 _) ?_
      refine pw_goto (tgt := 49) (tk tkX7_appendText 37 rfl) (by decide) ?_
      have q9 := st l0 t y (by omega) yc
      rw [show M - 1 - t = k + 1 by omega] at q9
      exact ih (t + 1) _ (by omega) q9 y2
  refine pw_lload_n (tk tkX7_appendText 0 rfl) rfl ?_
  refine pw_cS cin okX7_charactersIn (tk tkX7_appendText 1 rfl) mkX7_222 stX7_charactersIn rfl rfl (by decide) (by decide) (Nat.le_of_ble_eq_true rfl) ?_
  refine pw_ist3 (tk tkX7_appendText 2 rfl) rfl (by decide) ?_
  refine pw_iload_n (tk tkX7_appendText 3 rfl) rfl ?_
  refine pw_iconst (v := (-1)) (tk tkX7_appendText 4 rfl) (by decide) ?_
  refine pw_icmp_ne (tgt := 20) (tk tkX7_appendText 5 rfl) (by decide) (fun c7 => ?_) (fun c7 => ?_)
  · have m0 : ¬ M = 0 := fun q => c7 (by rw [if_pos q])
    have g0 : ¬ G = false := fun q => c7 (by rw [if_neg m0, if_pos q])
    rw [if_neg m0, if_neg g0]
    refine pw_aload_n (tk tkX7_appendText 11 rfl) rfl ?_
    refine g7_text (tk tkX7_appendText 12 rfl) fkX7_33 ?_
    refine g6_length (tk tkX7_appendText 13 rfl) fkX7_228 ?_
    rw [h1]
    refine pw_iload_n (tk tkX7_appendText 14 rfl) rfl ?_
    refine pw_iadd (tk tkX7_appendText 15 rfl) ?_
    refine pw_bipush (v := 80) (tk tkX7_appendText 16 rfl) (by decide) ?_
    rw [nI_add]
    refine pw_icmp_le (tgt := 44) (tk tkX7_appendText 17 rfl) (by decide) (fun c31 => ?_) (fun c31 => ?_)
    · refine pw_iload_n (tk tkX7_appendText 23 rfl) rfl ?_
      refine pw_iconst (v := 1) (tk tkX7_appendText 24 rfl) (by decide) ?_
      refine pw_isub (tk tkX7_appendText 25 rfl) ?_
      rw [show nI M - 1 = nI (M - 1) from pk_sub (b := 1) (by omega)]
      refine pw_ist4 (tk tkX7_appendText 26 rfl) rfl (by decide) ?_
      have l0 : n + M ≤ 80 := (nI_leI (b := 80) (by omega) (by decide)).mp c31
      exact L2 m0 g0 (by omega) (M - 1) 0 x (by omega) (by rw [apT_0, Nat.add_zero, en]; exact hc) rfl
    · exact pw_throw twISE rfl rfl rfl ckX7_70 (tx := "the text would be longer than 80 characters") (List.mem_of_getElem? (i := 12) rfl) (tk tkX7_appendText 18 rfl) (tk tkX7_appendText 19 rfl) (tk tkX7_appendText 20 rfl) (tk tkX7_appendText 21 rfl) (tk tkX7_appendText 22 rfl) (by decide) (by decide) (CQ.thr hc rfl (List.mem_cons_of_mem _ List.mem_cons_self) (show _ = ((2 : Int32), (0 : Int32), a) from by rw [if_neg m0, if_neg g0, if_pos (by have : ¬ n + M ≤ 80 := fun q => c31 (nI_le (b := 80) q (by decide)); omega)]))
  · exact pw_throw twIAE rfl rfl rfl ckX7_59 (tx := "no character, a code out of range, or bits above the end") (List.mem_of_getElem? (i := 11) rfl) (tk tkX7_appendText 6 rfl) (tk tkX7_appendText 7 rfl) (tk tkX7_appendText 8 rfl) (tk tkX7_appendText 9 rfl) (tk tkX7_appendText 10 rfl) (by decide) (by decide) (CQ.thr hc rfl List.mem_cons_self (show _ = ((1 : Int32), (0 : Int32), a) from by by_cases m0 : M = 0; rw [if_pos m0]; by_cases g0 : G = false; rw [if_neg m0, if_pos g0]; rw [if_neg m0, if_neg g0] at c7; exact absurd (show nI M < 0 by rw [c7]; decide) (nI_pos (by omega))))
