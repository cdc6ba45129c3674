/-! ===== THE LAW ===== -/
abbrev ML9 (nm : String) (hh : List (Nat × Nat × Nat × Nat)) : Mth := (⟨RL, nm, "([I)Z"⟩, cL_law, 10, some .boolean, hh, 2, 0, fun _ => 0)
abbrev QL : Out → Hp → Prop := fun o _ => o = .inl (some (.int 1))
/-- an act on the other object -/
def LQP (a b : AM) (g : G3) : Out → Hp → Prop := fun o h2 => ∃ y, h2 = hp y ∧ RC a y.1 ∧ RC (lft b g) y.2.1 ∧ o = .inl (some (.int g.1)) ∧ (g.1 = 0 → y.2.2 0 = g.2.1)
theorem ct_L_actP (x : XW) {a b : AM} {w : Int32} (hW : W2 a b w x) (hg : HGA b) (v : Int32) : CT ML_act 32 6 [.ref 416, .int v, .ref 171] (hp x) (LQP a b (actG b v)) := by
  have h := CT.sw (f := (hp (sx x)).2) (ct_L_act (sx x) hW.sx hg v)
  rw [show ([.ref 160, .int v, .ref 171] : List Value).map rn_v = [.ref 416, .int v, .ref 171] from rfl, show ((none, swF (hp (sx x)).2) : Hp) = hp x from (hp_sx (sx x)).symm] at h
  refine h.imp fun o h2 q => ?_
  obtain ⟨o0, h0, rfl, rfl, y, rfl, g1, g2, rfl, g3⟩ := q
  exact ⟨sx y, (hp_sx y).symm, g2, g1, rfl, g3⟩
/-- the invariant of the law's loop, before the turn e -/
def LV (e : Nat) (a b : AM) : Prop := aS b = aS a ∧ HGA a ∧ HGA b ∧ IV (e * BD) (aS a)
theorem BD_n : BD = 299592 := by decide
theorem eBD {e : Nat} (h : e ≤ 64) : e * BD < 2 ^ 30 := by
  rw [BD_n]
  have : e * 299592 ≤ 64 * 299592 := Nat.mul_le_mul_right _ h
  omega
theorem sBD (e : Nat) : (e + 1) * BD = e * BD + BD := Nat.succ_mul _ _
section PWL
variable {M : Mth} {d n pc : Nat} {ls : List (Option Value)} {st : List Value} {h : Hp} {Q : Out → Hp → Prop}
theorem pw_less {n' : Nat} (hn : n' ≤ n) (k : PW M d n' pc ls st h Q) : PW M d n pc ls st h Q :=
  fun p l e R s m args below meth c G N H locs cells slots lsA C hc hs hR hS hl => k p l e R s m args below meth c G N H locs cells slots lsA C (by omega) (by omega) hR hS hl
end PWL
theorem lft_ok {a : AM} {g : G3} (h : g.1 = 0) : lft a g = (g.2.2, recH a (aS a), a.2.2) := if_pos h
theorem lft_no {a : AM} {g : G3} (h : ¬ g.1 = 0) : lft a g = a := if_neg h
/-- the new numbers of an act are as they should be -/
theorem lft_IV {e : Nat} {a : AM} (iv : IV (e * BD) (aS a)) (v : Int32) : IV ((e + 1) * BD) (aS (lft a (actG a v))) := by
  rw [sBD]
  unfold lft
  split
  · exact actG_IV iv v
  · exact iv.up (Nat.le_add_right _ _)
theorem lft_HG {e : Nat} {a : AM} (hg : HGA a) (iv : IV (e * BD) (aS a)) (v : Int32) : HGA (lft a (actG a v)) := ⟨(lft_IV iv v).vs, lft_VA hg _⟩
theorem lft_S {a b : AM} (h : aS b = aS a) (g : G3) : aS (lft b g) = aS (lft a g) := by
  unfold lft
  split
  · rfl
  · exact h
set_option maxRecDepth 100000 in
set_option maxHeartbeats 4000000 in
theorem law_loop {nm : String} {hh : List (Nat × Nat × Nat × Nat)} : ∀ (k e : Nat) (a b : AM) (w : Int32) (x : XW) (z5 z6 z7 z8 z9 : Option Value) (n : Nat), e + k = 64 → W2 a b w x → LV e a b → 60 * k ≤ n → PW (ML9 nm hh) 40 n 23 [some (.ref 1020), some (.ref 160), some (.ref 416), some (.ref 171), some (.int (nI e)), z5, z6, z7, z8, z9] [] (hp x) QL := by
  intro k
  induction k with
  | zero =>
    intro e a b w x z5 z6 z7 z8 z9 n he hW lv hn
    obtain rfl : e = 64 := by omega
    obtain ⟨hab, hga, hgb, iv⟩ := lv
    refine pw_iload (tk tkL_law 13 rfl) rfl ?_
    refine pw_bipush (v := 64) (tk tkL_law 14 rfl) (by decide) ?_
    refine pw_icmp_ge (tgt := 252) (tk tkL_law 15 rfl) (by decide) (fun c27 => ?_) (fun c27 => absurd (Int32.le_refl _) c27)
    refine pw_aload_n (tk tkL_law 133 rfl) rfl ?_
    refine pw_callS (ct_L_isTableSo x hW (eBD (Nat.le_refl _)) iv) okL_isTableSo (tk tkL_law 134 rfl) mkL_141 stL_isTableSo rfl rfl (by decide) (by omega) (Nat.le_of_ble_eq_true rfl) (fun r9 h9 q9 => ?_) (fun E h9 q9 => ?_)
    rotate_left
    · obtain ⟨y, _, _, e9⟩ := q9
      cases e9
    obtain ⟨x, rfl, hW, e9⟩ := q9
    cases e9
    show PW (ML9 nm hh) 40 _ _ _ [.int 1] (hp x) QL
    exact pw_lawret rfl rfl rfl (tk tkL_law 135 rfl)
  | succ k ih =>
    intro e a b w x z5 z6 z7 z8 z9 n he hW lv hn
    obtain ⟨hab, hga, hgb, iv⟩ := lv
    have he64 : e < 64 := by omega
    have hB : (e + 1) * BD < 2 ^ 30 := eBD he64
    have P236 : ∀ (v : Int32) (a1 b1 : AM) (w : Int32) (x : XW) (z6 z7 z8 z9 : Option Value) (n : Nat), 60 * k ≤ n → W2 a1 b1 w x → LV (e + 1) a1 b1 → PW (ML9 nm hh) 40 n 236 [some (.ref 1020), some (.ref 160), some (.ref 416), some (.ref 171), some (.int (nI e)), some (.int v), z6, z7, z8, z9] [] (hp x) QL := by
      intro v a1 b1 w x z6 z7 z8 z9 n hn hW lv
      obtain ⟨hab, hga, hgb, iv⟩ := lv
      refine pw_aload_n (tk tkL_law 125 rfl) rfl ?_
      refine pw_aload_n (tk tkL_law 126 rfl) rfl ?_
      refine pw_callS (ct_L_areAlike x hW hga.1 hab) okL_areAlike (tk tkL_law 127 rfl) mkL_137 stL_areAlike rfl rfl (by decide) (by omega) (Nat.le_of_ble_eq_true rfl) (fun r9 h9 q9 => ?_) (fun E h9 q9 => ?_)
      rotate_left
      · obtain ⟨y, _, _, e9⟩ := q9
        cases e9
      obtain ⟨x, rfl, hW, e9⟩ := q9
      cases e9
      show PW (ML9 nm hh) 40 _ _ _ [.int 1] (hp x) QL
      refine pw_if_ne (tgt := 246) (tk tkL_law 128 rfl) (by decide) (fun c241 => ?_) (fun c241 => absurd c241 (by decide))
      refine pw_inc4 (tk tkL_law 131 rfl) rfl (show 4 < 10 by decide) (nI_1 e) ?_
      refine pw_goto (tgt := 23) (tk tkL_law 132 rfl) (by decide) ?_
      exact ih (e + 1) a1 b1 w x _ z6 z7 z8 z9 _ (by omega) hW ⟨hab, hga, hgb, iv⟩ (by omega)
    have P149 : ∀ (v : Int32) (a1 : AM) (w : Int32) (x : XW) (t8 : Int32) (z6 z9 : Option Value) (n : Nat), 36 + 60 * k ≤ n → W2 a1 b w x → HGA a1 → aS a1 = aS (lft b (actG b v)) → ((actG b v).1 = 0 → t8 = (actG b v).2.1) → PW (ML9 nm hh) 40 n 149 [some (.ref 1020), some (.ref 160), some (.ref 416), some (.ref 171), some (.int (nI e)), some (.int v), z6, some (.int (actG b v).1), some (.int t8), z9] [] (hp x) QL := by
      intro v a1 w x t8 z6 z9 n hn hW hga1 hs h8
      have ivb : IV (e * BD) (aS b) := by rw [hab]; exact iv
      have hgb1 : HGA (lft b (actG b v)) := lft_HG hgb ivb v
      have iv1 : IV ((e + 1) * BD) (aS a1) := by rw [hs]; exact lft_IV ivb v
      have lv1 : LV (e + 1) a1 (lft b (actG b v)) := ⟨hs.symm, hga1, hgb1, iv1⟩
      refine pw_aload_n (tk tkL_law 79 rfl) rfl ?_
      refine pw_iload (tk tkL_law 80 rfl) rfl ?_
      refine pw_aload_n (tk tkL_law 81 rfl) rfl ?_
      refine pw_callS (ct_L_actP x hW hgb v) okL_act (tk tkL_law 82 rfl) mkL_133 stL_act rfl rfl (by decide) (by omega) (Nat.le_of_ble_eq_true rfl) (fun r9 h9 q9 => ?_) (fun E h9 q9 => ?_)
      rotate_left
      · obtain ⟨y, _, _, _, e9, _⟩ := q9
        cases e9
      obtain ⟨x, rfl, g1, g2, e9, g3⟩ := q9
      cases e9
      have hW : W2 a1 (lft b (actG b v)) (x.2.2 0) x := ⟨g1, g2, rfl⟩
      show PW (ML9 nm hh) 40 _ _ _ [.int (actG b v).1] (hp x) QL
      refine pw_iload (tk tkL_law 83 rfl) rfl ?_
      refine pw_icmp_ne (tgt := 189) (tk tkL_law 84 rfl) (by decide) (fun c158 => absurd rfl c158) (fun c158 => ?_)
      refine pw_iload (tk tkL_law 85 rfl) rfl ?_
      refine pw_if_ne (tgt := 174) (tk tkL_law 86 rfl) (by decide) (fun c163 => ?_) (fun c163 => ?_)
      · refine pw_aload_n (tk tkL_law 92 rfl) rfl ?_
        refine pw_aload_n (tk tkL_law 93 rfl) rfl ?_
        refine pw_callS (ct_L_areAlike x hW hga1.1 hs.symm) okL_areAlike (tk tkL_law 94 rfl) mkL_137 stL_areAlike rfl rfl (by decide) (by omega) (Nat.le_of_ble_eq_true rfl) (fun r9 h9 q9 => ?_) (fun E h9 q9 => ?_)
        rotate_left
        · obtain ⟨y, _, _, e9⟩ := q9
          cases e9
        obtain ⟨x, rfl, hW, e9⟩ := q9
        cases e9
        show PW (ML9 nm hh) 40 _ _ _ [.int 1] (hp x) QL
        refine pw_if_eq (tgt := 189) (tk tkL_law 95 rfl) (by decide) (fun c179 => absurd c179 (by decide)) (fun c179 => ?_)
        refine pw_aload_n (tk tkL_law 96 rfl) rfl ?_
        refine pw_callS (ct_L_isTableSo x hW hB iv1) okL_isTableSo (tk tkL_law 97 rfl) mkL_141 stL_isTableSo rfl rfl (by decide) (by omega) (Nat.le_of_ble_eq_true rfl) (fun r9 h9 q9 => ?_) (fun E h9 q9 => ?_)
        rotate_left
        · obtain ⟨y, _, _, e9⟩ := q9
          cases e9
        obtain ⟨x, rfl, hW, e9⟩ := q9
        cases e9
        show PW (ML9 nm hh) 40 _ _ _ [.int 1] (hp x) QL
        refine pw_if_ne (tgt := 191) (tk tkL_law 98 rfl) (by decide) (fun c186 => ?_) (fun c186 => absurd c186 (by decide))
        refine pw_iload (tk tkL_law 101 rfl) rfl ?_
        refine pw_iconst (v := 2) (tk tkL_law 102 rfl) (by decide) ?_
        refine pw_irem (tk tkL_law 103 rfl) (by decide) ?_
        refine pw_iconst (v := 1) (tk tkL_law 104 rfl) (by decide) ?_
        refine pw_icmp_ne (tgt := 236) (tk tkL_law 105 rfl) (by decide) (fun c196 => ?_) (fun c196 => ?_)
        · exact P236 v a1 _ _ x _ _ _ _ _ (by omega) hW lv1
        · refine pw_aload_n (tk tkL_law 106 rfl) rfl ?_
          refine pw_iload (tk tkL_law 107 rfl) rfl ?_
          refine pw_bipush (v := 6) (tk tkL_law 108 rfl) (by decide) ?_
          refine pw_ishr (tk tkL_law 109 rfl) ?_
          refine pw_iconst (v := 4) (tk tkL_law 110 rfl) (by decide) ?_
          refine pw_cS (ct_L_low _ _ 4 (by decide) (by decide)) okL_low (tk tkL_law 111 rfl) mkL_37 stL_low rfl rfl (by decide) (by omega) (Nat.le_of_ble_eq_true rfl) ?_
          refine pw_iload (tk tkL_law 112 rfl) rfl ?_
          refine pw_bipush (v := 8) (tk tkL_law 113 rfl) (by decide) ?_
          refine pw_ishr (tk tkL_law 114 rfl) ?_
          refine pw_iconst (v := 3) (tk tkL_law 115 rfl) (by decide) ?_
          refine pw_cS (ct_L_low _ _ 3 (by decide) (by decide)) okL_low (tk tkL_law 116 rfl) mkL_37 stL_low rfl rfl (by decide) (by omega) (Nat.le_of_ble_eq_true rfl) ?_
          refine pw_iload (tk tkL_law 117 rfl) rfl ?_
          refine pw_bipush (v := 10) (tk tkL_law 118 rfl) (by decide) ?_
          refine pw_ishr (tk tkL_law 119 rfl) ?_
          refine pw_sipush (v := 1000) (tk tkL_law 120 rfl) (by decide) ?_
          refine pw_cS (ct_L_low _ _ 1000 (by decide) (by decide)) okL_low (tk tkL_law 121 rfl) mkL_37 stL_low rfl rfl (by decide) (by omega) (Nat.le_of_ble_eq_true rfl) ?_
          refine pw_aload_n (tk tkL_law 122 rfl) rfl ?_
          refine pw_callS (ct_L_isUpdateSo x hW hga1 iv1 (lwF_lt _ (by decide)) (lwF_lt _ (by decide)) (lwF_lt _ (by decide))) okL_isUpdateSo (tk tkL_law 123 rfl) mkL_145 stL_isUpdateSo rfl rfl (by decide) (by omega) (Nat.le_of_ble_eq_true rfl) (fun r9 h9 q9 => ?_) (fun E h9 q9 => ?_)
          rotate_left
          · obtain ⟨y, a2, w2, _, _, _, _, e9⟩ := q9
            cases e9
          obtain ⟨x, a2, w2, rfl, hW, hs2, hg2, e9⟩ := q9
          cases e9
          show PW (ML9 nm hh) 40 _ _ _ [.int 1] (hp x) QL
          refine pw_if_eq (tgt := 244) (tk tkL_law 124 rfl) (by decide) (fun c233 => absurd c233 (by decide)) (fun c233 => ?_)
          exact P236 v a2 _ _ x _ _ _ _ _ (by omega) hW ⟨hs.symm.trans hs2.symm, hg2, hgb1, by rw [hs2]; exact iv1⟩
      · refine pw_aload_n (tk tkL_law 87 rfl) rfl ?_
        refine pw_iconst (v := 0) (tk tkL_law 88 rfl) (by decide) ?_
        refine al_out_e (e := 0) (tk tkL_law 89 rfl) rfl (by first | decide | omega) ?_
        refine pw_iload (tk tkL_law 90 rfl) rfl ?_
        refine pw_icmp_ne (tgt := 189) (tk tkL_law 91 rfl) (by decide) (fun c171 => absurd ((g3 c163).trans (h8 c163).symm) c171) (fun c171 => ?_)
        refine pw_aload_n (tk tkL_law 92 rfl) rfl ?_
        refine pw_aload_n (tk tkL_law 93 rfl) rfl ?_
        refine pw_callS (ct_L_areAlike x hW hga1.1 hs.symm) okL_areAlike (tk tkL_law 94 rfl) mkL_137 stL_areAlike rfl rfl (by decide) (by omega) (Nat.le_of_ble_eq_true rfl) (fun r9 h9 q9 => ?_) (fun E h9 q9 => ?_)
        rotate_left
        · obtain ⟨y, _, _, e9⟩ := q9
          cases e9
        obtain ⟨x, rfl, hW, e9⟩ := q9
        cases e9
        show PW (ML9 nm hh) 40 _ _ _ [.int 1] (hp x) QL
        refine pw_if_eq (tgt := 189) (tk tkL_law 95 rfl) (by decide) (fun c179 => absurd c179 (by decide)) (fun c179 => ?_)
        refine pw_aload_n (tk tkL_law 96 rfl) rfl ?_
        refine pw_callS (ct_L_isTableSo x hW hB iv1) okL_isTableSo (tk tkL_law 97 rfl) mkL_141 stL_isTableSo rfl rfl (by decide) (by omega) (Nat.le_of_ble_eq_true rfl) (fun r9 h9 q9 => ?_) (fun E h9 q9 => ?_)
        rotate_left
        · obtain ⟨y, _, _, e9⟩ := q9
          cases e9
        obtain ⟨x, rfl, hW, e9⟩ := q9
        cases e9
        show PW (ML9 nm hh) 40 _ _ _ [.int 1] (hp x) QL
        refine pw_if_ne (tgt := 191) (tk tkL_law 98 rfl) (by decide) (fun c186 => ?_) (fun c186 => absurd c186 (by decide))
        refine pw_iload (tk tkL_law 101 rfl) rfl ?_
        refine pw_iconst (v := 2) (tk tkL_law 102 rfl) (by decide) ?_
        refine pw_irem (tk tkL_law 103 rfl) (by decide) ?_
        refine pw_iconst (v := 1) (tk tkL_law 104 rfl) (by decide) ?_
        refine pw_icmp_ne (tgt := 236) (tk tkL_law 105 rfl) (by decide) (fun c196 => ?_) (fun c196 => ?_)
        · exact P236 v a1 _ _ x _ _ _ _ _ (by omega) hW lv1
        · refine pw_aload_n (tk tkL_law 106 rfl) rfl ?_
          refine pw_iload (tk tkL_law 107 rfl) rfl ?_
          refine pw_bipush (v := 6) (tk tkL_law 108 rfl) (by decide) ?_
          refine pw_ishr (tk tkL_law 109 rfl) ?_
          refine pw_iconst (v := 4) (tk tkL_law 110 rfl) (by decide) ?_
          refine pw_cS (ct_L_low _ _ 4 (by decide) (by decide)) okL_low (tk tkL_law 111 rfl) mkL_37 stL_low rfl rfl (by decide) (by omega) (Nat.le_of_ble_eq_true rfl) ?_
          refine pw_iload (tk tkL_law 112 rfl) rfl ?_
          refine pw_bipush (v := 8) (tk tkL_law 113 rfl) (by decide) ?_
          refine pw_ishr (tk tkL_law 114 rfl) ?_
          refine pw_iconst (v := 3) (tk tkL_law 115 rfl) (by decide) ?_
          refine pw_cS (ct_L_low _ _ 3 (by decide) (by decide)) okL_low (tk tkL_law 116 rfl) mkL_37 stL_low rfl rfl (by decide) (by omega) (Nat.le_of_ble_eq_true rfl) ?_
          refine pw_iload (tk tkL_law 117 rfl) rfl ?_
          refine pw_bipush (v := 10) (tk tkL_law 118 rfl) (by decide) ?_
          refine pw_ishr (tk tkL_law 119 rfl) ?_
          refine pw_sipush (v := 1000) (tk tkL_law 120 rfl) (by decide) ?_
          refine pw_cS (ct_L_low _ _ 1000 (by decide) (by decide)) okL_low (tk tkL_law 121 rfl) mkL_37 stL_low rfl rfl (by decide) (by omega) (Nat.le_of_ble_eq_true rfl) ?_
          refine pw_aload_n (tk tkL_law 122 rfl) rfl ?_
          refine pw_callS (ct_L_isUpdateSo x hW hga1 iv1 (lwF_lt _ (by decide)) (lwF_lt _ (by decide)) (lwF_lt _ (by decide))) okL_isUpdateSo (tk tkL_law 123 rfl) mkL_145 stL_isUpdateSo rfl rfl (by decide) (by omega) (Nat.le_of_ble_eq_true rfl) (fun r9 h9 q9 => ?_) (fun E h9 q9 => ?_)
          rotate_left
          · obtain ⟨y, a2, w2, _, _, _, _, e9⟩ := q9
            cases e9
          obtain ⟨x, a2, w2, rfl, hW, hs2, hg2, e9⟩ := q9
          cases e9
          show PW (ML9 nm hh) 40 _ _ _ [.int 1] (hp x) QL
          refine pw_if_eq (tgt := 244) (tk tkL_law 124 rfl) (by decide) (fun c233 => absurd c233 (by decide)) (fun c233 => ?_)
          exact P236 v a2 _ _ x _ _ _ _ _ (by omega) hW ⟨hs.symm.trans hs2.symm, hg2, hgb1, by rw [hs2]; exact iv1⟩
    have hKa : aK a ≤ 6 := by obtain ⟨nx, _, _, _, h6, _⟩ := hW.1.2.1; exact h6
    refine pw_iload (tk tkL_law 13 rfl) rfl ?_
    refine pw_bipush (v := 64) (tk tkL_law 14 rfl) (by decide) ?_
    refine pw_icmp_ge (tgt := 252) (tk tkL_law 15 rfl) (by decide) (fun c27 => absurd c27 (nI_ge (b := 64) he64 (by decide))) (fun c27 => ?_)
    refine pw_aload_n (tk tkL_law 16 rfl) rfl ?_
    refine pw_iload (tk tkL_law 17 rfl) rfl ?_
    refine pw_callS (ct_L_cell _ e (by omega)) okL_cell (tk tkL_law 18 rfl) mkL_129 stL_cell rfl rfl (by decide) (by omega) (Nat.le_of_ble_eq_true rfl) (fun r9 h9 q9 => ?_) (fun E h9 q9 => ?_)
    rotate_left
    · obtain ⟨_, v9, e9⟩ := q9
      cases e9
    obtain ⟨rfl, v, e9⟩ := q9
    cases e9
    have hgv := lft_HG hga iv v
    have eg : actG b v = actG a v := actG_eq hab v
    have p149 := P149 v
    rw [eg] at p149
    show PW (ML9 nm hh) 40 _ _ _ [.int v] (hp x) QL
    refine pw_ist5 (tk tkL_law 19 rfl) rfl (show 5 < 10 by decide) ?_
    refine pw_aload_n (tk tkL_law 20 rfl) rfl ?_
    refine rO_undoCount hW hga.1 (v := nI (aK a)) rfl rfl (tk tkL_law 21 rfl) (by decide) (Nat.le_of_ble_eq_true rfl) (fun x hW => ?_)
    refine pw_ist6 (tk tkL_law 22 rfl) rfl (show 6 < 10 by decide) ?_
    refine pw_aload_n (tk tkL_law 23 rfl) rfl ?_
    refine pw_iload (tk tkL_law 24 rfl) rfl ?_
    refine pw_aload_n (tk tkL_law 25 rfl) rfl ?_
    refine pw_callS (ct_L_act x hW hga v) okL_act (tk tkL_law 26 rfl) mkL_133 stL_act rfl rfl (by decide) (by omega) (Nat.le_of_ble_eq_true rfl) (fun r9 h9 q9 => ?_) (fun E h9 q9 => ?_)
    rotate_left
    · obtain ⟨y, _, _, _, e9, _⟩ := q9
      cases e9
    obtain ⟨x, rfl, g1, g2, e9, g3⟩ := q9
    cases e9
    have hW : W2 (lft a (actG a v)) b (x.2.2 0) x := ⟨g1, g2, rfl⟩
    show PW (ML9 nm hh) 40 _ _ _ [.int (actG a v).1] (hp x) QL
    refine pw_ist7 (tk tkL_law 27 rfl) rfl (show 7 < 10 by decide) ?_
    refine pw_aload_n (tk tkL_law 28 rfl) rfl ?_
    refine pw_iconst (v := 0) (tk tkL_law 29 rfl) (by decide) ?_
    refine al_out_e (e := 0) (tk tkL_law 30 rfl) rfl (by first | decide | omega) ?_
    refine pw_ist8 (tk tkL_law 31 rfl) rfl (show 8 < 10 by decide) ?_
    refine pw_iload (tk tkL_law 32 rfl) rfl ?_
    refine pw_if_eq (tgt := 82) (tk tkL_law 33 rfl) (by decide) (fun c60 => ?_) (fun c60 => ?_)
    · refine pw_iload (tk tkL_law 44 rfl) rfl ?_
      refine pw_if_ne (tgt := 149) (tk tkL_law 45 rfl) (by decide) (fun c84 => absurd c60 c84) (fun c84 => ?_)
      refine pw_iload (tk tkL_law 46 rfl) rfl ?_
      refine pw_bipush (v := 9) (tk tkL_law 47 rfl) (by decide) ?_
      refine pw_ishr (tk tkL_law 48 rfl) ?_
      refine pw_iconst (v := 1) (tk tkL_law 49 rfl) (by decide) ?_
      refine pw_iand (tk tkL_law 50 rfl) ?_
      refine pw_if_ne (tgt := 149) (tk tkL_law 51 rfl) (by decide) (fun c94 => ?_) (fun c94 => ?_)
      · exact p149 (lft a (actG a v)) _ x _ _ _ _ (by omega) hW hgv (lft_S hab _).symm (fun h => g3 h)
      · refine pw_aload_n (tk tkL_law 52 rfl) rfl ?_
        obtain ⟨H, hun, hk2, hH⟩ := undo_rec a (actG a v).2.2
        have hg2 := undo_HG hga hk2 hH
        have hK6 : aK a ≤ 6 := hKa
        rw [lft_ok c60] at hW hgv
        have told8 := g3 c60
        refine rdO (v := nI (kM (aK a))) hW (ct_u x (y := 0) (actG a v).2.2 hW.1 hgv.1 hga) (by rw [hun]) nz1 (by rw [hun]) okX7_undo (tk tkL_law 53 rfl) mkL_125 imX7_undo seX7_undo rfl rfl rfl (by decide) (by omega) (Nat.le_of_ble_eq_true rfl) (fun x hW => ?_)
        rw [hun] at hW
        refine pw_ist9 (tk tkL_law 54 rfl) rfl (show 9 < 10 by decide) ?_
        refine pw_iload (tk tkL_law 55 rfl) rfl ?_
        refine pw_iload (tk tkL_law 56 rfl) rfl ?_
        refine pw_bipush (v := 6) (tk tkL_law 57 rfl) (by decide) ?_
        refine pw_icmp_ne (tgt := 116) (tk tkL_law 58 rfl) (by decide) (fun c109 => ?_) (fun c109 => ?_)
        · refine pw_iload (tk tkL_law 61 rfl) rfl ?_
          refine pw_icmp_ne (tgt := 147) (tk tkL_law 62 rfl) (by decide) (fun c118 => absurd (show nI (kM (aK a)) = nI (aK a) from by unfold kM; rw [if_neg (fun z => c109 (by rw [z]; rfl))]) c118) (fun c118 => ?_)
          refine pw_aload_n (tk tkL_law 63 rfl) rfl ?_
          refine pw_aload_n (tk tkL_law 64 rfl) rfl ?_
          refine pw_callS (ct_L_areAlike x hW hg2.1 hab) okL_areAlike (tk tkL_law 65 rfl) mkL_137 stL_areAlike rfl rfl (by decide) (by omega) (Nat.le_of_ble_eq_true rfl) (fun r9 h9 q9 => ?_) (fun E h9 q9 => ?_)
          rotate_left
          · obtain ⟨y, _, _, e9⟩ := q9
            cases e9
          obtain ⟨x, rfl, hW, e9⟩ := q9
          cases e9
          show PW (ML9 nm hh) 40 _ _ _ [.int 1] (hp x) QL
          refine pw_if_eq (tgt := 147) (tk tkL_law 66 rfl) (by decide) (fun c126 => absurd c126 (by decide)) (fun c126 => ?_)
          refine pw_aload_n (tk tkL_law 67 rfl) rfl ?_
          refine pw_iload (tk tkL_law 68 rfl) rfl ?_
          refine pw_aload_n (tk tkL_law 69 rfl) rfl ?_
          refine pw_callS (ct_L_act x hW hg2 v) okL_act (tk tkL_law 70 rfl) mkL_133 stL_act rfl rfl (by decide) (by omega) (Nat.le_of_ble_eq_true rfl) (fun r9 h9 q9 => ?_) (fun E h9 q9 => ?_)
          rotate_left
          · obtain ⟨y, _, _, _, e9, _⟩ := q9
            cases e9
          rw [actG_eq (show aS ((aS a, (kM (aK a), H), a.2.2) : AM) = aS a from rfl) v] at q9
          obtain ⟨x, rfl, g1, g2, e9, g3⟩ := q9
          cases e9
          have hW : W2 (lft (aS a, (kM (aK a), H), a.2.2) (actG a v)) b (x.2.2 0) x := ⟨g1, g2, rfl⟩
          show PW (ML9 nm hh) 40 _ _ _ [.int (actG a v).1] (hp x) QL
          refine pw_if_ne (tgt := 147) (tk tkL_law 71 rfl) (by decide) (fun c136 => absurd c60 c136) (fun c136 => ?_)
          refine pw_aload_n (tk tkL_law 72 rfl) rfl ?_
          refine pw_iconst (v := 0) (tk tkL_law 73 rfl) (by decide) ?_
          refine al_out_e (e := 0) (tk tkL_law 74 rfl) rfl (by first | decide | omega) ?_
          refine pw_iload (tk tkL_law 75 rfl) rfl ?_
          refine pw_icmp_eq (tgt := 149) (tk tkL_law 76 rfl) (by decide) (fun c144 => ?_) (fun c144 => absurd ((g3 c60).trans told8.symm) c144)
          have hg3 := lft_HG hg2 iv v
          rw [actG_eq (show aS ((aS a, (kM (aK a), H), a.2.2) : AM) = aS a from rfl) v] at hg3
          exact p149 (lft (aS a, (kM (aK a), H), a.2.2) (actG a v)) _ x _ _ _ _ (by omega) hW hg3 (lft_S (a := (aS a, (kM (aK a), H), a.2.2)) hab _).symm (fun _ => told8)
        · refine pw_iconst (v := 5) (tk tkL_law 59 rfl) (by decide) ?_
          refine pw_goto (tgt := 118) (tk tkL_law 60 rfl) (by decide) ?_
          refine pw_icmp_ne (tgt := 147) (tk tkL_law 62 rfl) (by decide) (fun c118 => absurd (show nI (kM (aK a)) = 5 from by unfold kM; rw [if_pos ((nI_eq (b := 6) (by omega) (by decide)).mp c109)]; rfl) c118) (fun c118 => ?_)
          refine pw_aload_n (tk tkL_law 63 rfl) rfl ?_
          refine pw_aload_n (tk tkL_law 64 rfl) rfl ?_
          refine pw_callS (ct_L_areAlike x hW hg2.1 hab) okL_areAlike (tk tkL_law 65 rfl) mkL_137 stL_areAlike rfl rfl (by decide) (by omega) (Nat.le_of_ble_eq_true rfl) (fun r9 h9 q9 => ?_) (fun E h9 q9 => ?_)
          rotate_left
          · obtain ⟨y, _, _, e9⟩ := q9
            cases e9
          obtain ⟨x, rfl, hW, e9⟩ := q9
          cases e9
          show PW (ML9 nm hh) 40 _ _ _ [.int 1] (hp x) QL
          refine pw_if_eq (tgt := 147) (tk tkL_law 66 rfl) (by decide) (fun c126 => absurd c126 (by decide)) (fun c126 => ?_)
          refine pw_aload_n (tk tkL_law 67 rfl) rfl ?_
          refine pw_iload (tk tkL_law 68 rfl) rfl ?_
          refine pw_aload_n (tk tkL_law 69 rfl) rfl ?_
          refine pw_callS (ct_L_act x hW hg2 v) okL_act (tk tkL_law 70 rfl) mkL_133 stL_act rfl rfl (by decide) (by omega) (Nat.le_of_ble_eq_true rfl) (fun r9 h9 q9 => ?_) (fun E h9 q9 => ?_)
          rotate_left
          · obtain ⟨y, _, _, _, e9, _⟩ := q9
            cases e9
          rw [actG_eq (show aS ((aS a, (kM (aK a), H), a.2.2) : AM) = aS a from rfl) v] at q9
          obtain ⟨x, rfl, g1, g2, e9, g3⟩ := q9
          cases e9
          have hW : W2 (lft (aS a, (kM (aK a), H), a.2.2) (actG a v)) b (x.2.2 0) x := ⟨g1, g2, rfl⟩
          show PW (ML9 nm hh) 40 _ _ _ [.int (actG a v).1] (hp x) QL
          refine pw_if_ne (tgt := 147) (tk tkL_law 71 rfl) (by decide) (fun c136 => absurd c60 c136) (fun c136 => ?_)
          refine pw_aload_n (tk tkL_law 72 rfl) rfl ?_
          refine pw_iconst (v := 0) (tk tkL_law 73 rfl) (by decide) ?_
          refine al_out_e (e := 0) (tk tkL_law 74 rfl) rfl (by first | decide | omega) ?_
          refine pw_iload (tk tkL_law 75 rfl) rfl ?_
          refine pw_icmp_eq (tgt := 149) (tk tkL_law 76 rfl) (by decide) (fun c144 => ?_) (fun c144 => absurd ((g3 c60).trans told8.symm) c144)
          have hg3 := lft_HG hg2 iv v
          rw [actG_eq (show aS ((aS a, (kM (aK a), H), a.2.2) : AM) = aS a from rfl) v] at hg3
          exact p149 (lft (aS a, (kM (aK a), H), a.2.2) (actG a v)) _ x _ _ _ _ (by omega) hW hg3 (lft_S (a := (aS a, (kM (aK a), H), a.2.2)) hab _).symm (fun _ => told8)
    · rw [lft_no c60] at hW hgv
      refine pw_aload_n (tk tkL_law 34 rfl) rfl ?_
      refine pw_aload_n (tk tkL_law 35 rfl) rfl ?_
      refine pw_callS (ct_L_areAlike x hW hga.1 hab) okL_areAlike (tk tkL_law 36 rfl) mkL_137 stL_areAlike rfl rfl (by decide) (by omega) (Nat.le_of_ble_eq_true rfl) (fun r9 h9 q9 => ?_) (fun E h9 q9 => ?_)
      rotate_left
      · obtain ⟨y, _, _, e9⟩ := q9
        cases e9
      obtain ⟨x, rfl, hW, e9⟩ := q9
      cases e9
      show PW (ML9 nm hh) 40 _ _ _ [.int 1] (hp x) QL
      refine pw_if_eq (tgt := 80) (tk tkL_law 37 rfl) (by decide) (fun c68 => absurd c68 (by decide)) (fun c68 => ?_)
      refine pw_aload_n (tk tkL_law 38 rfl) rfl ?_
      refine rO_undoCount hW hga.1 (v := nI (aK a)) rfl rfl (tk tkL_law 39 rfl) (by decide) (Nat.le_of_ble_eq_true rfl) (fun x hW => ?_)
      refine pw_iload (tk tkL_law 40 rfl) rfl ?_
      refine pw_icmp_eq (tgt := 82) (tk tkL_law 41 rfl) (by decide) (fun c77 => ?_) (fun c77 => absurd rfl c77)
      refine pw_iload (tk tkL_law 44 rfl) rfl ?_
      refine pw_if_ne (tgt := 149) (tk tkL_law 45 rfl) (by decide) (fun c84 => ?_) (fun c84 => absurd c84 c60)
      exact p149 a _ x _ _ _ _ (by omega) hW hga (by rw [lft_no c60]; exact hab.symm) (fun h => absurd h c60)
