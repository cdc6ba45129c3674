/-! ===== THE LAW'S CALLS OF THE CLASS ===== -/
def WV (bo : Bool) (v : Int32) : Int64 := if bo = true then (if v = 0 then 0 else 1) else v.toInt64
theorem WV_t0 {v : Int32} (h : v = 0) : WV true v = 0 := if_pos h
theorem WV_t1 {v : Int32} (h : ¬ v = 0) : WV true v = 1 := if_neg h
theorem nl_at {ls : List (Option Value)} {j : Nat} {v : Option Value} (h : ls[j]? = some v) (hn : nlong v = true) : ∀ i, i + 1 = j + 1 → ∀ w, ls[i]? = some w → nlong w = true := by
  intro i hi w hw
  obtain rfl : i = j := by omega
  rw [h] at hw
  cases hw
  exact hn
abbrev PS9 (M : Mth) (E : String) (z : Nat × Nat × Nat × Nat) : Prop := z.2.2.2 ≠ 0 ∧ ∃ nm, Cond.classLink (mY M).cls z.2.2.2 nm ∈ UU ∧ (E, nm) ∈ ncs
theorem pass1 {M : Mth} {E : String} {a : Nat × Nat × Nat × Nat} (h : PS9 M E a) : ∀ z ∈ [a], PS9 M E z := fun z hz => by
  rw [List.mem_singleton.mp hz]; exact h
theorem pass2 {M : Mth} {E : String} {a b : Nat × Nat × Nat × Nat} (h : PS9 M E a) (h2 : PS9 M E b) : ∀ z ∈ [a, b], PS9 M E z := fun z hz => by
  rcases List.mem_cons.mp hz with e | hz
  · rw [e]; exact h
  · rw [List.mem_singleton.mp hz]; exact h2
def WQ (bo : Bool) (x : XW) (R : RS3) : Out → Hp → Prop := fun o h2 => ∃ y, h2 = hp y ∧ y.2.1 = x.2.1 ∧ RC R.2.2 y.1 ∧ o = .inl (some (.int R.1)) ∧ (R.1 = 0 → y.2.2 0 = WV bo R.2.1)
set_option maxRecDepth 100000 in
set_option maxHeartbeats 4000000 in
theorem ct_L_hasRow (x : XW) (hx : REL x) (r : Int32) : CT ML_hasRow 31 6 [.ref 160, .int r, .ref 178] (hp x) (WQ true x (shasRow (aOf x.2.1) r)) := by
  refine ct_ofH (by decide +kernel) rfl (by decide) (k := 1) (ls := [some (.ref 160), some (.int r), some (.ref 178), none]) rfl (Nat.le_of_ble_eq_true rfl) ?_
  refine pw_aload_n (tk tkL_hasRow 0 rfl) rfl ?_
  refine pw_iconst (v := 0) (tk tkL_hasRow 1 rfl) (by decide) ?_
  refine pw_aload_n (tk tkL_hasRow 2 rfl) rfl ?_
  refine pw_iload_n (tk tkL_hasRow 3 rfl) rfl ?_
  refine pw_callV (ct_X7_hasRow x _ hx.1 hx.hg.1 r) okX7_hasRow (tk tkL_hasRow 4 rfl) mkL_53 imX7_hasRow seX7_hasRow (hp_ot _ 0) rfl rfl rfl (by decide) (by decide) (Nat.le_of_ble_eq_true rfl) (fun r h2 q => ?_) (fun E h2 q => ?_)
  obtain ⟨y, rfl, hy, hc, e⟩ := q
  have hy2 : y.2.1 = x.2.1 := congrArg Prod.fst hy
  obtain ⟨e0, rfl⟩ := cq_l e
  refine pw_if_eq (tgt := 14) (tk tkL_hasRow 5 rfl) (by decide) (fun c7 => ?_) (fun c7 => ?_)
  · refine pw_lconst (v := 0) (tk tkL_hasRow 8 rfl) (by decide) ?_
    refine as_out_e (e := 0) (tk tkL_hasRow 9 rfl) rfl (by first | decide | omega) ?_
    refine pw_goto (tgt := 22) (tk tkL_hasRow 10 rfl) (by decide) ?_
    refine pw_iconst (v := 0) (tk tkL_hasRow 14 rfl) (by decide) ?_
    exact pw_ireturn (tk tkL_hasRow 15 rfl) rfl (by decide) rfl ⟨_, rfl, hy2, hc, by rw [e0], fun _ => (WV_t0 c7).symm⟩
  · refine pw_lconst (v := 1) (tk tkL_hasRow 6 rfl) (by decide) ?_
    refine pw_goto (tgt := 15) (tk tkL_hasRow 7 rfl) (by decide) ?_
    refine as_out_e (e := 0) (tk tkL_hasRow 9 rfl) rfl (by first | decide | omega) ?_
    refine pw_goto (tgt := 22) (tk tkL_hasRow 10 rfl) (by decide) ?_
    refine pw_iconst (v := 0) (tk tkL_hasRow 14 rfl) (by decide) ?_
    exact pw_ireturn (tk tkL_hasRow 15 rfl) rfl (by decide) rfl ⟨_, rfl, hy2, hc, by rw [e0], fun _ => (WV_t1 c7).symm⟩
  obtain ⟨y, rfl, hy, hc, ⟨_, e⟩ | ⟨k9, E9, hm, hk, e⟩⟩ := q
  · cases e
  · cases e
    simp only [List.mem_cons, Prod.mk.injEq, List.not_mem_nil, or_false] at hm
    obtain ⟨rfl, rfl⟩ := hm
    refine pt_catch [] (0, 16, 19, 21) [] (j := 3) (w := 1) (ls1 := [some (.ref 160), some (.int r), some (.ref 178), none]) rfl (fun z hz => by cases hz) ⟨by decide, by decide⟩ (by decide) ckL_21 caIOE (Or.inl ⟨3, rfl, rfl, (tk tkL_hasRow 11 rfl)⟩) (by decide) (nl_at (j := 2) rfl rfl) rfl ?_
    refine pw_iconst (v := 1) (tk tkL_hasRow 12 rfl) (by decide) ?_
    exact pw_ireturn (tk tkL_hasRow 13 rfl) rfl (by decide) rfl ⟨_, rfl, congrArg Prod.fst hy, hc, by rw [hk], fun q0 => absurd (hk.symm.trans q0) (by decide)⟩
set_option maxRecDepth 100000 in
set_option maxHeartbeats 4000000 in
theorem ct_L_valueAt (x : XW) (hx : REL x) (r c : Int32) : CT ML_valueAt 31 6 [.ref 160, .int r, .int c, .ref 178] (hp x) (WQ false x (svalueAt (aOf x.2.1) r c)) := by
  refine ct_ofH (by decide +kernel) rfl (by decide) (k := 1) (ls := [some (.ref 160), some (.int r), some (.int c), some (.ref 178), none]) rfl (Nat.le_of_ble_eq_true rfl) ?_
  refine pw_aload_n (tk tkL_valueAt 0 rfl) rfl ?_
  refine pw_iconst (v := 0) (tk tkL_valueAt 1 rfl) (by decide) ?_
  refine pw_aload_n (tk tkL_valueAt 2 rfl) rfl ?_
  refine pw_iload_n (tk tkL_valueAt 3 rfl) rfl ?_
  refine pw_iload_n (tk tkL_valueAt 4 rfl) rfl ?_
  refine pw_callV (ct_X7_valueAt x _ hx.1 hx.hg.1 r c) okX7_valueAt (tk tkL_valueAt 5 rfl) mkL_56 imX7_valueAt seX7_valueAt (hp_ot _ 0) rfl rfl rfl (by decide) (by decide) (Nat.le_of_ble_eq_true rfl) (fun r h2 q => ?_) (fun E h2 q => ?_)
  obtain ⟨y, rfl, hy, hc, e⟩ := q
  have hy2 : y.2.1 = x.2.1 := congrArg Prod.fst hy
  obtain ⟨e0, rfl⟩ := cq_l e
  refine pw_i2l (tk tkL_valueAt 6 rfl) rfl ?_
  refine as_out_e (e := 0) (tk tkL_valueAt 7 rfl) rfl (by first | decide | omega) ?_
  refine pw_goto (tgt := 21) (tk tkL_valueAt 8 rfl) (by decide) ?_
  refine pw_iconst (v := 0) (tk tkL_valueAt 15 rfl) (by decide) ?_
  exact pw_ireturn (tk tkL_valueAt 16 rfl) rfl (by decide) rfl ⟨_, rfl, hy2, hc, by rw [e0], fun _ => rfl⟩
  obtain ⟨y, rfl, hy, hc, ⟨_, e⟩ | ⟨k9, E9, hm, hk, e⟩⟩ := q
  · cases e
  · cases e
    simp only [List.mem_cons, Prod.mk.injEq, List.not_mem_nil, or_false] at hm
    rcases hm with ⟨rfl, rfl⟩ | ⟨rfl, rfl⟩
    · refine pt_catch [] (0, 10, 13, 21) [(0, 10, 17, 15)] (j := 4) (w := 2) (ls1 := [some (.ref 160), some (.int r), some (.int c), some (.ref 178), none]) rfl (fun z hz => by cases hz) ⟨by decide, by decide⟩ (by decide) ckL_21 caIOE (Or.inr ⟨rfl, (tk tkL_valueAt 9 rfl)⟩) (by decide) (nl_at (j := 3) rfl rfl) rfl ?_
      refine pw_iconst (v := 1) (tk tkL_valueAt 10 rfl) (by decide) ?_
      exact pw_ireturn (tk tkL_valueAt 11 rfl) rfl (by decide) rfl ⟨_, rfl, congrArg Prod.fst hy, hc, by rw [hk], fun q0 => absurd (hk.symm.trans q0) (by decide)⟩
    · refine pt_catch [(0, 10, 13, 21)] (0, 10, 17, 15) [] (j := 4) (w := 2) (ls1 := [some (.ref 160), some (.int r), some (.int c), some (.ref 178), none]) rfl (pass1 ⟨by decide, _, ckL_21, List.mem_of_getElem? (i := 3) rfl⟩) ⟨by decide, by decide⟩ (by decide) ckL_15 caISE (Or.inr ⟨rfl, (tk tkL_valueAt 12 rfl)⟩) (by decide) (nl_at (j := 3) rfl rfl) rfl ?_
      refine pw_iconst (v := 2) (tk tkL_valueAt 13 rfl) (by decide) ?_
      exact pw_ireturn (tk tkL_valueAt 14 rfl) rfl (by decide) rfl ⟨_, rfl, congrArg Prod.fst hy, hc, by rw [hk], fun q0 => absurd (hk.symm.trans q0) (by decide)⟩
set_option maxRecDepth 100000 in
set_option maxHeartbeats 4000000 in
theorem ct_L_actionOf (x : XW) (hx : REL x) (r : Int32) : CT ML_actionOf 31 6 [.ref 160, .int r, .ref 178] (hp x) (WQ false x (sactionOf (aOf x.2.1) r)) := by
  refine ct_ofH (by decide +kernel) rfl (by decide) (k := 1) (ls := [some (.ref 160), some (.int r), some (.ref 178), none]) rfl (Nat.le_of_ble_eq_true rfl) ?_
  refine pw_aload_n (tk tkL_actionOf 0 rfl) rfl ?_
  refine pw_iconst (v := 0) (tk tkL_actionOf 1 rfl) (by decide) ?_
  refine pw_aload_n (tk tkL_actionOf 2 rfl) rfl ?_
  refine pw_iload_n (tk tkL_actionOf 3 rfl) rfl ?_
  refine pw_callV (ct_X7_actionOf x _ hx.1 hx.hg.1 r) okX7_actionOf (tk tkL_actionOf 4 rfl) mkL_63 imX7_actionOf seX7_actionOf (hp_ot _ 0) rfl rfl rfl (by decide) (by decide) (Nat.le_of_ble_eq_true rfl) (fun r h2 q => ?_) (fun E h2 q => ?_)
  obtain ⟨y, rfl, hy, hc, e⟩ := q
  have hy2 : y.2.1 = x.2.1 := congrArg Prod.fst hy
  obtain ⟨e0, rfl⟩ := cq_l e
  refine pw_i2l (tk tkL_actionOf 5 rfl) rfl ?_
  refine as_out_e (e := 0) (tk tkL_actionOf 6 rfl) rfl (by first | decide | omega) ?_
  refine pw_goto (tgt := 15) (tk tkL_actionOf 7 rfl) (by decide) ?_
  refine pw_iconst (v := 0) (tk tkL_actionOf 11 rfl) (by decide) ?_
  exact pw_ireturn (tk tkL_actionOf 12 rfl) rfl (by decide) rfl ⟨_, rfl, hy2, hc, by rw [e0], fun _ => rfl⟩
  obtain ⟨y, rfl, hy, hc, ⟨_, e⟩ | ⟨k9, E9, hm, hk, e⟩⟩ := q
  · cases e
  · cases e
    simp only [List.mem_cons, Prod.mk.injEq, List.not_mem_nil, or_false] at hm
    obtain ⟨rfl, rfl⟩ := hm
    refine pt_catch [] (0, 9, 12, 21) [] (j := 3) (w := 1) (ls1 := [some (.ref 160), some (.int r), some (.ref 178), none]) rfl (fun z hz => by cases hz) ⟨by decide, by decide⟩ (by decide) ckL_21 caIOE (Or.inl ⟨3, rfl, rfl, (tk tkL_actionOf 8 rfl)⟩) (by decide) (nl_at (j := 2) rfl rfl) rfl ?_
    refine pw_iconst (v := 1) (tk tkL_actionOf 9 rfl) (by decide) ?_
    exact pw_ireturn (tk tkL_actionOf 10 rfl) rfl (by decide) rfl ⟨_, rfl, congrArg Prod.fst hy, hc, by rw [hk], fun q0 => absurd (hk.symm.trans q0) (by decide)⟩
set_option maxRecDepth 100000 in
set_option maxHeartbeats 4000000 in
theorem ct_L_actsOf (x : XW) (hx : REL x) (r : Int32) : CT ML_actsOf 31 6 [.ref 160, .int r, .ref 178] (hp x) (WQ false x (sactsOf (aOf x.2.1) r)) := by
  refine ct_ofH (by decide +kernel) rfl (by decide) (k := 1) (ls := [some (.ref 160), some (.int r), some (.ref 178), none]) rfl (Nat.le_of_ble_eq_true rfl) ?_
  refine pw_aload_n (tk tkL_actsOf 0 rfl) rfl ?_
  refine pw_iconst (v := 0) (tk tkL_actsOf 1 rfl) (by decide) ?_
  refine pw_aload_n (tk tkL_actsOf 2 rfl) rfl ?_
  refine pw_iload_n (tk tkL_actsOf 3 rfl) rfl ?_
  refine pw_callV (ct_X7_actsOf x _ hx.1 hx.hg.1 r) okX7_actsOf (tk tkL_actsOf 4 rfl) mkL_69 imX7_actsOf seX7_actsOf (hp_ot _ 0) rfl rfl rfl (by decide) (by decide) (Nat.le_of_ble_eq_true rfl) (fun r h2 q => ?_) (fun E h2 q => ?_)
  obtain ⟨y, rfl, hy, hc, e⟩ := q
  have hy2 : y.2.1 = x.2.1 := congrArg Prod.fst hy
  obtain ⟨e0, rfl⟩ := cq_l e
  refine pw_i2l (tk tkL_actsOf 5 rfl) rfl ?_
  refine as_out_e (e := 0) (tk tkL_actsOf 6 rfl) rfl (by first | decide | omega) ?_
  refine pw_goto (tgt := 15) (tk tkL_actsOf 7 rfl) (by decide) ?_
  refine pw_iconst (v := 0) (tk tkL_actsOf 11 rfl) (by decide) ?_
  exact pw_ireturn (tk tkL_actsOf 12 rfl) rfl (by decide) rfl ⟨_, rfl, hy2, hc, by rw [e0], fun _ => rfl⟩
  obtain ⟨y, rfl, hy, hc, ⟨_, e⟩ | ⟨k9, E9, hm, hk, e⟩⟩ := q
  · cases e
  · cases e
    simp only [List.mem_cons, Prod.mk.injEq, List.not_mem_nil, or_false] at hm
    obtain ⟨rfl, rfl⟩ := hm
    refine pt_catch [] (0, 9, 12, 21) [] (j := 3) (w := 1) (ls1 := [some (.ref 160), some (.int r), some (.ref 178), none]) rfl (fun z hz => by cases hz) ⟨by decide, by decide⟩ (by decide) ckL_21 caIOE (Or.inl ⟨3, rfl, rfl, (tk tkL_actsOf 8 rfl)⟩) (by decide) (nl_at (j := 2) rfl rfl) rfl ?_
    refine pw_iconst (v := 1) (tk tkL_actsOf 9 rfl) (by decide) ?_
    exact pw_ireturn (tk tkL_actsOf 10 rfl) rfl (by decide) rfl ⟨_, rfl, congrArg Prod.fst hy, hc, by rw [hk], fun q0 => absurd (hk.symm.trans q0) (by decide)⟩
set_option maxRecDepth 100000 in
set_option maxHeartbeats 4000000 in
theorem ct_L_isMuted (x : XW) (hx : REL x) (r : Int32) : CT ML_isMuted 31 6 [.ref 160, .int r, .ref 178] (hp x) (WQ true x (sisMuted (aOf x.2.1) r)) := by
  refine ct_ofH (by decide +kernel) rfl (by decide) (k := 1) (ls := [some (.ref 160), some (.int r), some (.ref 178), none]) rfl (Nat.le_of_ble_eq_true rfl) ?_
  refine pw_aload_n (tk tkL_isMuted 0 rfl) rfl ?_
  refine pw_iconst (v := 0) (tk tkL_isMuted 1 rfl) (by decide) ?_
  refine pw_aload_n (tk tkL_isMuted 2 rfl) rfl ?_
  refine pw_iload_n (tk tkL_isMuted 3 rfl) rfl ?_
  refine pw_callV (ct_X7_isMuted x _ hx.1 hx.hg.1 r) okX7_isMuted (tk tkL_isMuted 4 rfl) mkL_66 imX7_isMuted seX7_isMuted (hp_ot _ 0) rfl rfl rfl (by decide) (by decide) (Nat.le_of_ble_eq_true rfl) (fun r h2 q => ?_) (fun E h2 q => ?_)
  obtain ⟨y, rfl, hy, hc, e⟩ := q
  have hy2 : y.2.1 = x.2.1 := congrArg Prod.fst hy
  obtain ⟨e0, rfl⟩ := cq_l e
  refine pw_if_eq (tgt := 14) (tk tkL_isMuted 5 rfl) (by decide) (fun c7 => ?_) (fun c7 => ?_)
  · refine pw_lconst (v := 0) (tk tkL_isMuted 8 rfl) (by decide) ?_
    refine as_out_e (e := 0) (tk tkL_isMuted 9 rfl) rfl (by first | decide | omega) ?_
    refine pw_goto (tgt := 22) (tk tkL_isMuted 10 rfl) (by decide) ?_
    refine pw_iconst (v := 0) (tk tkL_isMuted 14 rfl) (by decide) ?_
    exact pw_ireturn (tk tkL_isMuted 15 rfl) rfl (by decide) rfl ⟨_, rfl, hy2, hc, by rw [e0], fun _ => (WV_t0 c7).symm⟩
  · refine pw_lconst (v := 1) (tk tkL_isMuted 6 rfl) (by decide) ?_
    refine pw_goto (tgt := 15) (tk tkL_isMuted 7 rfl) (by decide) ?_
    refine as_out_e (e := 0) (tk tkL_isMuted 9 rfl) rfl (by first | decide | omega) ?_
    refine pw_goto (tgt := 22) (tk tkL_isMuted 10 rfl) (by decide) ?_
    refine pw_iconst (v := 0) (tk tkL_isMuted 14 rfl) (by decide) ?_
    exact pw_ireturn (tk tkL_isMuted 15 rfl) rfl (by decide) rfl ⟨_, rfl, hy2, hc, by rw [e0], fun _ => (WV_t1 c7).symm⟩
  obtain ⟨y, rfl, hy, hc, ⟨_, e⟩ | ⟨k9, E9, hm, hk, e⟩⟩ := q
  · cases e
  · cases e
    simp only [List.mem_cons, Prod.mk.injEq, List.not_mem_nil, or_false] at hm
    obtain ⟨rfl, rfl⟩ := hm
    refine pt_catch [] (0, 16, 19, 21) [] (j := 3) (w := 1) (ls1 := [some (.ref 160), some (.int r), some (.ref 178), none]) rfl (fun z hz => by cases hz) ⟨by decide, by decide⟩ (by decide) ckL_21 caIOE (Or.inl ⟨3, rfl, rfl, (tk tkL_isMuted 11 rfl)⟩) (by decide) (nl_at (j := 2) rfl rfl) rfl ?_
    refine pw_iconst (v := 1) (tk tkL_isMuted 12 rfl) (by decide) ?_
    exact pw_ireturn (tk tkL_isMuted 13 rfl) rfl (by decide) rfl ⟨_, rfl, congrArg Prod.fst hy, hc, by rw [hk], fun q0 => absurd (hk.symm.trans q0) (by decide)⟩
set_option maxRecDepth 100000 in
set_option maxHeartbeats 4000000 in
theorem ct_L_loggedRule (x : XW) (hx : REL x) (r : Int32) : CT ML_loggedRule 31 6 [.ref 160, .int r, .ref 178] (hp x) (WQ false x (sloggedRule (aOf x.2.1) r)) := by
  refine ct_ofH (by decide +kernel) rfl (by decide) (k := 1) (ls := [some (.ref 160), some (.int r), some (.ref 178), none]) rfl (Nat.le_of_ble_eq_true rfl) ?_
  refine pw_aload_n (tk tkL_loggedRule 0 rfl) rfl ?_
  refine pw_iconst (v := 0) (tk tkL_loggedRule 1 rfl) (by decide) ?_
  refine pw_aload_n (tk tkL_loggedRule 2 rfl) rfl ?_
  refine pw_iload_n (tk tkL_loggedRule 3 rfl) rfl ?_
  refine pw_callV (ct_X7_loggedRule x _ hx.1 hx.hg.1 r) okX7_loggedRule (tk tkL_loggedRule 4 rfl) mkL_72 imX7_loggedRule seX7_loggedRule (hp_ot _ 0) rfl rfl rfl (by decide) (by decide) (Nat.le_of_ble_eq_true rfl) (fun r h2 q => ?_) (fun E h2 q => ?_)
  obtain ⟨y, rfl, hy, hc, e⟩ := q
  have hy2 : y.2.1 = x.2.1 := congrArg Prod.fst hy
  obtain ⟨e0, rfl⟩ := cq_l e
  refine pw_i2l (tk tkL_loggedRule 5 rfl) rfl ?_
  refine as_out_e (e := 0) (tk tkL_loggedRule 6 rfl) rfl (by first | decide | omega) ?_
  refine pw_goto (tgt := 15) (tk tkL_loggedRule 7 rfl) (by decide) ?_
  refine pw_iconst (v := 0) (tk tkL_loggedRule 11 rfl) (by decide) ?_
  exact pw_ireturn (tk tkL_loggedRule 12 rfl) rfl (by decide) rfl ⟨_, rfl, hy2, hc, by rw [e0], fun _ => rfl⟩
  obtain ⟨y, rfl, hy, hc, ⟨_, e⟩ | ⟨k9, E9, hm, hk, e⟩⟩ := q
  · cases e
  · cases e
    simp only [List.mem_cons, Prod.mk.injEq, List.not_mem_nil, or_false] at hm
    obtain ⟨rfl, rfl⟩ := hm
    refine pt_catch [] (0, 9, 12, 21) [] (j := 3) (w := 1) (ls1 := [some (.ref 160), some (.int r), some (.ref 178), none]) rfl (fun z hz => by cases hz) ⟨by decide, by decide⟩ (by decide) ckL_21 caIOE (Or.inl ⟨3, rfl, rfl, (tk tkL_loggedRule 8 rfl)⟩) (by decide) (nl_at (j := 2) rfl rfl) rfl ?_
    refine pw_iconst (v := 1) (tk tkL_loggedRule 9 rfl) (by decide) ?_
    exact pw_ireturn (tk tkL_loggedRule 10 rfl) rfl (by decide) rfl ⟨_, rfl, congrArg Prod.fst hy, hc, by rw [hk], fun q0 => absurd (hk.symm.trans q0) (by decide)⟩
set_option maxRecDepth 100000 in
set_option maxHeartbeats 4000000 in
theorem ct_L_loggedDepth (x : XW) (hx : REL x) (r : Int32) : CT ML_loggedDepth 31 6 [.ref 160, .int r, .ref 178] (hp x) (WQ false x (sloggedDepth (aOf x.2.1) r)) := by
  refine ct_ofH (by decide +kernel) rfl (by decide) (k := 1) (ls := [some (.ref 160), some (.int r), some (.ref 178), none]) rfl (Nat.le_of_ble_eq_true rfl) ?_
  refine pw_aload_n (tk tkL_loggedDepth 0 rfl) rfl ?_
  refine pw_iconst (v := 0) (tk tkL_loggedDepth 1 rfl) (by decide) ?_
  refine pw_aload_n (tk tkL_loggedDepth 2 rfl) rfl ?_
  refine pw_iload_n (tk tkL_loggedDepth 3 rfl) rfl ?_
  refine pw_callV (ct_X7_loggedDepth x _ hx.1 hx.hg.1 r) okX7_loggedDepth (tk tkL_loggedDepth 4 rfl) mkL_75 imX7_loggedDepth seX7_loggedDepth (hp_ot _ 0) rfl rfl rfl (by decide) (by decide) (Nat.le_of_ble_eq_true rfl) (fun r h2 q => ?_) (fun E h2 q => ?_)
  obtain ⟨y, rfl, hy, hc, e⟩ := q
  have hy2 : y.2.1 = x.2.1 := congrArg Prod.fst hy
  obtain ⟨e0, rfl⟩ := cq_l e
  refine pw_i2l (tk tkL_loggedDepth 5 rfl) rfl ?_
  refine as_out_e (e := 0) (tk tkL_loggedDepth 6 rfl) rfl (by first | decide | omega) ?_
  refine pw_goto (tgt := 15) (tk tkL_loggedDepth 7 rfl) (by decide) ?_
  refine pw_iconst (v := 0) (tk tkL_loggedDepth 11 rfl) (by decide) ?_
  exact pw_ireturn (tk tkL_loggedDepth 12 rfl) rfl (by decide) rfl ⟨_, rfl, hy2, hc, by rw [e0], fun _ => rfl⟩
  obtain ⟨y, rfl, hy, hc, ⟨_, e⟩ | ⟨k9, E9, hm, hk, e⟩⟩ := q
  · cases e
  · cases e
    simp only [List.mem_cons, Prod.mk.injEq, List.not_mem_nil, or_false] at hm
    obtain ⟨rfl, rfl⟩ := hm
    refine pt_catch [] (0, 9, 12, 21) [] (j := 3) (w := 1) (ls1 := [some (.ref 160), some (.int r), some (.ref 178), none]) rfl (fun z hz => by cases hz) ⟨by decide, by decide⟩ (by decide) ckL_21 caIOE (Or.inl ⟨3, rfl, rfl, (tk tkL_loggedDepth 8 rfl)⟩) (by decide) (nl_at (j := 2) rfl rfl) rfl ?_
    refine pw_iconst (v := 1) (tk tkL_loggedDepth 9 rfl) (by decide) ?_
    exact pw_ireturn (tk tkL_loggedDepth 10 rfl) rfl (by decide) rfl ⟨_, rfl, congrArg Prod.fst hy, hc, by rw [hk], fun q0 => absurd (hk.symm.trans q0) (by decide)⟩
set_option maxRecDepth 100000 in
set_option maxHeartbeats 4000000 in
theorem ct_L_setDepth (x : XW) (hx : REL x) (r : Int32) : CT ML_setDepth 31 6 [.ref 160, .int r, .ref 178] (hp x) (WQ false x (ssetDepth (aOf x.2.1) r)) := by
  refine ct_ofH (by decide +kernel) rfl (by decide) (k := 1) (ls := [some (.ref 160), some (.int r), some (.ref 178), none]) rfl (Nat.le_of_ble_eq_true rfl) ?_
  refine pw_aload_n (tk tkL_setDepth 0 rfl) rfl ?_
  refine pw_iconst (v := 0) (tk tkL_setDepth 1 rfl) (by decide) ?_
  refine pw_aload_n (tk tkL_setDepth 2 rfl) rfl ?_
  refine pw_iload_n (tk tkL_setDepth 3 rfl) rfl ?_
  refine pw_callV (ct_X7_setDepth x _ hx.1 hx.hg.1 r) okX7_setDepth (tk tkL_setDepth 4 rfl) mkL_31 imX7_setDepth seX7_setDepth (hp_ot _ 0) rfl rfl rfl (by decide) (by decide) (Nat.le_of_ble_eq_true rfl) (fun r h2 q => ?_) (fun E h2 q => ?_)
  obtain ⟨y, rfl, hy, hc, e⟩ := q
  have hy2 : y.2.1 = x.2.1 := congrArg Prod.fst hy
  obtain ⟨e0, rfl⟩ := cq_l e
  refine pw_i2l (tk tkL_setDepth 5 rfl) rfl ?_
  refine as_out_e (e := 0) (tk tkL_setDepth 6 rfl) rfl (by first | decide | omega) ?_
  refine pw_goto (tgt := 15) (tk tkL_setDepth 7 rfl) (by decide) ?_
  refine pw_iconst (v := 0) (tk tkL_setDepth 11 rfl) (by decide) ?_
  exact pw_ireturn (tk tkL_setDepth 12 rfl) rfl (by decide) rfl ⟨_, rfl, hy2, hc, by rw [e0], fun _ => rfl⟩
  obtain ⟨y, rfl, hy, hc, ⟨_, e⟩ | ⟨k9, E9, hm, hk, e⟩⟩ := q
  · cases e
  · cases e
    simp only [List.mem_cons, Prod.mk.injEq, List.not_mem_nil, or_false] at hm
    obtain ⟨rfl, rfl⟩ := hm
    refine pt_catch [] (0, 9, 12, 13) [] (j := 3) (w := 1) (ls1 := [some (.ref 160), some (.int r), some (.ref 178), none]) rfl (fun z hz => by cases hz) ⟨by decide, by decide⟩ (by decide) ckL_13 caIAE (Or.inl ⟨3, rfl, rfl, (tk tkL_setDepth 8 rfl)⟩) (by decide) (nl_at (j := 2) rfl rfl) rfl ?_
    refine pw_iconst (v := 1) (tk tkL_setDepth 9 rfl) (by decide) ?_
    exact pw_ireturn (tk tkL_setDepth 10 rfl) rfl (by decide) rfl ⟨_, rfl, congrArg Prod.fst hy, hc, by rw [hk], fun q0 => absurd (hk.symm.trans q0) (by decide)⟩
set_option maxRecDepth 100000 in
set_option maxHeartbeats 4000000 in
theorem ct_L_turnMute (x : XW) (hx : REL x) (r : Int32) : CT ML_turnMute 31 6 [.ref 160, .int r, .ref 178] (hp x) (WQ true x (sturnMute (aOf x.2.1) r)) := by
  refine ct_ofH (by decide +kernel) rfl (by decide) (k := 1) (ls := [some (.ref 160), some (.int r), some (.ref 178), none]) rfl (Nat.le_of_ble_eq_true rfl) ?_
  refine pw_aload_n (tk tkL_turnMute 0 rfl) rfl ?_
  refine pw_iconst (v := 0) (tk tkL_turnMute 1 rfl) (by decide) ?_
  refine pw_aload_n (tk tkL_turnMute 2 rfl) rfl ?_
  refine pw_iload_n (tk tkL_turnMute 3 rfl) rfl ?_
  refine pw_callV (ct_X7_turnMute x _ hx.1 hx.hg.1 r) okX7_turnMute (tk tkL_turnMute 4 rfl) mkL_23 imX7_turnMute seX7_turnMute (hp_ot _ 0) rfl rfl rfl (by decide) (by decide) (Nat.le_of_ble_eq_true rfl) (fun r h2 q => ?_) (fun E h2 q => ?_)
  obtain ⟨y, rfl, hy, hc, e⟩ := q
  have hy2 : y.2.1 = x.2.1 := congrArg Prod.fst hy
  obtain ⟨e0, rfl⟩ := cq_l e
  refine pw_if_eq (tgt := 14) (tk tkL_turnMute 5 rfl) (by decide) (fun c7 => ?_) (fun c7 => ?_)
  · refine pw_lconst (v := 0) (tk tkL_turnMute 8 rfl) (by decide) ?_
    refine as_out_e (e := 0) (tk tkL_turnMute 9 rfl) rfl (by first | decide | omega) ?_
    refine pw_goto (tgt := 22) (tk tkL_turnMute 10 rfl) (by decide) ?_
    refine pw_iconst (v := 0) (tk tkL_turnMute 14 rfl) (by decide) ?_
    exact pw_ireturn (tk tkL_turnMute 15 rfl) rfl (by decide) rfl ⟨_, rfl, hy2, hc, by rw [e0], fun _ => (WV_t0 c7).symm⟩
  · refine pw_lconst (v := 1) (tk tkL_turnMute 6 rfl) (by decide) ?_
    refine pw_goto (tgt := 15) (tk tkL_turnMute 7 rfl) (by decide) ?_
    refine as_out_e (e := 0) (tk tkL_turnMute 9 rfl) rfl (by first | decide | omega) ?_
    refine pw_goto (tgt := 22) (tk tkL_turnMute 10 rfl) (by decide) ?_
    refine pw_iconst (v := 0) (tk tkL_turnMute 14 rfl) (by decide) ?_
    exact pw_ireturn (tk tkL_turnMute 15 rfl) rfl (by decide) rfl ⟨_, rfl, hy2, hc, by rw [e0], fun _ => (WV_t1 c7).symm⟩
  obtain ⟨y, rfl, hy, hc, ⟨_, e⟩ | ⟨k9, E9, hm, hk, e⟩⟩ := q
  · cases e
  · cases e
    simp only [List.mem_cons, Prod.mk.injEq, List.not_mem_nil, or_false] at hm
    obtain ⟨rfl, rfl⟩ := hm
    refine pt_catch [] (0, 16, 19, 21) [] (j := 3) (w := 1) (ls1 := [some (.ref 160), some (.int r), some (.ref 178), none]) rfl (fun z hz => by cases hz) ⟨by decide, by decide⟩ (by decide) ckL_21 caIOE (Or.inl ⟨3, rfl, rfl, (tk tkL_turnMute 11 rfl)⟩) (by decide) (nl_at (j := 2) rfl rfl) rfl ?_
    refine pw_iconst (v := 1) (tk tkL_turnMute 12 rfl) (by decide) ?_
    exact pw_ireturn (tk tkL_turnMute 13 rfl) rfl (by decide) rfl ⟨_, rfl, congrArg Prod.fst hy, hc, by rw [hk], fun q0 => absurd (hk.symm.trans q0) (by decide)⟩
set_option maxRecDepth 100000 in
set_option maxHeartbeats 4000000 in
theorem ct_L_setAction (x : XW) (hx : REL x) (r k ro c m : Int32) : CT ML_setAction 31 6 [.ref 160, .int r, .int k, .int ro, .int c, .int m, .ref 178] (hp x) (WQ false x (ssetAction (aOf x.2.1) r k ro c m)) := by
  refine ct_ofH (by decide +kernel) rfl (by decide) (k := 1) (ls := [some (.ref 160), some (.int r), some (.int k), some (.int ro), some (.int c), some (.int m), some (.ref 178), none]) rfl (Nat.le_of_ble_eq_true rfl) ?_
  refine pw_aload (tk tkL_setAction 0 rfl) rfl ?_
  refine pw_iconst (v := 0) (tk tkL_setAction 1 rfl) (by decide) ?_
  refine pw_aload_n (tk tkL_setAction 2 rfl) rfl ?_
  refine pw_iload_n (tk tkL_setAction 3 rfl) rfl ?_
  refine pw_iload_n (tk tkL_setAction 4 rfl) rfl ?_
  refine pw_iload_n (tk tkL_setAction 5 rfl) rfl ?_
  refine pw_iload (tk tkL_setAction 6 rfl) rfl ?_
  refine pw_iload (tk tkL_setAction 7 rfl) rfl ?_
  refine pw_callV (ct_X7_setAction x _ hx.1 hx.hg.1 r k ro c m) okX7_setAction (tk tkL_setAction 8 rfl) mkL_17 imX7_setAction seX7_setAction (hp_ot _ 0) rfl rfl rfl (by decide) (by decide) (Nat.le_of_ble_eq_true rfl) (fun r h2 q => ?_) (fun E h2 q => ?_)
  obtain ⟨y, rfl, hy, hc, e⟩ := q
  have hy2 : y.2.1 = x.2.1 := congrArg Prod.fst hy
  obtain ⟨e0, rfl⟩ := cq_l e
  refine pw_i2l (tk tkL_setAction 9 rfl) rfl ?_
  refine as_out_e (e := 0) (tk tkL_setAction 10 rfl) rfl (by first | decide | omega) ?_
  refine pw_goto (tgt := 27) (tk tkL_setAction 11 rfl) (by decide) ?_
  refine pw_iconst (v := 0) (tk tkL_setAction 18 rfl) (by decide) ?_
  exact pw_ireturn (tk tkL_setAction 19 rfl) rfl (by decide) rfl ⟨_, rfl, hy2, hc, by rw [e0], fun _ => rfl⟩
  obtain ⟨y, rfl, hy, hc, ⟨_, e⟩ | ⟨k9, E9, hm, hk, e⟩⟩ := q
  · cases e
  · cases e
    simp only [List.mem_cons, Prod.mk.injEq, List.not_mem_nil, or_false] at hm
    rcases hm with ⟨rfl, rfl⟩ | ⟨rfl, rfl⟩
    · refine pt_catch [] (0, 16, 19, 21) [(0, 16, 23, 13)] (j := 7) (w := 2) (ls1 := [some (.ref 160), some (.int r), some (.int k), some (.int ro), some (.int c), some (.int m), some (.ref 178), none]) rfl (fun z hz => by cases hz) ⟨by decide, by decide⟩ (by decide) ckL_21 caIOE (Or.inr ⟨rfl, (tk tkL_setAction 12 rfl)⟩) (by decide) (nl_at (j := 6) rfl rfl) rfl ?_
      refine pw_iconst (v := 1) (tk tkL_setAction 13 rfl) (by decide) ?_
      exact pw_ireturn (tk tkL_setAction 14 rfl) rfl (by decide) rfl ⟨_, rfl, congrArg Prod.fst hy, hc, by rw [hk], fun q0 => absurd (hk.symm.trans q0) (by decide)⟩
    · refine pt_catch [(0, 16, 19, 21)] (0, 16, 23, 13) [] (j := 7) (w := 2) (ls1 := [some (.ref 160), some (.int r), some (.int k), some (.int ro), some (.int c), some (.int m), some (.ref 178), none]) rfl (pass1 ⟨by decide, _, ckL_21, List.mem_of_getElem? (i := 1) rfl⟩) ⟨by decide, by decide⟩ (by decide) ckL_13 caIAE (Or.inr ⟨rfl, (tk tkL_setAction 15 rfl)⟩) (by decide) (nl_at (j := 6) rfl rfl) rfl ?_
      refine pw_iconst (v := 2) (tk tkL_setAction 16 rfl) (by decide) ?_
      exact pw_ireturn (tk tkL_setAction 17 rfl) rfl (by decide) rfl ⟨_, rfl, congrArg Prod.fst hy, hc, by rw [hk], fun q0 => absurd (hk.symm.trans q0) (by decide)⟩
set_option maxRecDepth 100000 in
set_option maxHeartbeats 4000000 in
theorem ct_L_addRule (x : XW) (hx : REL x) (e c l : Int32) : CT ML_addRule 31 6 [.ref 160, .int e, .int c, .int l, .ref 178] (hp x) (WQ false x (saddRule (aOf x.2.1) e c l)) := by
  refine ct_ofH (by decide +kernel) rfl (by decide) (k := 1) (ls := [some (.ref 160), some (.int e), some (.int c), some (.int l), some (.ref 178), none]) rfl (Nat.le_of_ble_eq_true rfl) ?_
  refine pw_aload (tk tkL_addRule 0 rfl) rfl ?_
  refine pw_iconst (v := 0) (tk tkL_addRule 1 rfl) (by decide) ?_
  refine pw_aload_n (tk tkL_addRule 2 rfl) rfl ?_
  refine pw_iload_n (tk tkL_addRule 3 rfl) rfl ?_
  refine pw_iload_n (tk tkL_addRule 4 rfl) rfl ?_
  refine pw_iload_n (tk tkL_addRule 5 rfl) rfl ?_
  refine pw_callV (ct_X7_addRule x _ hx.1 hx.hg.1 e c l) okX7_addRule (tk tkL_addRule 6 rfl) mkL_7 imX7_addRule seX7_addRule (hp_ot _ 0) rfl rfl rfl (by decide) (by decide) (Nat.le_of_ble_eq_true rfl) (fun r h2 q => ?_) (fun E h2 q => ?_)
  obtain ⟨y, rfl, hy, hc, e⟩ := q
  have hy2 : y.2.1 = x.2.1 := congrArg Prod.fst hy
  obtain ⟨e0, rfl⟩ := cq_l e
  refine pw_i2l (tk tkL_addRule 7 rfl) rfl ?_
  refine as_out_e (e := 0) (tk tkL_addRule 8 rfl) rfl (by first | decide | omega) ?_
  refine pw_goto (tgt := 23) (tk tkL_addRule 9 rfl) (by decide) ?_
  refine pw_iconst (v := 0) (tk tkL_addRule 16 rfl) (by decide) ?_
  exact pw_ireturn (tk tkL_addRule 17 rfl) rfl (by decide) rfl ⟨_, rfl, hy2, hc, by rw [e0], fun _ => rfl⟩
  obtain ⟨y, rfl, hy, hc, ⟨_, e⟩ | ⟨k9, E9, hm, hk, e⟩⟩ := q
  · cases e
  · cases e
    simp only [List.mem_cons, Prod.mk.injEq, List.not_mem_nil, or_false] at hm
    rcases hm with ⟨rfl, rfl⟩ | ⟨rfl, rfl⟩
    · refine pt_catch [] (0, 12, 15, 13) [(0, 12, 19, 15)] (j := 5) (w := 2) (ls1 := [some (.ref 160), some (.int e), some (.int c), some (.int l), some (.ref 178), none]) rfl (fun z hz => by cases hz) ⟨by decide, by decide⟩ (by decide) ckL_13 caIAE (Or.inr ⟨rfl, (tk tkL_addRule 10 rfl)⟩) (by decide) (nl_at (j := 4) rfl rfl) rfl ?_
      refine pw_iconst (v := 1) (tk tkL_addRule 11 rfl) (by decide) ?_
      exact pw_ireturn (tk tkL_addRule 12 rfl) rfl (by decide) rfl ⟨_, rfl, congrArg Prod.fst hy, hc, by rw [hk], fun q0 => absurd (hk.symm.trans q0) (by decide)⟩
    · refine pt_catch [(0, 12, 15, 13)] (0, 12, 19, 15) [] (j := 5) (w := 2) (ls1 := [some (.ref 160), some (.int e), some (.int c), some (.int l), some (.ref 178), none]) rfl (pass1 ⟨by decide, _, ckL_13, List.mem_of_getElem? (i := 2) rfl⟩) ⟨by decide, by decide⟩ (by decide) ckL_15 caISE (Or.inr ⟨rfl, (tk tkL_addRule 13 rfl)⟩) (by decide) (nl_at (j := 4) rfl rfl) rfl ?_
      refine pw_iconst (v := 2) (tk tkL_addRule 14 rfl) (by decide) ?_
      exact pw_ireturn (tk tkL_addRule 15 rfl) rfl (by decide) rfl ⟨_, rfl, congrArg Prod.fst hy, hc, by rw [hk], fun q0 => absurd (hk.symm.trans q0) (by decide)⟩
set_option maxRecDepth 100000 in
set_option maxHeartbeats 4000000 in
theorem ct_L_loadState (x : XW) (hx : REL x) (r : Int32) : CT ML_loadState 31 6 [.ref 160, .int r, .ref 178] (hp x) (WQ false x (sloadState (aOf x.2.1) r)) := by
  refine ct_ofH (by decide +kernel) rfl (by decide) (k := 1) (ls := [some (.ref 160), some (.int r), some (.ref 178), none]) rfl (Nat.le_of_ble_eq_true rfl) ?_
  refine pw_aload_n (tk tkL_loadState 0 rfl) rfl ?_
  refine pw_iconst (v := 0) (tk tkL_loadState 1 rfl) (by decide) ?_
  refine pw_aload_n (tk tkL_loadState 2 rfl) rfl ?_
  refine pw_iload_n (tk tkL_loadState 3 rfl) rfl ?_
  refine pw_callV (ct_X7_loadState x _ hx.1 hx.hg.1 hx.hg.2.1 r) okX7_loadState (tk tkL_loadState 4 rfl) mkL_102 imX7_loadState seX7_loadState (hp_ot _ 0) rfl rfl rfl (by decide) (by decide) (Nat.le_of_ble_eq_true rfl) (fun r h2 q => ?_) (fun E h2 q => ?_)
  obtain ⟨y, rfl, hy, hc, e⟩ := q
  have hy2 : y.2.1 = x.2.1 := congrArg Prod.fst hy
  obtain ⟨e0, rfl⟩ := cq_l e
  refine pw_i2l (tk tkL_loadState 5 rfl) rfl ?_
  refine as_out_e (e := 0) (tk tkL_loadState 6 rfl) rfl (by first | decide | omega) ?_
  refine pw_goto (tgt := 18) (tk tkL_loadState 7 rfl) (by decide) ?_
  refine pw_iconst (v := 0) (tk tkL_loadState 14 rfl) (by decide) ?_
  exact pw_ireturn (tk tkL_loadState 15 rfl) rfl (by decide) rfl ⟨_, rfl, hy2, hc, by rw [e0], fun _ => rfl⟩
  obtain ⟨y, rfl, hy, hc, ⟨_, e⟩ | ⟨k9, E9, hm, hk, e⟩⟩ := q
  · cases e
  · cases e
    simp only [List.mem_cons, Prod.mk.injEq, List.not_mem_nil, or_false] at hm
    rcases hm with ⟨rfl, rfl⟩ | ⟨rfl, rfl⟩
    · refine pt_catch [] (0, 9, 12, 21) [(0, 9, 15, 15)] (j := 3) (w := 1) (ls1 := [some (.ref 160), some (.int r), some (.ref 178), none]) rfl (fun z hz => by cases hz) ⟨by decide, by decide⟩ (by decide) ckL_21 caIOE (Or.inl ⟨3, rfl, rfl, (tk tkL_loadState 8 rfl)⟩) (by decide) (nl_at (j := 2) rfl rfl) rfl ?_
      refine pw_iconst (v := 1) (tk tkL_loadState 9 rfl) (by decide) ?_
      exact pw_ireturn (tk tkL_loadState 10 rfl) rfl (by decide) rfl ⟨_, rfl, congrArg Prod.fst hy, hc, by rw [hk], fun q0 => absurd (hk.symm.trans q0) (by decide)⟩
    · refine pt_catch [(0, 9, 12, 21)] (0, 9, 15, 15) [] (j := 3) (w := 1) (ls1 := [some (.ref 160), some (.int r), some (.ref 178), none]) rfl (pass1 ⟨by decide, _, ckL_21, List.mem_of_getElem? (i := 3) rfl⟩) ⟨by decide, by decide⟩ (by decide) ckL_15 caISE (Or.inl ⟨3, rfl, rfl, (tk tkL_loadState 11 rfl)⟩) (by decide) (nl_at (j := 2) rfl rfl) rfl ?_
      refine pw_iconst (v := 2) (tk tkL_loadState 12 rfl) (by decide) ?_
      exact pw_ireturn (tk tkL_loadState 13 rfl) rfl (by decide) rfl ⟨_, rfl, congrArg Prod.fst hy, hc, by rw [hk], fun q0 => absurd (hk.symm.trans q0) (by decide)⟩
set_option maxRecDepth 100000 in
set_option maxHeartbeats 4000000 in
theorem ct_L_saveState (x : XW) (hx : REL x) (r : Int32) : CT ML_saveState 31 6 [.ref 160, .int r, .ref 178] (hp x) (WQ false x (ssaveState (aOf x.2.1) r)) := by
  refine ct_ofH (by decide +kernel) rfl (by decide) (k := 1) (ls := [some (.ref 160), some (.int r), some (.ref 178), none]) rfl (Nat.le_of_ble_eq_true rfl) ?_
  refine pw_aload_n (tk tkL_saveState 0 rfl) rfl ?_
  refine pw_iconst (v := 0) (tk tkL_saveState 1 rfl) (by decide) ?_
  refine pw_aload_n (tk tkL_saveState 2 rfl) rfl ?_
  refine pw_iload_n (tk tkL_saveState 3 rfl) rfl ?_
  refine pw_callV (ct_X7_saveState x _ hx.1 hx.hg.1 r) okX7_saveState (tk tkL_saveState 4 rfl) mkL_99 imX7_saveState seX7_saveState (hp_ot _ 0) rfl rfl rfl (by decide) (by decide) (Nat.le_of_ble_eq_true rfl) (fun r h2 q => ?_) (fun E h2 q => ?_)
  obtain ⟨y, rfl, hy, hc, e⟩ := q
  have hy2 : y.2.1 = x.2.1 := congrArg Prod.fst hy
  obtain ⟨e0, rfl⟩ := cq_l e
  refine pw_i2l (tk tkL_saveState 5 rfl) rfl ?_
  refine as_out_e (e := 0) (tk tkL_saveState 6 rfl) rfl (by first | decide | omega) ?_
  refine pw_goto (tgt := 15) (tk tkL_saveState 7 rfl) (by decide) ?_
  refine pw_iconst (v := 0) (tk tkL_saveState 11 rfl) (by decide) ?_
  exact pw_ireturn (tk tkL_saveState 12 rfl) rfl (by decide) rfl ⟨_, rfl, hy2, hc, by rw [e0], fun _ => rfl⟩
  obtain ⟨y, rfl, hy, hc, ⟨_, e⟩ | ⟨k9, E9, hm, hk, e⟩⟩ := q
  · cases e
  · cases e
    simp only [List.mem_cons, Prod.mk.injEq, List.not_mem_nil, or_false] at hm
    obtain ⟨rfl, rfl⟩ := hm
    refine pt_catch [] (0, 9, 12, 21) [] (j := 3) (w := 1) (ls1 := [some (.ref 160), some (.int r), some (.ref 178), none]) rfl (fun z hz => by cases hz) ⟨by decide, by decide⟩ (by decide) ckL_21 caIOE (Or.inl ⟨3, rfl, rfl, (tk tkL_saveState 8 rfl)⟩) (by decide) (nl_at (j := 2) rfl rfl) rfl ?_
    refine pw_iconst (v := 1) (tk tkL_saveState 9 rfl) (by decide) ?_
    exact pw_ireturn (tk tkL_saveState 10 rfl) rfl (by decide) rfl ⟨_, rfl, congrArg Prod.fst hy, hc, by rw [hk], fun q0 => absurd (hk.symm.trans q0) (by decide)⟩
set_option maxRecDepth 100000 in
set_option maxHeartbeats 4000000 in
theorem ct_L_insert (x : XW) (hx : REL x) (r p q w : Int32) : CT ML_insert 31 6 [.ref 160, .int r, .int p, .int q, .int w, .ref 178] (hp x) (WQ false x (sinsert (aOf x.2.1) r p q w)) := by
  refine ct_ofH (by decide +kernel) rfl (by decide) (k := 1) (ls := [some (.ref 160), some (.int r), some (.int p), some (.int q), some (.int w), some (.ref 178), none]) rfl (Nat.le_of_ble_eq_true rfl) ?_
  refine pw_aload (tk tkL_insert 0 rfl) rfl ?_
  refine pw_iconst (v := 0) (tk tkL_insert 1 rfl) (by decide) ?_
  refine pw_aload_n (tk tkL_insert 2 rfl) rfl ?_
  refine pw_iload_n (tk tkL_insert 3 rfl) rfl ?_
  refine pw_iload_n (tk tkL_insert 4 rfl) rfl ?_
  refine pw_iload_n (tk tkL_insert 5 rfl) rfl ?_
  refine pw_iload (tk tkL_insert 6 rfl) rfl ?_
  refine pw_callV (ct_X7_insert x _ hx.1 hx.hg.1 r p q w) okX7_insert (tk tkL_insert 7 rfl) mkL_34 imX7_insert seX7_insert (hp_ot _ 0) rfl rfl rfl (by decide) (by decide) (Nat.le_of_ble_eq_true rfl) (fun r h2 q => ?_) (fun E h2 q => ?_)
  obtain ⟨y, rfl, hy, hc, e⟩ := q
  have hy2 : y.2.1 = x.2.1 := congrArg Prod.fst hy
  obtain ⟨e0, rfl⟩ := cq_l e
  refine pw_i2l (tk tkL_insert 8 rfl) rfl ?_
  refine as_out_e (e := 0) (tk tkL_insert 9 rfl) rfl (by first | decide | omega) ?_
  refine pw_goto (tgt := 29) (tk tkL_insert 10 rfl) (by decide) ?_
  refine pw_iconst (v := 0) (tk tkL_insert 20 rfl) (by decide) ?_
  exact pw_ireturn (tk tkL_insert 21 rfl) rfl (by decide) rfl ⟨_, rfl, hy2, hc, by rw [e0], fun _ => rfl⟩
  obtain ⟨y, rfl, hy, hc, ⟨_, e⟩ | ⟨k9, E9, hm, hk, e⟩⟩ := q
  · cases e
  · cases e
    simp only [List.mem_cons, Prod.mk.injEq, List.not_mem_nil, or_false] at hm
    rcases hm with ⟨rfl, rfl⟩ | ⟨rfl, rfl⟩ | ⟨rfl, rfl⟩
    · refine pt_catch [] (0, 14, 17, 21) [(0, 14, 21, 13), (0, 14, 25, 15)] (j := 6) (w := 2) (ls1 := [some (.ref 160), some (.int r), some (.int p), some (.int q), some (.int w), some (.ref 178), none]) rfl (fun z hz => by cases hz) ⟨by decide, by decide⟩ (by decide) ckL_21 caIOE (Or.inr ⟨rfl, (tk tkL_insert 11 rfl)⟩) (by decide) (nl_at (j := 5) rfl rfl) rfl ?_
      refine pw_iconst (v := 1) (tk tkL_insert 12 rfl) (by decide) ?_
      exact pw_ireturn (tk tkL_insert 13 rfl) rfl (by decide) rfl ⟨_, rfl, congrArg Prod.fst hy, hc, by rw [hk], fun q0 => absurd (hk.symm.trans q0) (by decide)⟩
    · refine pt_catch [(0, 14, 17, 21)] (0, 14, 21, 13) [(0, 14, 25, 15)] (j := 6) (w := 2) (ls1 := [some (.ref 160), some (.int r), some (.int p), some (.int q), some (.int w), some (.ref 178), none]) rfl (pass1 ⟨by decide, _, ckL_21, List.mem_of_getElem? (i := 1) rfl⟩) ⟨by decide, by decide⟩ (by decide) ckL_13 caIAE (Or.inr ⟨rfl, (tk tkL_insert 14 rfl)⟩) (by decide) (nl_at (j := 5) rfl rfl) rfl ?_
      refine pw_iconst (v := 2) (tk tkL_insert 15 rfl) (by decide) ?_
      exact pw_ireturn (tk tkL_insert 16 rfl) rfl (by decide) rfl ⟨_, rfl, congrArg Prod.fst hy, hc, by rw [hk], fun q0 => absurd (hk.symm.trans q0) (by decide)⟩
    · refine pt_catch [(0, 14, 17, 21), (0, 14, 21, 13)] (0, 14, 25, 15) [] (j := 6) (w := 2) (ls1 := [some (.ref 160), some (.int r), some (.int p), some (.int q), some (.int w), some (.ref 178), none]) rfl (pass2 ⟨by decide, _, ckL_21, List.mem_of_getElem? (i := 3) rfl⟩ ⟨by decide, _, ckL_13, List.mem_of_getElem? (i := 2) rfl⟩) ⟨by decide, by decide⟩ (by decide) ckL_15 caISE (Or.inr ⟨rfl, (tk tkL_insert 17 rfl)⟩) (by decide) (nl_at (j := 5) rfl rfl) rfl ?_
      refine pw_iconst (v := 3) (tk tkL_insert 18 rfl) (by decide) ?_
      exact pw_ireturn (tk tkL_insert 19 rfl) rfl (by decide) rfl ⟨_, rfl, congrArg Prod.fst hy, hc, by rw [hk], fun q0 => absurd (hk.symm.trans q0) (by decide)⟩
set_option maxRecDepth 100000 in
set_option maxHeartbeats 4000000 in
theorem ct_L_update (x : XW) (hx : REL x) (r c v : Int32) : CT ML_update 31 6 [.ref 160, .int r, .int c, .int v, .ref 178] (hp x) (WQ false x (supdate (aOf x.2.1) r c v)) := by
  refine ct_ofH (by decide +kernel) rfl (by decide) (k := 1) (ls := [some (.ref 160), some (.int r), some (.int c), some (.int v), some (.ref 178), none]) rfl (Nat.le_of_ble_eq_true rfl) ?_
  refine pw_aload (tk tkL_update 0 rfl) rfl ?_
  refine pw_iconst (v := 0) (tk tkL_update 1 rfl) (by decide) ?_
  refine pw_aload_n (tk tkL_update 2 rfl) rfl ?_
  refine pw_iload_n (tk tkL_update 3 rfl) rfl ?_
  refine pw_iload_n (tk tkL_update 4 rfl) rfl ?_
  refine pw_iload_n (tk tkL_update 5 rfl) rfl ?_
  refine pw_callV (ct_X7_update x _ hx.1 hx.hg.1 r c v) okX7_update (tk tkL_update 6 rfl) mkL_38 imX7_update seX7_update (hp_ot _ 0) rfl rfl rfl (by decide) (by decide) (Nat.le_of_ble_eq_true rfl) (fun r h2 q => ?_) (fun E h2 q => ?_)
  obtain ⟨y, rfl, hy, hc, e⟩ := q
  have hy2 : y.2.1 = x.2.1 := congrArg Prod.fst hy
  obtain ⟨e0, rfl⟩ := cq_l e
  refine pw_i2l (tk tkL_update 7 rfl) rfl ?_
  refine as_out_e (e := 0) (tk tkL_update 8 rfl) rfl (by first | decide | omega) ?_
  refine pw_goto (tgt := 27) (tk tkL_update 9 rfl) (by decide) ?_
  refine pw_iconst (v := 0) (tk tkL_update 19 rfl) (by decide) ?_
  exact pw_ireturn (tk tkL_update 20 rfl) rfl (by decide) rfl ⟨_, rfl, hy2, hc, by rw [e0], fun _ => rfl⟩
  obtain ⟨y, rfl, hy, hc, ⟨_, e⟩ | ⟨k9, E9, hm, hk, e⟩⟩ := q
  · cases e
  · cases e
    simp only [List.mem_cons, Prod.mk.injEq, List.not_mem_nil, or_false] at hm
    rcases hm with ⟨rfl, rfl⟩ | ⟨rfl, rfl⟩ | ⟨rfl, rfl⟩
    · refine pt_catch [] (0, 12, 15, 21) [(0, 12, 19, 13), (0, 12, 23, 15)] (j := 5) (w := 2) (ls1 := [some (.ref 160), some (.int r), some (.int c), some (.int v), some (.ref 178), none]) rfl (fun z hz => by cases hz) ⟨by decide, by decide⟩ (by decide) ckL_21 caIOE (Or.inr ⟨rfl, (tk tkL_update 10 rfl)⟩) (by decide) (nl_at (j := 4) rfl rfl) rfl ?_
      refine pw_iconst (v := 1) (tk tkL_update 11 rfl) (by decide) ?_
      exact pw_ireturn (tk tkL_update 12 rfl) rfl (by decide) rfl ⟨_, rfl, congrArg Prod.fst hy, hc, by rw [hk], fun q0 => absurd (hk.symm.trans q0) (by decide)⟩
    · refine pt_catch [(0, 12, 15, 21)] (0, 12, 19, 13) [(0, 12, 23, 15)] (j := 5) (w := 2) (ls1 := [some (.ref 160), some (.int r), some (.int c), some (.int v), some (.ref 178), none]) rfl (pass1 ⟨by decide, _, ckL_21, List.mem_of_getElem? (i := 1) rfl⟩) ⟨by decide, by decide⟩ (by decide) ckL_13 caIAE (Or.inr ⟨rfl, (tk tkL_update 13 rfl)⟩) (by decide) (nl_at (j := 4) rfl rfl) rfl ?_
      refine pw_iconst (v := 2) (tk tkL_update 14 rfl) (by decide) ?_
      exact pw_ireturn (tk tkL_update 15 rfl) rfl (by decide) rfl ⟨_, rfl, congrArg Prod.fst hy, hc, by rw [hk], fun q0 => absurd (hk.symm.trans q0) (by decide)⟩
    · refine pt_catch [(0, 12, 15, 21), (0, 12, 19, 13)] (0, 12, 23, 15) [] (j := 5) (w := 2) (ls1 := [some (.ref 160), some (.int r), some (.int c), some (.int v), some (.ref 178), none]) rfl (pass2 ⟨by decide, _, ckL_21, List.mem_of_getElem? (i := 3) rfl⟩ ⟨by decide, _, ckL_13, List.mem_of_getElem? (i := 2) rfl⟩) ⟨by decide, by decide⟩ (by decide) ckL_15 caISE (Or.inr ⟨rfl, (tk tkL_update 16 rfl)⟩) (by decide) (nl_at (j := 4) rfl rfl) rfl ?_
      refine pw_iconst (v := 3) (tk tkL_update 17 rfl) (by decide) ?_
      exact pw_ireturn (tk tkL_update 18 rfl) rfl (by decide) rfl ⟨_, rfl, congrArg Prod.fst hy, hc, by rw [hk], fun q0 => absurd (hk.symm.trans q0) (by decide)⟩
set_option maxRecDepth 100000 in
set_option maxHeartbeats 4000000 in
theorem ct_L_remove (x : XW) (hx : REL x) (r : Int32) : CT ML_remove 31 6 [.ref 160, .int r, .ref 178] (hp x) (WQ false x (sremove (aOf x.2.1) r)) := by
  refine ct_ofH (by decide +kernel) rfl (by decide) (k := 1) (ls := [some (.ref 160), some (.int r), some (.ref 178), none]) rfl (Nat.le_of_ble_eq_true rfl) ?_
  refine pw_aload_n (tk tkL_remove 0 rfl) rfl ?_
  refine pw_iconst (v := 0) (tk tkL_remove 1 rfl) (by decide) ?_
  refine pw_aload_n (tk tkL_remove 2 rfl) rfl ?_
  refine pw_iload_n (tk tkL_remove 3 rfl) rfl ?_
  refine pw_callV (ct_X7_remove x _ hx.1 hx.hg.1 r) okX7_remove (tk tkL_remove 4 rfl) mkL_41 imX7_remove seX7_remove (hp_ot _ 0) rfl rfl rfl (by decide) (by decide) (Nat.le_of_ble_eq_true rfl) (fun r h2 q => ?_) (fun E h2 q => ?_)
  obtain ⟨y, rfl, hy, hc, e⟩ := q
  have hy2 : y.2.1 = x.2.1 := congrArg Prod.fst hy
  obtain ⟨e0, rfl⟩ := cq_l e
  refine pw_i2l (tk tkL_remove 5 rfl) rfl ?_
  refine as_out_e (e := 0) (tk tkL_remove 6 rfl) rfl (by first | decide | omega) ?_
  refine pw_goto (tgt := 18) (tk tkL_remove 7 rfl) (by decide) ?_
  refine pw_iconst (v := 0) (tk tkL_remove 14 rfl) (by decide) ?_
  exact pw_ireturn (tk tkL_remove 15 rfl) rfl (by decide) rfl ⟨_, rfl, hy2, hc, by rw [e0], fun _ => rfl⟩
  obtain ⟨y, rfl, hy, hc, ⟨_, e⟩ | ⟨k9, E9, hm, hk, e⟩⟩ := q
  · cases e
  · cases e
    simp only [List.mem_cons, Prod.mk.injEq, List.not_mem_nil, or_false] at hm
    rcases hm with ⟨rfl, rfl⟩ | ⟨rfl, rfl⟩
    · refine pt_catch [] (0, 9, 12, 21) [(0, 9, 15, 15)] (j := 3) (w := 1) (ls1 := [some (.ref 160), some (.int r), some (.ref 178), none]) rfl (fun z hz => by cases hz) ⟨by decide, by decide⟩ (by decide) ckL_21 caIOE (Or.inl ⟨3, rfl, rfl, (tk tkL_remove 8 rfl)⟩) (by decide) (nl_at (j := 2) rfl rfl) rfl ?_
      refine pw_iconst (v := 1) (tk tkL_remove 9 rfl) (by decide) ?_
      exact pw_ireturn (tk tkL_remove 10 rfl) rfl (by decide) rfl ⟨_, rfl, congrArg Prod.fst hy, hc, by rw [hk], fun q0 => absurd (hk.symm.trans q0) (by decide)⟩
    · refine pt_catch [(0, 9, 12, 21)] (0, 9, 15, 15) [] (j := 3) (w := 1) (ls1 := [some (.ref 160), some (.int r), some (.ref 178), none]) rfl (pass1 ⟨by decide, _, ckL_21, List.mem_of_getElem? (i := 3) rfl⟩) ⟨by decide, by decide⟩ (by decide) ckL_15 caISE (Or.inl ⟨3, rfl, rfl, (tk tkL_remove 11 rfl)⟩) (by decide) (nl_at (j := 2) rfl rfl) rfl ?_
      refine pw_iconst (v := 2) (tk tkL_remove 12 rfl) (by decide) ?_
      exact pw_ireturn (tk tkL_remove 13 rfl) rfl (by decide) rfl ⟨_, rfl, congrArg Prod.fst hy, hc, by rw [hk], fun q0 => absurd (hk.symm.trans q0) (by decide)⟩
set_option maxRecDepth 100000 in
set_option maxHeartbeats 4000000 in
theorem ct_L_whyNotUpdate (x : XW) (hx : REL x) (r c v : Int32) : CT ML_whyNotUpdate 31 6 [.ref 160, .int r, .int c, .int v, .ref 178] (hp x) (WQ false x (swhyNotUpdate (aOf x.2.1) r c v)) := by
  refine ct_ofH (by decide +kernel) rfl (by decide) (k := 1) (ls := [some (.ref 160), some (.int r), some (.int c), some (.int v), some (.ref 178), none]) rfl (Nat.le_of_ble_eq_true rfl) ?_
  refine pw_aload (tk tkL_whyNotUpdate 0 rfl) rfl ?_
  refine pw_iconst (v := 0) (tk tkL_whyNotUpdate 1 rfl) (by decide) ?_
  refine pw_aload_n (tk tkL_whyNotUpdate 2 rfl) rfl ?_
  refine pw_iload_n (tk tkL_whyNotUpdate 3 rfl) rfl ?_
  refine pw_iload_n (tk tkL_whyNotUpdate 4 rfl) rfl ?_
  refine pw_iload_n (tk tkL_whyNotUpdate 5 rfl) rfl ?_
  refine pw_callV (ct_X7_whyNotUpdate x _ hx.1 hx.hg.1 r c v) okX7_whyNotUpdate (tk tkL_whyNotUpdate 6 rfl) mkL_44 imX7_whyNotUpdate seX7_whyNotUpdate (hp_ot _ 0) rfl rfl rfl (by decide) (by decide) (Nat.le_of_ble_eq_true rfl) (fun r h2 q => ?_) (fun E h2 q => ?_)
  obtain ⟨y, rfl, hy, hc, e⟩ := q
  have hy2 : y.2.1 = x.2.1 := congrArg Prod.fst hy
  obtain ⟨e0, rfl⟩ := cq_l e
  refine pw_i2l (tk tkL_whyNotUpdate 7 rfl) rfl ?_
  refine as_out_e (e := 0) (tk tkL_whyNotUpdate 8 rfl) rfl (by first | decide | omega) ?_
  refine pw_goto (tgt := 23) (tk tkL_whyNotUpdate 9 rfl) (by decide) ?_
  refine pw_iconst (v := 0) (tk tkL_whyNotUpdate 16 rfl) (by decide) ?_
  exact pw_ireturn (tk tkL_whyNotUpdate 17 rfl) rfl (by decide) rfl ⟨_, rfl, hy2, hc, by rw [e0], fun _ => rfl⟩
  obtain ⟨y, rfl, hy, hc, ⟨_, e⟩ | ⟨k9, E9, hm, hk, e⟩⟩ := q
  · cases e
  · cases e
    simp only [List.mem_cons, Prod.mk.injEq, List.not_mem_nil, or_false] at hm
    rcases hm with ⟨rfl, rfl⟩ | ⟨rfl, rfl⟩
    · refine pt_catch [] (0, 12, 15, 21) [(0, 12, 19, 13)] (j := 5) (w := 2) (ls1 := [some (.ref 160), some (.int r), some (.int c), some (.int v), some (.ref 178), none]) rfl (fun z hz => by cases hz) ⟨by decide, by decide⟩ (by decide) ckL_21 caIOE (Or.inr ⟨rfl, (tk tkL_whyNotUpdate 10 rfl)⟩) (by decide) (nl_at (j := 4) rfl rfl) rfl ?_
      refine pw_iconst (v := 1) (tk tkL_whyNotUpdate 11 rfl) (by decide) ?_
      exact pw_ireturn (tk tkL_whyNotUpdate 12 rfl) rfl (by decide) rfl ⟨_, rfl, congrArg Prod.fst hy, hc, by rw [hk], fun q0 => absurd (hk.symm.trans q0) (by decide)⟩
    · refine pt_catch [(0, 12, 15, 21)] (0, 12, 19, 13) [] (j := 5) (w := 2) (ls1 := [some (.ref 160), some (.int r), some (.int c), some (.int v), some (.ref 178), none]) rfl (pass1 ⟨by decide, _, ckL_21, List.mem_of_getElem? (i := 1) rfl⟩) ⟨by decide, by decide⟩ (by decide) ckL_13 caIAE (Or.inr ⟨rfl, (tk tkL_whyNotUpdate 13 rfl)⟩) (by decide) (nl_at (j := 4) rfl rfl) rfl ?_
      refine pw_iconst (v := 2) (tk tkL_whyNotUpdate 14 rfl) (by decide) ?_
      exact pw_ireturn (tk tkL_whyNotUpdate 15 rfl) rfl (by decide) rfl ⟨_, rfl, congrArg Prod.fst hy, hc, by rw [hk], fun q0 => absurd (hk.symm.trans q0) (by decide)⟩
set_option maxRecDepth 100000 in
set_option maxHeartbeats 4000000 in
theorem ct_L_eventsOfUpdate (x : XW) (hx : REL x) (r c v : Int32) : CT ML_eventsOfUpdate 31 6 [.ref 160, .int r, .int c, .int v, .ref 178] (hp x) (WQ false x (seventsOfUpdate (aOf x.2.1) r c v)) := by
  refine ct_ofH (by decide +kernel) rfl (by decide) (k := 1) (ls := [some (.ref 160), some (.int r), some (.int c), some (.int v), some (.ref 178), none]) rfl (Nat.le_of_ble_eq_true rfl) ?_
  refine pw_aload (tk tkL_eventsOfUpdate 0 rfl) rfl ?_
  refine pw_iconst (v := 0) (tk tkL_eventsOfUpdate 1 rfl) (by decide) ?_
  refine pw_aload_n (tk tkL_eventsOfUpdate 2 rfl) rfl ?_
  refine pw_iload_n (tk tkL_eventsOfUpdate 3 rfl) rfl ?_
  refine pw_iload_n (tk tkL_eventsOfUpdate 4 rfl) rfl ?_
  refine pw_iload_n (tk tkL_eventsOfUpdate 5 rfl) rfl ?_
  refine pw_callV (ct_X7_eventsOfUpdate x _ hx.1 hx.hg.1 r c v) okX7_eventsOfUpdate (tk tkL_eventsOfUpdate 6 rfl) mkL_47 imX7_eventsOfUpdate seX7_eventsOfUpdate (hp_ot _ 0) rfl rfl rfl (by decide) (by decide) (Nat.le_of_ble_eq_true rfl) (fun r h2 q => ?_) (fun E h2 q => ?_)
  obtain ⟨y, rfl, hy, hc, e⟩ := q
  have hy2 : y.2.1 = x.2.1 := congrArg Prod.fst hy
  obtain ⟨e0, rfl⟩ := cq_l e
  refine pw_i2l (tk tkL_eventsOfUpdate 7 rfl) rfl ?_
  refine as_out_e (e := 0) (tk tkL_eventsOfUpdate 8 rfl) rfl (by first | decide | omega) ?_
  refine pw_goto (tgt := 23) (tk tkL_eventsOfUpdate 9 rfl) (by decide) ?_
  refine pw_iconst (v := 0) (tk tkL_eventsOfUpdate 16 rfl) (by decide) ?_
  exact pw_ireturn (tk tkL_eventsOfUpdate 17 rfl) rfl (by decide) rfl ⟨_, rfl, hy2, hc, by rw [e0], fun _ => rfl⟩
  obtain ⟨y, rfl, hy, hc, ⟨_, e⟩ | ⟨k9, E9, hm, hk, e⟩⟩ := q
  · cases e
  · cases e
    simp only [List.mem_cons, Prod.mk.injEq, List.not_mem_nil, or_false] at hm
    rcases hm with ⟨rfl, rfl⟩ | ⟨rfl, rfl⟩
    · refine pt_catch [] (0, 12, 15, 21) [(0, 12, 19, 13)] (j := 5) (w := 2) (ls1 := [some (.ref 160), some (.int r), some (.int c), some (.int v), some (.ref 178), none]) rfl (fun z hz => by cases hz) ⟨by decide, by decide⟩ (by decide) ckL_21 caIOE (Or.inr ⟨rfl, (tk tkL_eventsOfUpdate 10 rfl)⟩) (by decide) (nl_at (j := 4) rfl rfl) rfl ?_
      refine pw_iconst (v := 1) (tk tkL_eventsOfUpdate 11 rfl) (by decide) ?_
      exact pw_ireturn (tk tkL_eventsOfUpdate 12 rfl) rfl (by decide) rfl ⟨_, rfl, congrArg Prod.fst hy, hc, by rw [hk], fun q0 => absurd (hk.symm.trans q0) (by decide)⟩
    · refine pt_catch [(0, 12, 15, 21)] (0, 12, 19, 13) [] (j := 5) (w := 2) (ls1 := [some (.ref 160), some (.int r), some (.int c), some (.int v), some (.ref 178), none]) rfl (pass1 ⟨by decide, _, ckL_21, List.mem_of_getElem? (i := 1) rfl⟩) ⟨by decide, by decide⟩ (by decide) ckL_13 caIAE (Or.inr ⟨rfl, (tk tkL_eventsOfUpdate 13 rfl)⟩) (by decide) (nl_at (j := 4) rfl rfl) rfl ?_
      refine pw_iconst (v := 2) (tk tkL_eventsOfUpdate 14 rfl) (by decide) ?_
      exact pw_ireturn (tk tkL_eventsOfUpdate 15 rfl) rfl (by decide) rfl ⟨_, rfl, congrArg Prod.fst hy, hc, by rw [hk], fun q0 => absurd (hk.symm.trans q0) (by decide)⟩
set_option maxRecDepth 100000 in
set_option maxHeartbeats 4000000 in
theorem ct_L_depthOfUpdate (x : XW) (hx : REL x) (r c v : Int32) : CT ML_depthOfUpdate 31 6 [.ref 160, .int r, .int c, .int v, .ref 178] (hp x) (WQ false x (sdepthOfUpdate (aOf x.2.1) r c v)) := by
  refine ct_ofH (by decide +kernel) rfl (by decide) (k := 1) (ls := [some (.ref 160), some (.int r), some (.int c), some (.int v), some (.ref 178), none]) rfl (Nat.le_of_ble_eq_true rfl) ?_
  refine pw_aload (tk tkL_depthOfUpdate 0 rfl) rfl ?_
  refine pw_iconst (v := 0) (tk tkL_depthOfUpdate 1 rfl) (by decide) ?_
  refine pw_aload_n (tk tkL_depthOfUpdate 2 rfl) rfl ?_
  refine pw_iload_n (tk tkL_depthOfUpdate 3 rfl) rfl ?_
  refine pw_iload_n (tk tkL_depthOfUpdate 4 rfl) rfl ?_
  refine pw_iload_n (tk tkL_depthOfUpdate 5 rfl) rfl ?_
  refine pw_callV (ct_X7_depthOfUpdate x _ hx.1 hx.hg.1 r c v) okX7_depthOfUpdate (tk tkL_depthOfUpdate 6 rfl) mkL_50 imX7_depthOfUpdate seX7_depthOfUpdate (hp_ot _ 0) rfl rfl rfl (by decide) (by decide) (Nat.le_of_ble_eq_true rfl) (fun r h2 q => ?_) (fun E h2 q => ?_)
  obtain ⟨y, rfl, hy, hc, e⟩ := q
  have hy2 : y.2.1 = x.2.1 := congrArg Prod.fst hy
  obtain ⟨e0, rfl⟩ := cq_l e
  refine pw_i2l (tk tkL_depthOfUpdate 7 rfl) rfl ?_
  refine as_out_e (e := 0) (tk tkL_depthOfUpdate 8 rfl) rfl (by first | decide | omega) ?_
  refine pw_goto (tgt := 23) (tk tkL_depthOfUpdate 9 rfl) (by decide) ?_
  refine pw_iconst (v := 0) (tk tkL_depthOfUpdate 16 rfl) (by decide) ?_
  exact pw_ireturn (tk tkL_depthOfUpdate 17 rfl) rfl (by decide) rfl ⟨_, rfl, hy2, hc, by rw [e0], fun _ => rfl⟩
  obtain ⟨y, rfl, hy, hc, ⟨_, e⟩ | ⟨k9, E9, hm, hk, e⟩⟩ := q
  · cases e
  · cases e
    simp only [List.mem_cons, Prod.mk.injEq, List.not_mem_nil, or_false] at hm
    rcases hm with ⟨rfl, rfl⟩ | ⟨rfl, rfl⟩
    · refine pt_catch [] (0, 12, 15, 21) [(0, 12, 19, 13)] (j := 5) (w := 2) (ls1 := [some (.ref 160), some (.int r), some (.int c), some (.int v), some (.ref 178), none]) rfl (fun z hz => by cases hz) ⟨by decide, by decide⟩ (by decide) ckL_21 caIOE (Or.inr ⟨rfl, (tk tkL_depthOfUpdate 10 rfl)⟩) (by decide) (nl_at (j := 4) rfl rfl) rfl ?_
      refine pw_iconst (v := 1) (tk tkL_depthOfUpdate 11 rfl) (by decide) ?_
      exact pw_ireturn (tk tkL_depthOfUpdate 12 rfl) rfl (by decide) rfl ⟨_, rfl, congrArg Prod.fst hy, hc, by rw [hk], fun q0 => absurd (hk.symm.trans q0) (by decide)⟩
    · refine pt_catch [(0, 12, 15, 21)] (0, 12, 19, 13) [] (j := 5) (w := 2) (ls1 := [some (.ref 160), some (.int r), some (.int c), some (.int v), some (.ref 178), none]) rfl (pass1 ⟨by decide, _, ckL_21, List.mem_of_getElem? (i := 1) rfl⟩) ⟨by decide, by decide⟩ (by decide) ckL_13 caIAE (Or.inr ⟨rfl, (tk tkL_depthOfUpdate 13 rfl)⟩) (by decide) (nl_at (j := 4) rfl rfl) rfl ?_
      refine pw_iconst (v := 2) (tk tkL_depthOfUpdate 14 rfl) (by decide) ?_
      exact pw_ireturn (tk tkL_depthOfUpdate 15 rfl) rfl (by decide) rfl ⟨_, rfl, congrArg Prod.fst hy, hc, by rw [hk], fun q0 => absurd (hk.symm.trans q0) (by decide)⟩
set_option maxRecDepth 100000 in
set_option maxHeartbeats 4000000 in
theorem ct_L_sumOf (x : XW) (hx : REL x) (c : Int32) : CT ML_sumOf 31 6 [.ref 160, .int c, .ref 178] (hp x) (WQ false x (ssumOf (aOf x.2.1) c)) := by
  refine ct_ofH (by decide +kernel) rfl (by decide) (k := 1) (ls := [some (.ref 160), some (.int c), some (.ref 178), none]) rfl (Nat.le_of_ble_eq_true rfl) ?_
  refine pw_aload_n (tk tkL_sumOf 0 rfl) rfl ?_
  refine pw_iconst (v := 0) (tk tkL_sumOf 1 rfl) (by decide) ?_
  refine pw_aload_n (tk tkL_sumOf 2 rfl) rfl ?_
  refine pw_iload_n (tk tkL_sumOf 3 rfl) rfl ?_
  refine pw_callV (ct_X7_sumOf x _ hx.1 hx.hg.1 c) okX7_sumOf (tk tkL_sumOf 4 rfl) mkL_60 imX7_sumOf seX7_sumOf (hp_ot _ 0) rfl rfl rfl (by decide) (by decide) (Nat.le_of_ble_eq_true rfl) (fun r h2 q => ?_) (fun E h2 q => ?_)
  obtain ⟨y, rfl, hy, hc, e⟩ := q
  have hy2 : y.2.1 = x.2.1 := congrArg Prod.fst hy
  obtain ⟨e0, rfl⟩ := cq_l e
  refine pw_i2l (tk tkL_sumOf 5 rfl) rfl ?_
  refine as_out_e (e := 0) (tk tkL_sumOf 6 rfl) rfl (by first | decide | omega) ?_
  refine pw_goto (tgt := 15) (tk tkL_sumOf 7 rfl) (by decide) ?_
  refine pw_iconst (v := 0) (tk tkL_sumOf 11 rfl) (by decide) ?_
  exact pw_ireturn (tk tkL_sumOf 12 rfl) rfl (by decide) rfl ⟨_, rfl, hy2, hc, by rw [e0], fun _ => rfl⟩
  obtain ⟨y, rfl, hy, hc, ⟨_, e⟩ | ⟨k9, E9, hm, hk, e⟩⟩ := q
  · cases e
  · cases e
    simp only [List.mem_cons, Prod.mk.injEq, List.not_mem_nil, or_false] at hm
    obtain ⟨rfl, rfl⟩ := hm
    refine pt_catch [] (0, 9, 12, 21) [] (j := 3) (w := 1) (ls1 := [some (.ref 160), some (.int c), some (.ref 178), none]) rfl (fun z hz => by cases hz) ⟨by decide, by decide⟩ (by decide) ckL_21 caIOE (Or.inl ⟨3, rfl, rfl, (tk tkL_sumOf 8 rfl)⟩) (by decide) (nl_at (j := 2) rfl rfl) rfl ?_
    refine pw_iconst (v := 1) (tk tkL_sumOf 9 rfl) (by decide) ?_
    exact pw_ireturn (tk tkL_sumOf 10 rfl) rfl (by decide) rfl ⟨_, rfl, congrArg Prod.fst hy, hc, by rw [hk], fun q0 => absurd (hk.symm.trans q0) (by decide)⟩
set_option maxRecDepth 100000 in
set_option maxHeartbeats 4000000 in
theorem ct_L_canSetOff (x : XW) (hx : REL x) (r q : Int32) : CT ML_canSetOff 31 6 [.ref 160, .int r, .int q, .ref 178] (hp x) (WQ true x (scanSetOff (aOf x.2.1) r q)) := by
  refine ct_ofH (by decide +kernel) rfl (by decide) (k := 1) (ls := [some (.ref 160), some (.int r), some (.int q), some (.ref 178), none]) rfl (Nat.le_of_ble_eq_true rfl) ?_
  refine pw_aload_n (tk tkL_canSetOff 0 rfl) rfl ?_
  refine pw_iconst (v := 0) (tk tkL_canSetOff 1 rfl) (by decide) ?_
  refine pw_aload_n (tk tkL_canSetOff 2 rfl) rfl ?_
  refine pw_iload_n (tk tkL_canSetOff 3 rfl) rfl ?_
  refine pw_iload_n (tk tkL_canSetOff 4 rfl) rfl ?_
  refine pw_callV (ct_X7_canSetOff x _ hx.1 hx.hg.1 r q) okX7_canSetOff (tk tkL_canSetOff 5 rfl) mkL_78 imX7_canSetOff seX7_canSetOff (hp_ot _ 0) rfl rfl rfl (by decide) (by decide) (Nat.le_of_ble_eq_true rfl) (fun r h2 q => ?_) (fun E h2 q => ?_)
  obtain ⟨y, rfl, hy, hc, e⟩ := q
  have hy2 : y.2.1 = x.2.1 := congrArg Prod.fst hy
  obtain ⟨e0, rfl⟩ := cq_l e
  refine pw_if_eq (tgt := 15) (tk tkL_canSetOff 6 rfl) (by decide) (fun c8 => ?_) (fun c8 => ?_)
  · refine pw_lconst (v := 0) (tk tkL_canSetOff 9 rfl) (by decide) ?_
    refine as_out_e (e := 0) (tk tkL_canSetOff 10 rfl) rfl (by first | decide | omega) ?_
    refine pw_goto (tgt := 24) (tk tkL_canSetOff 11 rfl) (by decide) ?_
    refine pw_iconst (v := 0) (tk tkL_canSetOff 15 rfl) (by decide) ?_
    exact pw_ireturn (tk tkL_canSetOff 16 rfl) rfl (by decide) rfl ⟨_, rfl, hy2, hc, by rw [e0], fun _ => (WV_t0 c8).symm⟩
  · refine pw_lconst (v := 1) (tk tkL_canSetOff 7 rfl) (by decide) ?_
    refine pw_goto (tgt := 16) (tk tkL_canSetOff 8 rfl) (by decide) ?_
    refine as_out_e (e := 0) (tk tkL_canSetOff 10 rfl) rfl (by first | decide | omega) ?_
    refine pw_goto (tgt := 24) (tk tkL_canSetOff 11 rfl) (by decide) ?_
    refine pw_iconst (v := 0) (tk tkL_canSetOff 15 rfl) (by decide) ?_
    exact pw_ireturn (tk tkL_canSetOff 16 rfl) rfl (by decide) rfl ⟨_, rfl, hy2, hc, by rw [e0], fun _ => (WV_t1 c8).symm⟩
  obtain ⟨y, rfl, hy, hc, ⟨_, e⟩ | ⟨k9, E9, hm, hk, e⟩⟩ := q
  · cases e
  · cases e
    simp only [List.mem_cons, Prod.mk.injEq, List.not_mem_nil, or_false] at hm
    obtain ⟨rfl, rfl⟩ := hm
    refine pt_catch [] (0, 17, 20, 21) [] (j := 4) (w := 2) (ls1 := [some (.ref 160), some (.int r), some (.int q), some (.ref 178), none]) rfl (fun z hz => by cases hz) ⟨by decide, by decide⟩ (by decide) ckL_21 caIOE (Or.inr ⟨rfl, (tk tkL_canSetOff 12 rfl)⟩) (by decide) (nl_at (j := 3) rfl rfl) rfl ?_
    refine pw_iconst (v := 1) (tk tkL_canSetOff 13 rfl) (by decide) ?_
    exact pw_ireturn (tk tkL_canSetOff 14 rfl) rfl (by decide) rfl ⟨_, rfl, congrArg Prod.fst hy, hc, by rw [hk], fun q0 => absurd (hk.symm.trans q0) (by decide)⟩
set_option maxRecDepth 100000 in
set_option maxHeartbeats 4000000 in
theorem ct_L_reachOf (x : XW) (hx : REL x) (r : Int32) : CT ML_reachOf 31 6 [.ref 160, .int r, .ref 178] (hp x) (WQ false x (sreachOf (aOf x.2.1) r)) := by
  refine ct_ofH (by decide +kernel) rfl (by decide) (k := 1) (ls := [some (.ref 160), some (.int r), some (.ref 178), none]) rfl (Nat.le_of_ble_eq_true rfl) ?_
  refine pw_aload_n (tk tkL_reachOf 0 rfl) rfl ?_
  refine pw_iconst (v := 0) (tk tkL_reachOf 1 rfl) (by decide) ?_
  refine pw_aload_n (tk tkL_reachOf 2 rfl) rfl ?_
  refine pw_iload_n (tk tkL_reachOf 3 rfl) rfl ?_
  refine pw_callV (ct_X7_reachOf x _ hx.1 hx.hg.1 r) okX7_reachOf (tk tkL_reachOf 4 rfl) mkL_82 imX7_reachOf seX7_reachOf (hp_ot _ 0) rfl rfl rfl (by decide) (by decide) (Nat.le_of_ble_eq_true rfl) (fun r h2 q => ?_) (fun E h2 q => ?_)
  obtain ⟨y, rfl, hy, hc, e⟩ := q
  have hy2 : y.2.1 = x.2.1 := congrArg Prod.fst hy
  obtain ⟨e0, rfl⟩ := cq_l e
  refine pw_i2l (tk tkL_reachOf 5 rfl) rfl ?_
  refine as_out_e (e := 0) (tk tkL_reachOf 6 rfl) rfl (by first | decide | omega) ?_
  refine pw_goto (tgt := 15) (tk tkL_reachOf 7 rfl) (by decide) ?_
  refine pw_iconst (v := 0) (tk tkL_reachOf 11 rfl) (by decide) ?_
  exact pw_ireturn (tk tkL_reachOf 12 rfl) rfl (by decide) rfl ⟨_, rfl, hy2, hc, by rw [e0], fun _ => rfl⟩
  obtain ⟨y, rfl, hy, hc, ⟨_, e⟩ | ⟨k9, E9, hm, hk, e⟩⟩ := q
  · cases e
  · cases e
    simp only [List.mem_cons, Prod.mk.injEq, List.not_mem_nil, or_false] at hm
    obtain ⟨rfl, rfl⟩ := hm
    refine pt_catch [] (0, 9, 12, 21) [] (j := 3) (w := 1) (ls1 := [some (.ref 160), some (.int r), some (.ref 178), none]) rfl (fun z hz => by cases hz) ⟨by decide, by decide⟩ (by decide) ckL_21 caIOE (Or.inl ⟨3, rfl, rfl, (tk tkL_reachOf 8 rfl)⟩) (by decide) (nl_at (j := 2) rfl rfl) rfl ?_
    refine pw_iconst (v := 1) (tk tkL_reachOf 9 rfl) (by decide) ?_
    exact pw_ireturn (tk tkL_reachOf 10 rfl) rfl (by decide) rfl ⟨_, rfl, congrArg Prod.fst hy, hc, by rw [hk], fun q0 => absurd (hk.symm.trans q0) (by decide)⟩
set_option maxRecDepth 100000 in
set_option maxHeartbeats 4000000 in
theorem ct_L_reachByTable (x : XW) (hx : REL x) (r : Int32) : CT ML_reachByTable 31 6 [.ref 160, .int r, .ref 178] (hp x) (WQ false x (sreachByTable (aOf x.2.1) r)) := by
  refine ct_ofH (by decide +kernel) rfl (by decide) (k := 1) (ls := [some (.ref 160), some (.int r), some (.ref 178), none]) rfl (Nat.le_of_ble_eq_true rfl) ?_
  refine pw_aload_n (tk tkL_reachByTable 0 rfl) rfl ?_
  refine pw_iconst (v := 0) (tk tkL_reachByTable 1 rfl) (by decide) ?_
  refine pw_aload_n (tk tkL_reachByTable 2 rfl) rfl ?_
  refine pw_iload_n (tk tkL_reachByTable 3 rfl) rfl ?_
  refine pw_callV (ct_X7_reachByTable x _ hx.1 hx.hg.1 r) okX7_reachByTable (tk tkL_reachByTable 4 rfl) mkL_85 imX7_reachByTable seX7_reachByTable (hp_ot _ 0) rfl rfl rfl (by decide) (by decide) (Nat.le_of_ble_eq_true rfl) (fun r h2 q => ?_) (fun E h2 q => ?_)
  obtain ⟨y, rfl, hy, hc, e⟩ := q
  have hy2 : y.2.1 = x.2.1 := congrArg Prod.fst hy
  obtain ⟨e0, rfl⟩ := cq_l e
  refine pw_i2l (tk tkL_reachByTable 5 rfl) rfl ?_
  refine as_out_e (e := 0) (tk tkL_reachByTable 6 rfl) rfl (by first | decide | omega) ?_
  refine pw_goto (tgt := 15) (tk tkL_reachByTable 7 rfl) (by decide) ?_
  refine pw_iconst (v := 0) (tk tkL_reachByTable 11 rfl) (by decide) ?_
  exact pw_ireturn (tk tkL_reachByTable 12 rfl) rfl (by decide) rfl ⟨_, rfl, hy2, hc, by rw [e0], fun _ => rfl⟩
  obtain ⟨y, rfl, hy, hc, ⟨_, e⟩ | ⟨k9, E9, hm, hk, e⟩⟩ := q
  · cases e
  · cases e
    simp only [List.mem_cons, Prod.mk.injEq, List.not_mem_nil, or_false] at hm
    obtain ⟨rfl, rfl⟩ := hm
    refine pt_catch [] (0, 9, 12, 21) [] (j := 3) (w := 1) (ls1 := [some (.ref 160), some (.int r), some (.ref 178), none]) rfl (fun z hz => by cases hz) ⟨by decide, by decide⟩ (by decide) ckL_21 caIOE (Or.inl ⟨3, rfl, rfl, (tk tkL_reachByTable 8 rfl)⟩) (by decide) (nl_at (j := 2) rfl rfl) rfl ?_
    refine pw_iconst (v := 1) (tk tkL_reachByTable 9 rfl) (by decide) ?_
    exact pw_ireturn (tk tkL_reachByTable 10 rfl) rfl (by decide) rfl ⟨_, rfl, congrArg Prod.fst hy, hc, by rw [hk], fun q0 => absurd (hk.symm.trans q0) (by decide)⟩
set_option maxRecDepth 100000 in
set_option maxHeartbeats 4000000 in
theorem ct_L_dropRule (x : XW) (hx : REL x) (r : Int32) : CT ML_dropRule 31 6 [.ref 160, .int r, .ref 178] (hp x) (WQ false x (sdropRule (aOf x.2.1) r)) := by
  refine ct_ofH (by decide +kernel) rfl (by decide) (k := 1) (ls := [some (.ref 160), some (.int r), some (.ref 178), none]) rfl (Nat.le_of_ble_eq_true rfl) ?_
  refine pw_aload_n (tk tkL_dropRule 0 rfl) rfl ?_
  refine pw_iconst (v := 0) (tk tkL_dropRule 1 rfl) (by decide) ?_
  refine pw_aload_n (tk tkL_dropRule 2 rfl) rfl ?_
  refine pw_iload_n (tk tkL_dropRule 3 rfl) rfl ?_
  refine pw_callV (ct_X7_dropRule x _ hx.1 hx.hg.1 r) okX7_dropRule (tk tkL_dropRule 4 rfl) mkL_27 imX7_dropRule seX7_dropRule (hp_ot _ 0) rfl rfl rfl (by decide) (by decide) (Nat.le_of_ble_eq_true rfl) (fun r h2 q => ?_) (fun E h2 q => ?_)
  obtain ⟨y, rfl, hy, hc, e⟩ := q
  have hy2 : y.2.1 = x.2.1 := congrArg Prod.fst hy
  obtain ⟨e0, rfl⟩ := cq_l e
  refine pw_i2l (tk tkL_dropRule 5 rfl) rfl ?_
  refine as_out_e (e := 0) (tk tkL_dropRule 6 rfl) rfl (by first | decide | omega) ?_
  refine pw_goto (tgt := 15) (tk tkL_dropRule 7 rfl) (by decide) ?_
  refine pw_iconst (v := 0) (tk tkL_dropRule 11 rfl) (by decide) ?_
  exact pw_ireturn (tk tkL_dropRule 12 rfl) rfl (by decide) rfl ⟨_, rfl, hy2, hc, by rw [e0], fun _ => rfl⟩
  obtain ⟨y, rfl, hy, hc, ⟨_, e⟩ | ⟨k9, E9, hm, hk, e⟩⟩ := q
  · cases e
  · cases e
    simp only [List.mem_cons, Prod.mk.injEq, List.not_mem_nil, or_false] at hm
    obtain ⟨rfl, rfl⟩ := hm
    refine pt_catch [] (0, 9, 12, 21) [] (j := 3) (w := 1) (ls1 := [some (.ref 160), some (.int r), some (.ref 178), none]) rfl (fun z hz => by cases hz) ⟨by decide, by decide⟩ (by decide) ckL_21 caIOE (Or.inl ⟨3, rfl, rfl, (tk tkL_dropRule 8 rfl)⟩) (by decide) (nl_at (j := 2) rfl rfl) rfl ?_
    refine pw_iconst (v := 1) (tk tkL_dropRule 9 rfl) (by decide) ?_
    exact pw_ireturn (tk tkL_dropRule 10 rfl) rfl (by decide) rfl ⟨_, rfl, congrArg Prod.fst hy, hc, by rw [hk], fun q0 => absurd (hk.symm.trans q0) (by decide)⟩
set_option maxRecDepth 100000 in
set_option maxHeartbeats 4000000 in
theorem ct_L_undo (x : XW) (hx : REL x) : CT ML_undo 31 6 [.ref 160, .ref 178] (hp x) (WQ false x (sundo (aOf x.2.1) )) := by
  refine ct_ofH (by decide +kernel) rfl (by decide) (k := 1) (ls := [some (.ref 160), some (.ref 178), none]) rfl (Nat.le_of_ble_eq_true rfl) ?_
  refine pw_aload_n (tk tkL_undo 0 rfl) rfl ?_
  refine pw_iconst (v := 0) (tk tkL_undo 1 rfl) (by decide) ?_
  refine pw_aload_n (tk tkL_undo 2 rfl) rfl ?_
  refine pw_callV (ct_X7_undo x _ hx.1 hx.hg.1 hx.hg.2.1) okX7_undo (tk tkL_undo 3 rfl) mkL_96 imX7_undo seX7_undo (hp_ot _ 0) rfl rfl rfl (by decide) (by decide) (Nat.le_of_ble_eq_true rfl) (fun r h2 q => ?_) (fun E h2 q => ?_)
  obtain ⟨y, rfl, hy, hc, e⟩ := q
  have hy2 : y.2.1 = x.2.1 := congrArg Prod.fst hy
  obtain ⟨e0, rfl⟩ := cq_l e
  refine pw_i2l (tk tkL_undo 4 rfl) rfl ?_
  refine as_out_e (e := 0) (tk tkL_undo 5 rfl) rfl (by first | decide | omega) ?_
  refine pw_goto (tgt := 14) (tk tkL_undo 6 rfl) (by decide) ?_
  refine pw_iconst (v := 0) (tk tkL_undo 10 rfl) (by decide) ?_
  exact pw_ireturn (tk tkL_undo 11 rfl) rfl (by decide) rfl ⟨_, rfl, hy2, hc, by rw [e0], fun _ => rfl⟩
  obtain ⟨y, rfl, hy, hc, ⟨_, e⟩ | ⟨k9, E9, hm, hk, e⟩⟩ := q
  · cases e
  · cases e
    simp only [List.mem_cons, Prod.mk.injEq, List.not_mem_nil, or_false] at hm
    obtain ⟨rfl, rfl⟩ := hm
    refine pt_catch [] (0, 8, 11, 15) [] (j := 2) (w := 1) (ls1 := [some (.ref 160), some (.ref 178), none]) rfl (fun z hz => by cases hz) ⟨by decide, by decide⟩ (by decide) ckL_15 caISE (Or.inl ⟨2, rfl, rfl, (tk tkL_undo 7 rfl)⟩) (by decide) (nl_at (j := 1) rfl rfl) rfl ?_
    refine pw_iconst (v := 1) (tk tkL_undo 8 rfl) (by decide) ?_
    exact pw_ireturn (tk tkL_undo 9 rfl) rfl (by decide) rfl ⟨_, rfl, congrArg Prod.fst hy, hc, by rw [hk], fun q0 => absurd (hk.symm.trans q0) (by decide)⟩
set_option maxRecDepth 100000 in
set_option maxHeartbeats 4000000 in
theorem ct_L_runText (x : XW) (hx : REL x) : CT ML_runText 31 6 [.ref 160, .ref 178] (hp x) (WQ false x (srunText (aOf x.2.1) )) := by
  refine ct_ofH (by decide +kernel) rfl (by decide) (k := 1) (ls := [some (.ref 160), some (.ref 178), none]) rfl (Nat.le_of_ble_eq_true rfl) ?_
  refine pw_aload_n (tk tkL_runText 0 rfl) rfl ?_
  refine pw_iconst (v := 0) (tk tkL_runText 1 rfl) (by decide) ?_
  refine pw_aload_n (tk tkL_runText 2 rfl) rfl ?_
  refine pw_callV (ct_X7_runText x _ hx.1 hx.hg.1 hx.hg.2.2) okX7_runText (tk tkL_runText 3 rfl) mkL_92 imX7_runText seX7_runText (hp_ot _ 0) rfl rfl rfl (by decide) (by decide) (Nat.le_of_ble_eq_true rfl) (fun r h2 q => ?_) (fun E h2 q => ?_)
  obtain ⟨y, rfl, hy, hc, e⟩ := q
  have hy2 : y.2.1 = x.2.1 := congrArg Prod.fst hy
  obtain ⟨e0, rfl⟩ := cq_l e
  refine pw_i2l (tk tkL_runText 4 rfl) rfl ?_
  refine as_out_e (e := 0) (tk tkL_runText 5 rfl) rfl (by first | decide | omega) ?_
  refine pw_goto (tgt := 14) (tk tkL_runText 6 rfl) (by decide) ?_
  refine pw_iconst (v := 0) (tk tkL_runText 10 rfl) (by decide) ?_
  exact pw_ireturn (tk tkL_runText 11 rfl) rfl (by decide) rfl ⟨_, rfl, hy2, hc, by rw [e0], fun _ => rfl⟩
  obtain ⟨y, rfl, hy, hc, ⟨_, e⟩ | ⟨k9, E9, hm, hk, e⟩⟩ := q
  · cases e
  · cases e
    simp only [List.mem_cons, Prod.mk.injEq, List.not_mem_nil, or_false] at hm
    obtain ⟨rfl, rfl⟩ := hm
    refine pt_catch [] (0, 8, 11, 15) [] (j := 2) (w := 1) (ls1 := [some (.ref 160), some (.ref 178), none]) rfl (fun z hz => by cases hz) ⟨by decide, by decide⟩ (by decide) ckL_15 caISE (Or.inl ⟨2, rfl, rfl, (tk tkL_runText 7 rfl)⟩) (by decide) (nl_at (j := 1) rfl rfl) rfl ?_
    refine pw_iconst (v := 1) (tk tkL_runText 8 rfl) (by decide) ?_
    exact pw_ireturn (tk tkL_runText 9 rfl) rfl (by decide) rfl ⟨_, rfl, congrArg Prod.fst hy, hc, by rw [hk], fun q0 => absurd (hk.symm.trans q0) (by decide)⟩
set_option maxRecDepth 100000 in
set_option maxHeartbeats 4000000 in
theorem ct_L_appendText (x : XW) (hx : REL x) (j : Int64) : CT ML_appendText 31 6 [.ref 160, .long j, .ref 178] (hp x) (WQ false x (sappendText (aOf x.2.1) j)) := by
  refine ct_ofH (by decide +kernel) rfl (by decide) (k := 1) (ls := [some (.ref 160), some (.long j), none, some (.ref 178), none]) rfl (Nat.le_of_ble_eq_true rfl) ?_
  refine pw_aload_n (tk tkL_appendText 0 rfl) rfl ?_
  refine pw_iconst (v := 0) (tk tkL_appendText 1 rfl) (by decide) ?_
  refine pw_aload_n (tk tkL_appendText 2 rfl) rfl ?_
  refine pw_lload_n (tk tkL_appendText 3 rfl) rfl ?_
  refine pw_callV (ct_X7_appendText x _ hx.1 hx.hg.1 j) okX7_appendText (tk tkL_appendText 4 rfl) mkL_88 imX7_appendText seX7_appendText (hp_ot _ 0) rfl rfl rfl (by decide) (by decide) (Nat.le_of_ble_eq_true rfl) (fun r h2 q => ?_) (fun E h2 q => ?_)
  obtain ⟨y, rfl, hy, hc, e⟩ := q
  have hy2 : y.2.1 = x.2.1 := congrArg Prod.fst hy
  obtain ⟨e0, rfl⟩ := cq_l e
  refine pw_i2l (tk tkL_appendText 5 rfl) rfl ?_
  refine as_out_e (e := 0) (tk tkL_appendText 6 rfl) rfl (by first | decide | omega) ?_
  refine pw_goto (tgt := 20) (tk tkL_appendText 7 rfl) (by decide) ?_
  refine pw_iconst (v := 0) (tk tkL_appendText 14 rfl) (by decide) ?_
  exact pw_ireturn (tk tkL_appendText 15 rfl) rfl (by decide) rfl ⟨_, rfl, hy2, hc, by rw [e0], fun _ => rfl⟩
  obtain ⟨y, rfl, hy, hc, ⟨_, e⟩ | ⟨k9, E9, hm, hk, e⟩⟩ := q
  · cases e
  · cases e
    simp only [List.mem_cons, Prod.mk.injEq, List.not_mem_nil, or_false] at hm
    rcases hm with ⟨rfl, rfl⟩ | ⟨rfl, rfl⟩
    · refine pt_catch [] (0, 9, 12, 13) [(0, 9, 16, 15)] (j := 4) (w := 2) (ls1 := [some (.ref 160), some (.long j), none, some (.ref 178), none]) rfl (fun z hz => by cases hz) ⟨by decide, by decide⟩ (by decide) ckL_13 caIAE (Or.inr ⟨rfl, (tk tkL_appendText 8 rfl)⟩) (by decide) (nl_at (j := 3) rfl rfl) rfl ?_
      refine pw_iconst (v := 1) (tk tkL_appendText 9 rfl) (by decide) ?_
      exact pw_ireturn (tk tkL_appendText 10 rfl) rfl (by decide) rfl ⟨_, rfl, congrArg Prod.fst hy, hc, by rw [hk], fun q0 => absurd (hk.symm.trans q0) (by decide)⟩
    · refine pt_catch [(0, 9, 12, 13)] (0, 9, 16, 15) [] (j := 4) (w := 2) (ls1 := [some (.ref 160), some (.long j), none, some (.ref 178), none]) rfl (pass1 ⟨by decide, _, ckL_13, List.mem_of_getElem? (i := 2) rfl⟩) ⟨by decide, by decide⟩ (by decide) ckL_15 caISE (Or.inr ⟨rfl, (tk tkL_appendText 11 rfl)⟩) (by decide) (nl_at (j := 3) rfl rfl) rfl ?_
      refine pw_iconst (v := 2) (tk tkL_appendText 12 rfl) (by decide) ?_
      exact pw_ireturn (tk tkL_appendText 13 rfl) rfl (by decide) rfl ⟨_, rfl, congrArg Prod.fst hy, hc, by rw [hk], fun q0 => absurd (hk.symm.trans q0) (by decide)⟩
