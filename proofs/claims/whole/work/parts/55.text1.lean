/-- the text of n signs T, read up to sp -/
def TXH (x : XW) (T : Nat → Int32) (n sp : Nat) : Prop := cTx x.1 0 = nI n ∧ n ≤ 80 ∧ (∀ i, i < n → cSg x.1 i = T i) ∧ cTx x.1 1 = nI sp ∧ sp ≤ n
def aW (x : XW) (sp : Nat) : XW := uC5 x (upd (cTx x.1) 1 (nI sp))
theorem upd_self (f : Nat → Int32) (k : Nat) {v : Int32} (h : f k = v) : upd f k v = f := by
  funext j; unfold upd; by_cases q : j = k
  · rw [if_pos q, q]; exact h.symm
  · rw [if_neg q]
theorem aW_self {x : XW} {sp : Nat} (h : cTx x.1 1 = nI sp) : aW x sp = x := by
  unfold aW; rw [upd_self _ _ h]; rfl
theorem aW_aW (x : XW) (a b : Nat) : aW (aW x a) b = aW x b := by
  unfold aW
  show uC5 x (upd (upd (cTx x.1) 1 (nI a)) 1 (nI b)) = _
  rw [upd_tw]
theorem TXH.aw {x : XW} {T : Nat → Int32} {n sp s2 : Nat} (h : TXH x T n sp) (h2 : s2 ≤ n) : TXH (aW x s2) T n s2 := ⟨h.1, h.2.1, h.2.2.1, rfl, h2⟩
/-- is the next sign a digit -/
def dgB (T : Nat → Int32) (n sp : Nat) : Bool := tkB T n 48 57 sp false
theorem tk_f (T : Nat → Int32) (n : Nat) (lo hi : Int32) (sp : Nat) : tkB T n lo hi sp false = (decide (sp < n) && inR (T sp) lo hi) := rfl
set_option maxRecDepth 100000 in
set_option maxHeartbeats 4000000 in
theorem ct_X6_isDigitNext (x : XW) (T : Nat → Int32) (n sp : Nat) (hx : TXH x T n sp)  : CT MX6_isDigitNext 0 0 [.ref 164] (hp x) (Det (.inl (some (.int (bI (dgB T n sp))))) (hp x)) := by
  refine ct_of (by decide +kernel) (by decide) rfl (k := 0) (ls := [some (.ref 164)]) rfl (Nat.le_of_ble_eq_true rfl) ?_
  obtain ⟨h1, h2, h3, h4, h5⟩ := hx
  refine pw_aload_n (tk tkX6_isDigitNext 0 rfl) rfl ?_
  refine g6_at (tk tkX6_isDigitNext 1 rfl) fkX6_23 ?_
  refine pw_aload_n (tk tkX6_isDigitNext 2 rfl) rfl ?_
  refine g6_length (tk tkX6_isDigitNext 3 rfl) fkX6_19 ?_
  rw [h1, h4]
  refine pw_icmp_ge (tgt := 43) (tk tkX6_isDigitNext 4 rfl) (by decide) (fun c8 => ?_) (fun c8 => ?_)
  · refine pw_iconst (v := 0) (tk tkX6_isDigitNext 21 rfl) (by decide) ?_
    exact pw_ireturn (tk tkX6_isDigitNext 22 rfl) rfl (by decide) (by first | rfl | exact nar_bI _) ⟨by rw [show dgB T n sp = false from by unfold dgB; rw [tk_f, decide_eq_false (fun q => nI_ge q (by omega) c8)]; rfl]; rfl, rfl⟩
  · have hsp : sp < n := by
      rcases Nat.lt_or_ge sp n with q | q
      · exact q
      · exact absurd (nI_le q (by omega)) c8
    refine pw_aload_n (tk tkX6_isDigitNext 5 rfl) rfl ?_
    refine g6_signs (tk tkX6_isDigitNext 6 rfl) fkX6_9 ?_
    refine pw_aload_n (tk tkX6_isDigitNext 7 rfl) rfl ?_
    refine g6_at (tk tkX6_isDigitNext 8 rfl) fkX6_23 ?_
    refine al_signs_e (e := sp) (tk tkX6_isDigitNext 9 rfl) h4 (by first | decide | omega) ?_
    rw [h3 sp hsp]
    refine pw_bipush (v := 48) (tk tkX6_isDigitNext 10 rfl) (by decide) ?_
    refine pw_icmp_lt (tgt := 43) (tk tkX6_isDigitNext 11 rfl) (by decide) (fun c22 => ?_) (fun c22 => ?_)
    · refine pw_iconst (v := 0) (tk tkX6_isDigitNext 21 rfl) (by decide) ?_
      exact pw_ireturn (tk tkX6_isDigitNext 22 rfl) rfl (by decide) (by first | rfl | exact nar_bI _) ⟨by rw [show dgB T n sp = false from by unfold dgB; rw [tk_f, decide_eq_true hsp, inR_f1 c22]; rfl]; rfl, rfl⟩
    · refine pw_aload_n (tk tkX6_isDigitNext 12 rfl) rfl ?_
      refine g6_signs (tk tkX6_isDigitNext 13 rfl) fkX6_9 ?_
      refine pw_aload_n (tk tkX6_isDigitNext 14 rfl) rfl ?_
      refine g6_at (tk tkX6_isDigitNext 15 rfl) fkX6_23 ?_
      refine al_signs_e (e := sp) (tk tkX6_isDigitNext 16 rfl) h4 (by first | decide | omega) ?_
      rw [h3 sp hsp]
      refine pw_bipush (v := 57) (tk tkX6_isDigitNext 17 rfl) (by decide) ?_
      refine pw_icmp_gt (tgt := 43) (tk tkX6_isDigitNext 18 rfl) (by decide) (fun c36 => ?_) (fun c36 => ?_)
      · refine pw_iconst (v := 0) (tk tkX6_isDigitNext 21 rfl) (by decide) ?_
        exact pw_ireturn (tk tkX6_isDigitNext 22 rfl) rfl (by decide) (by first | rfl | exact nar_bI _) ⟨by rw [show dgB T n sp = false from by unfold dgB; rw [tk_f, decide_eq_true hsp, inR_f2 c36]; rfl]; rfl, rfl⟩
      · refine pw_iconst (v := 1) (tk tkX6_isDigitNext 19 rfl) (by decide) ?_
        refine pw_goto (tgt := 44) (tk tkX6_isDigitNext 20 rfl) (by decide) ?_
        exact pw_ireturn (tk tkX6_isDigitNext 22 rfl) rfl (by decide) (by first | rfl | exact nar_bI _) ⟨by rw [show dgB T n sp = true from by unfold dgB; rw [tk_f, decide_eq_true hsp, show inR (T sp) 48 57 = true from by unfold inR; rw [decide_eq_true c22, decide_eq_true c36]; rfl]; rfl]; rfl, rfl⟩
theorem inR_1 (t v : Int32) : inR t v v = decide (t = v) := by
  unfold inR
  by_cases h : t = v
  · subst h; rw [decide_eq_true (show ¬ t < t from Int32.lt_irrefl), decide_eq_true rfl]; rfl
  · rw [decide_eq_false h]
    by_cases q : t < v
    · rw [decide_eq_false (fun z => z q)]; rfl
    · have : v < t := by
        rcases Int32.lt_or_le v t with w | w
        · exact w
        · exact absurd (Int32.le_antisymm w (Int32.not_lt.mp q)) h
      rw [decide_eq_false (show ¬ ¬ v < t from fun z => z this), Bool.and_false]
set_option maxRecDepth 100000 in
set_option maxHeartbeats 4000000 in
theorem ct_X6_readSign (x : XW) (T : Nat → Int32) (n sp : Nat) (hx : TXH x T n sp) (v : Int32) : CT MX6_readSign 0 0 [.ref 164, .int v] (hp x) (Det (.inl (some (.int (bI (tkB T n v v sp false))))) (hp (aW x (adv (tkB T n v v sp false) sp)))) := by
  refine ct_of (by decide +kernel) (by decide) rfl (k := 0) (ls := [some (.ref 164), some (.int v)]) rfl (Nat.le_of_ble_eq_true rfl) ?_
  obtain ⟨h1, h2, h3, h4, h5⟩ := hx
  refine pw_aload_n (tk tkX6_readSign 0 rfl) rfl ?_
  refine g6_at (tk tkX6_readSign 1 rfl) fkX6_23 ?_
  refine pw_aload_n (tk tkX6_readSign 2 rfl) rfl ?_
  refine g6_length (tk tkX6_readSign 3 rfl) fkX6_19 ?_
  rw [h1, h4]
  refine pw_icmp_ge (tgt := 24) (tk tkX6_readSign 4 rfl) (by decide) (fun c8 => ?_) (fun c8 => ?_)
  · refine pw_iconst (v := 0) (tk tkX6_readSign 12 rfl) (by decide) ?_
    exact pw_ireturn (tk tkX6_readSign 13 rfl) rfl (by decide) (by first | rfl | exact nar_bI _) ⟨by rw [show tkB T n v v sp false = false from by rw [tk_f, decide_eq_false (fun q => nI_ge q (by omega) c8)]; rfl]; rfl, by rw [show tkB T n v v sp false = false from by rw [tk_f, decide_eq_false (fun q => nI_ge q (by omega) c8)]; rfl]; exact congrArg hp (aW_self h4).symm⟩
  · have hsp : sp < n := by
      rcases Nat.lt_or_ge sp n with q | q
      · exact q
      · exact absurd (nI_le q (by omega)) c8
    refine pw_aload_n (tk tkX6_readSign 5 rfl) rfl ?_
    refine g6_signs (tk tkX6_readSign 6 rfl) fkX6_9 ?_
    refine pw_aload_n (tk tkX6_readSign 7 rfl) rfl ?_
    refine g6_at (tk tkX6_readSign 8 rfl) fkX6_23 ?_
    refine al_signs_e (e := sp) (tk tkX6_readSign 9 rfl) h4 (by first | decide | omega) ?_
    rw [h3 sp hsp]
    refine pw_iload_n (tk tkX6_readSign 10 rfl) rfl ?_
    refine pw_icmp_eq (tgt := 26) (tk tkX6_readSign 11 rfl) (by decide) (fun c21 => ?_) (fun c21 => ?_)
    · refine pw_aload_n (tk tkX6_readSign 14 rfl) rfl ?_
      refine pw_dup (tk tkX6_readSign 15 rfl) rfl ?_
      refine g6_at (tk tkX6_readSign 16 rfl) fkX6_23 ?_
      refine pw_iconst (v := 1) (tk tkX6_readSign 17 rfl) (by decide) ?_
      refine pw_iadd (tk tkX6_readSign 18 rfl) ?_
      refine p6_at (tk tkX6_readSign 19 rfl) fkX6_23 ?_
      refine pw_iconst (v := 1) (tk tkX6_readSign 20 rfl) (by decide) ?_
      exact pw_ireturn (tk tkX6_readSign 21 rfl) rfl (by decide) (by first | rfl | exact nar_bI _) ⟨by rw [show tkB T n v v sp false = true from by rw [tk_f, inR_1, decide_eq_true c21, decide_eq_true hsp]; rfl]; rfl, by rw [show tkB T n v v sp false = true from by rw [tk_f, inR_1, decide_eq_true c21, decide_eq_true hsp]; rfl, h4, nI_1]; rfl⟩
    · refine pw_iconst (v := 0) (tk tkX6_readSign 12 rfl) (by decide) ?_
      exact pw_ireturn (tk tkX6_readSign 13 rfl) rfl (by decide) (by first | rfl | exact nar_bI _) ⟨by rw [show tkB T n v v sp false = false from by rw [tk_f, inR_1, decide_eq_false c21, Bool.and_false]]; rfl, by rw [show tkB T n v v sp false = false from by rw [tk_f, inR_1, decide_eq_false c21, Bool.and_false]]; exact congrArg hp (aW_self h4).symm⟩
theorem numP_st (T : Nat → Int32) (n : Nat) {f : Nat} (v : Int32) {sp : Nat} (h : n ≤ f + sp) : numP T n f v sp = if v ≤ 0 then (v, sp) else if 100 ≤ v then (v, sp) else if dgB T n sp = true then numP T n (f - 1) (10 * v + T sp - 48) (sp + 1) else (v, sp) := by
  have ed : dgB T n sp = true ↔ sp < n ∧ inR (T sp) 48 57 = true := by
    unfold dgB; rw [tk_f, Bool.and_eq_true]; exact ⟨fun q => ⟨of_decide_eq_true q.1, q.2⟩, fun q => ⟨decide_eq_true q.1, q.2⟩⟩
  cases f with
  | zero =>
    have : ¬ dgB T n sp = true := fun q => absurd (ed.mp q).1 (by omega)
    rw [if_neg this]
    show (v, sp) = _
    split
    · rfl
    · split <;> rfl
  | succ f =>
    show (if v ≤ 0 then (v, sp) else if 100 ≤ v then (v, sp) else if sp < n ∧ inR (T sp) 48 57 = true then numP T n f (10 * v + T sp - 48) (sp + 1) else (v, sp)) = _
    by_cases q : dgB T n sp = true
    · rw [if_pos (ed.mp q), if_pos q]; rfl
    · rw [if_neg (fun z => q (ed.mpr z)), if_neg q]
theorem dg_v {T : Nat → Int32} {n sp : Nat} (h : dgB T n sp = true) : sp < n ∧ ∃ d, d ≤ 9 ∧ T sp - 48 = nI d ∧ T sp = nI (48 + d) := by
  unfold dgB at h
  rw [tk_f, Bool.and_eq_true] at h
  obtain ⟨h1, h2⟩ := h
  refine ⟨of_decide_eq_true h1, ?_⟩
  unfold inR at h2
  rw [Bool.and_eq_true] at h2
  have a1 := of_decide_eq_true h2.1
  have a2 := Int32.not_lt.mp (of_decide_eq_true h2.2)
  obtain ⟨j, hj, ej⟩ := nI_of2 (M := 57) (n := 57) (by decide) (fun q => a1 (Int32.lt_trans q (by decide))) a2
  rw [ej] at a1 ⊢
  have h48 : 48 ≤ j := by
    rcases Nat.lt_or_ge j 48 with q | q
    · exact absurd (nI_lt (b := 48) q (by decide)) a1
    · exact q
  exact ⟨j - 48, by omega, pk_sub (b := 48) h48, by rw [show 48 + (j - 48) = j by omega]⟩
theorem num_v (a d : Nat) {t : Int32} (h : t = nI (48 + d)) : 10 * nI a + t - 48 = nI (10 * a + d) := by
  rw [h, show (10 : Int32) * nI a = nI (10 * a) from by rw [← pk_mul]; rfl, nI_add]
  exact (pk_sub (b := 48) (by omega)).trans (by congr 1; omega)
theorem num_c (a d : Nat) : nI a * 10 + nI d = nI (10 * a + d) := by
  rw [show nI a * 10 = nI (a * 10) from by rw [← pk_mul]; rfl, nI_add, Nat.mul_comm]
theorem dgB_f {T : Nat → Int32} {n sp : Nat} (h : ¬ sp < n) : dgB T n sp = false := by unfold dgB; rw [tk_f, decide_eq_false h]; rfl
def rn1 (T : Nat → Int32) (n sp : Nat) : Int32 × Nat := if dgB T n sp = true then (T sp - 48, sp + 1) else (-1, sp)
def rn3 (T : Nat → Int32) (n sp : Nat) : Int32 × Nat := if dgB T n sp = true then numP T n n (T sp - 48) (sp + 1) else (-1, sp)
set_option maxRecDepth 100000 in
set_option maxHeartbeats 4000000 in
theorem ct_X6_readNumber1 (x : XW) (T : Nat → Int32) (n sp : Nat) (hx : TXH x T n sp) : CT MX6_readNumber 1 0 [.ref 164, .int 1] (hp x) (Det (.inl (some (.int (rn1 T n sp).1))) (hp (aW x (rn1 T n sp).2))) := by
  refine ct_of (by decide +kernel) (by decide) rfl (k := 3) (ls := [some (.ref 164), some (.int 1), none, none, none]) rfl (Nat.le_of_ble_eq_true rfl) ?_
  have hx0 := hx
  obtain ⟨h1, h2, h3, h4, h5⟩ := hx
  refine pw_iconst (v := -1) (tk tkX6_readNumber 0 rfl) (by decide) ?_
  refine pw_ist2 (tk tkX6_readNumber 1 rfl) rfl (by decide) ?_
  refine pw_iconst (v := 0) (tk tkX6_readNumber 2 rfl) (by decide) ?_
  refine pw_ist3 (tk tkX6_readNumber 3 rfl) rfl (by decide) ?_
  refine pw_iload_n (tk tkX6_readNumber 4 rfl) rfl ?_
  refine pw_iload_n (tk tkX6_readNumber 5 rfl) rfl ?_
  refine pw_icmp_ge (tgt := 67) (tk tkX6_readNumber 6 rfl) (by decide) (fun c6 => absurd c6 (by decide)) (fun c6 => ?_)
  refine pw_iload_n (tk tkX6_readNumber 7 rfl) rfl ?_
  refine pw_if_eq (tgt := 67) (tk tkX6_readNumber 8 rfl) (by decide) (fun c10 => absurd c10 (by decide)) (fun c10 => ?_)
  refine pw_aload_n (tk tkX6_readNumber 9 rfl) rfl ?_
  refine pw_cV (ct_X6_isDigitNext x T n sp hx0) okX6_isDigitNext (tk tkX6_readNumber 10 rfl) mkX6_66 imX6_isDigitNext seX6_isDigitNext (hp_ot _ 4) rfl rfl rfl (by decide) (by decide) (Nat.le_of_ble_eq_true rfl) ?_
  refine pw_ifb (tgt := 67) (tk tkX6_readNumber 11 rfl) (by decide) (fun c17 => ?_) (fun c17 => ?_)
  · have e : rn1 T n sp = (-1, sp) := if_neg (fun q => Bool.noConfusion (c17.symm.trans q))
    rw [e]
    refine pw_iload_n (tk tkX6_readNumber 38 rfl) rfl ?_
    exact pw_ireturn (tk tkX6_readNumber 39 rfl) rfl (by decide) rfl ⟨rfl, congrArg hp (aW_self h4).symm⟩
  · obtain ⟨hsp, d, hd, ed, et⟩ := dg_v c17
    have e : rn1 T n sp = (nI d, sp + 1) := (if_pos c17).trans (by rw [ed])
    rw [e]
    refine pw_aload_n (tk tkX6_readNumber 12 rfl) rfl ?_
    refine g6_signs (tk tkX6_readNumber 13 rfl) fkX6_9 ?_
    refine pw_aload_n (tk tkX6_readNumber 14 rfl) rfl ?_
    refine g6_at (tk tkX6_readNumber 15 rfl) fkX6_23 ?_
    refine al_signs_e (e := sp) (tk tkX6_readNumber 16 rfl) h4 (by omega) ?_
    rw [h3 sp hsp]
    refine pw_bipush (v := 48) (tk tkX6_readNumber 17 rfl) (by decide) ?_
    refine pw_isub (tk tkX6_readNumber 18 rfl) ?_
    rw [ed]
    refine pw_ist4 (tk tkX6_readNumber 19 rfl) rfl (by decide) ?_
    refine pw_iload_n (tk tkX6_readNumber 20 rfl) rfl ?_
    refine pw_if_ne (tgt := 43) (tk tkX6_readNumber 21 rfl) (by decide) (fun c => absurd rfl c) (fun c35 => ?_)
    refine pw_iload (tk tkX6_readNumber 22 rfl) rfl ?_
    refine pw_goto (tgt := 50) (tk tkX6_readNumber 23 rfl) (by decide) ?_
    refine pw_ist2 (tk tkX6_readNumber 29 rfl) rfl (by decide) ?_
    refine pw_aload_n (tk tkX6_readNumber 30 rfl) rfl ?_
    refine pw_dup (tk tkX6_readNumber 31 rfl) rfl ?_
    refine g6_at (tk tkX6_readNumber 32 rfl) fkX6_23 ?_
    refine pw_iconst (v := 1) (tk tkX6_readNumber 33 rfl) (by decide) ?_
    refine pw_iadd (tk tkX6_readNumber 34 rfl) ?_
    rw [h4, nI_1]
    refine p6_at (tk tkX6_readNumber 35 rfl) fkX6_23 ?_
    refine pw_inc3 (tk tkX6_readNumber 36 rfl) rfl (by decide) (nI_1 0) ?_
    refine pw_goto (tgt := 4) (tk tkX6_readNumber 37 rfl) (by decide) ?_
    refine pw_iload_n (tk tkX6_readNumber 4 rfl) rfl ?_
    refine pw_iload_n (tk tkX6_readNumber 5 rfl) rfl ?_
    refine pw_icmp_ge (tgt := 67) (tk tkX6_readNumber 6 rfl) (by decide) (fun c6 => ?_) (fun c => absurd (Int32.le_refl _) c)
    refine pw_iload_n (tk tkX6_readNumber 38 rfl) rfl ?_
    exact pw_ireturn (tk tkX6_readNumber 39 rfl) rfl (by decide) rfl ⟨rfl, rfl⟩
set_option maxRecDepth 100000 in
set_option maxHeartbeats 4000000 in
theorem ct_X6_readNumber3 (x : XW) (T : Nat → Int32) (n sp : Nat) (hx : TXH x T n sp) : CT MX6_readNumber 1 0 [.ref 164, .int 3] (hp x) (Det (.inl (some (.int (rn3 T n sp).1))) (hp (aW x (rn3 T n sp).2))) := by
  refine ct_of (by decide +kernel) (by decide) rfl (k := 3) (ls := [some (.ref 164), some (.int 3), none, none, none]) rfl (Nat.le_of_ble_eq_true rfl) ?_
  have L3 : ∀ (a s1 f : Nat) (b4 : Option Value), 100 ≤ a → a ≤ 999 → n ≤ f + s1 → s1 ≤ n → numP T n f (nI a) s1 = rn3 T n sp → PW MX6_readNumber 1 0 4 [some (.ref 164), some (.int 3), some (.int (nI a)), some (.int (nI 3)), b4] [] (hp (aW x s1)) (Det (.inl (some (.int (rn3 T n sp).1))) (hp (aW x (rn3 T n sp).2))) := by
    intro a s1 f b4 hlo hhi hf hs he
    have hy : TXH (aW x s1) T n s1 := hx.aw hs
    have hy0 := hy
    obtain ⟨h1, h2, h3, h4, h5⟩ := hy
    have e : rn3 T n sp = (nI a, s1) := by rw [← he, numP_st T n _ hf, if_neg (nI_nle (by omega) (by omega)), if_pos (show (100 : Int32) ≤ nI a from nI_le (a := 100) (by omega) (by omega))]
    rw [e]
    refine pw_iload_n (tk tkX6_readNumber 4 rfl) rfl ?_
    refine pw_iload_n (tk tkX6_readNumber 5 rfl) rfl ?_
    refine pw_icmp_ge (tgt := 67) (tk tkX6_readNumber 6 rfl) (by decide) (fun c6 => ?_) (fun c => absurd (Int32.le_refl _) c)
    refine pw_iload_n (tk tkX6_readNumber 38 rfl) rfl ?_
    exact pw_ireturn (tk tkX6_readNumber 39 rfl) rfl (by decide) rfl ⟨rfl, rfl⟩
  have L2 : ∀ (a s1 f : Nat) (b4 : Option Value), 10 ≤ a → a ≤ 99 → n ≤ f + s1 → s1 ≤ n → numP T n f (nI a) s1 = rn3 T n sp → PW MX6_readNumber 1 0 4 [some (.ref 164), some (.int 3), some (.int (nI a)), some (.int (nI 2)), b4] [] (hp (aW x s1)) (Det (.inl (some (.int (rn3 T n sp).1))) (hp (aW x (rn3 T n sp).2))) := by
    intro a s1 f b4 hlo hhi hf hs he
    have hy : TXH (aW x s1) T n s1 := hx.aw hs
    have hy0 := hy
    obtain ⟨h1, h2, h3, h4, h5⟩ := hy
    refine pw_iload_n (tk tkX6_readNumber 4 rfl) rfl ?_
    refine pw_iload_n (tk tkX6_readNumber 5 rfl) rfl ?_
    refine pw_icmp_ge (tgt := 67) (tk tkX6_readNumber 6 rfl) (by decide) (fun c6 => absurd c6 (by decide)) (fun c6 => ?_)
    refine pw_iload_n (tk tkX6_readNumber 7 rfl) rfl ?_
    refine pw_if_eq (tgt := 67) (tk tkX6_readNumber 8 rfl) (by decide) (fun c10 => absurd c10 (nI_ne0 (by omega) (by omega))) (fun c10 => ?_)
    have ha : 0 < a := by omega
    have st := numP_st T n (nI a) hf
    rw [if_neg (nI_nle ha (by omega)), if_neg (show ¬ (100 : Int32) ≤ nI a from nI_ge (b := 100) (by omega) (by decide))] at st
    refine pw_aload_n (tk tkX6_readNumber 9 rfl) rfl ?_
    refine pw_cV (ct_X6_isDigitNext _ T n s1 hy0) okX6_isDigitNext (tk tkX6_readNumber 10 rfl) mkX6_66 imX6_isDigitNext seX6_isDigitNext (hp_ot _ 4) rfl rfl rfl (by decide) (by decide) (Nat.le_of_ble_eq_true rfl) ?_
    refine pw_ifb (tgt := 67) (tk tkX6_readNumber 11 rfl) (by decide) (fun c17 => ?_) (fun c17 => ?_)
    · have e : rn3 T n sp = (nI a, s1) := by rw [← he, st, if_neg (fun q => Bool.noConfusion (c17.symm.trans q))]
      rw [e]
      refine pw_iload_n (tk tkX6_readNumber 38 rfl) rfl ?_
      exact pw_ireturn (tk tkX6_readNumber 39 rfl) rfl (by decide) rfl ⟨rfl, rfl⟩
    obtain ⟨hsp, d, hd, ed, et⟩ := dg_v c17
    rw [if_pos c17, num_v a d et] at st
    refine pw_aload_n (tk tkX6_readNumber 12 rfl) rfl ?_
    refine g6_signs (tk tkX6_readNumber 13 rfl) fkX6_9 ?_
    refine pw_aload_n (tk tkX6_readNumber 14 rfl) rfl ?_
    refine g6_at (tk tkX6_readNumber 15 rfl) fkX6_23 ?_
    refine al_signs_e (e := s1) (tk tkX6_readNumber 16 rfl) h4 (by omega) ?_
    rw [h3 s1 hsp]
    refine pw_bipush (v := 48) (tk tkX6_readNumber 17 rfl) (by decide) ?_
    refine pw_isub (tk tkX6_readNumber 18 rfl) ?_
    rw [ed]
    refine pw_ist4 (tk tkX6_readNumber 19 rfl) rfl (by decide) ?_
    refine pw_iload_n (tk tkX6_readNumber 20 rfl) rfl ?_
    refine pw_if_ne (tgt := 43) (tk tkX6_readNumber 21 rfl) (by decide) (fun c35 => ?_) (fun c => absurd c (by decide))
    refine pw_iload_n (tk tkX6_readNumber 24 rfl) rfl ?_
    refine pw_bipush (v := 10) (tk tkX6_readNumber 25 rfl) (by decide) ?_
    refine pw_imul (tk tkX6_readNumber 26 rfl) ?_
    refine pw_iload (tk tkX6_readNumber 27 rfl) rfl ?_
    refine pw_iadd (tk tkX6_readNumber 28 rfl) ?_
    rw [num_c]
    refine pw_ist2 (tk tkX6_readNumber 29 rfl) rfl (by decide) ?_
    refine pw_aload_n (tk tkX6_readNumber 30 rfl) rfl ?_
    refine pw_dup (tk tkX6_readNumber 31 rfl) rfl ?_
    refine g6_at (tk tkX6_readNumber 32 rfl) fkX6_23 ?_
    refine pw_iconst (v := 1) (tk tkX6_readNumber 33 rfl) (by decide) ?_
    refine pw_iadd (tk tkX6_readNumber 34 rfl) ?_
    rw [h4, nI_1]
    refine p6_at (tk tkX6_readNumber 35 rfl) fkX6_23 ?_
    refine pw_inc3 (tk tkX6_readNumber 36 rfl) rfl (by decide) (nI_1 2) ?_
    refine pw_goto (tgt := 4) (tk tkX6_readNumber 37 rfl) (by decide) ?_
    rw [show uC5 (aW x s1) (upd (cTx (aW x s1).1) 1 (nI (s1 + 1))) = aW x (s1 + 1) from aW_aW x s1 (s1 + 1)]
    exact L3 (10 * a + d) (s1 + 1) (f - 1) _ (by omega) (by omega) (by omega) (by omega) (st.symm.trans he)
  have L1 : ∀ (a s1 f : Nat) (b4 : Option Value), 0 ≤ a → a ≤ 9 → n ≤ f + s1 → s1 ≤ n → numP T n f (nI a) s1 = rn3 T n sp → PW MX6_readNumber 1 0 4 [some (.ref 164), some (.int 3), some (.int (nI a)), some (.int (nI 1)), b4] [] (hp (aW x s1)) (Det (.inl (some (.int (rn3 T n sp).1))) (hp (aW x (rn3 T n sp).2))) := by
    intro a s1 f b4 hlo hhi hf hs he
    have hy : TXH (aW x s1) T n s1 := hx.aw hs
    have hy0 := hy
    obtain ⟨h1, h2, h3, h4, h5⟩ := hy
    refine pw_iload_n (tk tkX6_readNumber 4 rfl) rfl ?_
    refine pw_iload_n (tk tkX6_readNumber 5 rfl) rfl ?_
    refine pw_icmp_ge (tgt := 67) (tk tkX6_readNumber 6 rfl) (by decide) (fun c6 => absurd c6 (by decide)) (fun c6 => ?_)
    refine pw_iload_n (tk tkX6_readNumber 7 rfl) rfl ?_
    refine pw_if_eq (tgt := 67) (tk tkX6_readNumber 8 rfl) (by decide) (fun c10 => ?_) (fun c10 => ?_)
    · have e : rn3 T n sp = (nI a, s1) := by rw [← he, numP_st T n _ hf, if_pos (by rw [c10]; exact Int32.le_refl _)]
      rw [e]
      refine pw_iload_n (tk tkX6_readNumber 38 rfl) rfl ?_
      exact pw_ireturn (tk tkX6_readNumber 39 rfl) rfl (by decide) rfl ⟨rfl, rfl⟩
    have ha : 0 < a := by
      rcases Nat.eq_zero_or_pos a with q | q
      · exact absurd (by rw [q]; rfl) c10
      · exact q
    have st := numP_st T n (nI a) hf
    rw [if_neg (nI_nle ha (by omega)), if_neg (show ¬ (100 : Int32) ≤ nI a from nI_ge (b := 100) (by omega) (by decide))] at st
    refine pw_aload_n (tk tkX6_readNumber 9 rfl) rfl ?_
    refine pw_cV (ct_X6_isDigitNext _ T n s1 hy0) okX6_isDigitNext (tk tkX6_readNumber 10 rfl) mkX6_66 imX6_isDigitNext seX6_isDigitNext (hp_ot _ 4) rfl rfl rfl (by decide) (by decide) (Nat.le_of_ble_eq_true rfl) ?_
    refine pw_ifb (tgt := 67) (tk tkX6_readNumber 11 rfl) (by decide) (fun c17 => ?_) (fun c17 => ?_)
    · have e : rn3 T n sp = (nI a, s1) := by rw [← he, st, if_neg (fun q => Bool.noConfusion (c17.symm.trans q))]
      rw [e]
      refine pw_iload_n (tk tkX6_readNumber 38 rfl) rfl ?_
      exact pw_ireturn (tk tkX6_readNumber 39 rfl) rfl (by decide) rfl ⟨rfl, rfl⟩
    obtain ⟨hsp, d, hd, ed, et⟩ := dg_v c17
    rw [if_pos c17, num_v a d et] at st
    refine pw_aload_n (tk tkX6_readNumber 12 rfl) rfl ?_
    refine g6_signs (tk tkX6_readNumber 13 rfl) fkX6_9 ?_
    refine pw_aload_n (tk tkX6_readNumber 14 rfl) rfl ?_
    refine g6_at (tk tkX6_readNumber 15 rfl) fkX6_23 ?_
    refine al_signs_e (e := s1) (tk tkX6_readNumber 16 rfl) h4 (by omega) ?_
    rw [h3 s1 hsp]
    refine pw_bipush (v := 48) (tk tkX6_readNumber 17 rfl) (by decide) ?_
    refine pw_isub (tk tkX6_readNumber 18 rfl) ?_
    rw [ed]
    refine pw_ist4 (tk tkX6_readNumber 19 rfl) rfl (by decide) ?_
    refine pw_iload_n (tk tkX6_readNumber 20 rfl) rfl ?_
    refine pw_if_ne (tgt := 43) (tk tkX6_readNumber 21 rfl) (by decide) (fun c35 => ?_) (fun c => absurd c (by decide))
    refine pw_iload_n (tk tkX6_readNumber 24 rfl) rfl ?_
    refine pw_bipush (v := 10) (tk tkX6_readNumber 25 rfl) (by decide) ?_
    refine pw_imul (tk tkX6_readNumber 26 rfl) ?_
    refine pw_iload (tk tkX6_readNumber 27 rfl) rfl ?_
    refine pw_iadd (tk tkX6_readNumber 28 rfl) ?_
    rw [num_c]
    refine pw_ist2 (tk tkX6_readNumber 29 rfl) rfl (by decide) ?_
    refine pw_aload_n (tk tkX6_readNumber 30 rfl) rfl ?_
    refine pw_dup (tk tkX6_readNumber 31 rfl) rfl ?_
    refine g6_at (tk tkX6_readNumber 32 rfl) fkX6_23 ?_
    refine pw_iconst (v := 1) (tk tkX6_readNumber 33 rfl) (by decide) ?_
    refine pw_iadd (tk tkX6_readNumber 34 rfl) ?_
    rw [h4, nI_1]
    refine p6_at (tk tkX6_readNumber 35 rfl) fkX6_23 ?_
    refine pw_inc3 (tk tkX6_readNumber 36 rfl) rfl (by decide) (nI_1 1) ?_
    refine pw_goto (tgt := 4) (tk tkX6_readNumber 37 rfl) (by decide) ?_
    rw [show uC5 (aW x s1) (upd (cTx (aW x s1).1) 1 (nI (s1 + 1))) = aW x (s1 + 1) from aW_aW x s1 (s1 + 1)]
    exact L2 (10 * a + d) (s1 + 1) (f - 1) _ (by omega) (by omega) (by omega) (by omega) (st.symm.trans he)
  have hx0 := hx
  obtain ⟨h1, h2, h3, h4, h5⟩ := hx
  refine pw_iconst (v := -1) (tk tkX6_readNumber 0 rfl) (by decide) ?_
  refine pw_ist2 (tk tkX6_readNumber 1 rfl) rfl (by decide) ?_
  refine pw_iconst (v := 0) (tk tkX6_readNumber 2 rfl) (by decide) ?_
  refine pw_ist3 (tk tkX6_readNumber 3 rfl) rfl (by decide) ?_
  refine pw_iload_n (tk tkX6_readNumber 4 rfl) rfl ?_
  refine pw_iload_n (tk tkX6_readNumber 5 rfl) rfl ?_
  refine pw_icmp_ge (tgt := 67) (tk tkX6_readNumber 6 rfl) (by decide) (fun c6 => absurd c6 (by decide)) (fun c6 => ?_)
  refine pw_iload_n (tk tkX6_readNumber 7 rfl) rfl ?_
  refine pw_if_eq (tgt := 67) (tk tkX6_readNumber 8 rfl) (by decide) (fun c10 => absurd c10 (by decide)) (fun c10 => ?_)
  refine pw_aload_n (tk tkX6_readNumber 9 rfl) rfl ?_
  refine pw_cV (ct_X6_isDigitNext x T n sp hx0) okX6_isDigitNext (tk tkX6_readNumber 10 rfl) mkX6_66 imX6_isDigitNext seX6_isDigitNext (hp_ot _ 4) rfl rfl rfl (by decide) (by decide) (Nat.le_of_ble_eq_true rfl) ?_
  refine pw_ifb (tgt := 67) (tk tkX6_readNumber 11 rfl) (by decide) (fun c17 => ?_) (fun c17 => ?_)
  · have e : rn3 T n sp = (-1, sp) := if_neg (fun q => Bool.noConfusion (c17.symm.trans q))
    rw [e]
    refine pw_iload_n (tk tkX6_readNumber 38 rfl) rfl ?_
    exact pw_ireturn (tk tkX6_readNumber 39 rfl) rfl (by decide) rfl ⟨rfl, congrArg hp (aW_self h4).symm⟩
  obtain ⟨hsp, d, hd, ed, et⟩ := dg_v c17
  have e : rn3 T n sp = numP T n n (nI d) (sp + 1) := (if_pos c17).trans (by rw [ed])
  refine pw_aload_n (tk tkX6_readNumber 12 rfl) rfl ?_
  refine g6_signs (tk tkX6_readNumber 13 rfl) fkX6_9 ?_
  refine pw_aload_n (tk tkX6_readNumber 14 rfl) rfl ?_
  refine g6_at (tk tkX6_readNumber 15 rfl) fkX6_23 ?_
  refine al_signs_e (e := sp) (tk tkX6_readNumber 16 rfl) h4 (by omega) ?_
  rw [h3 sp hsp]
  refine pw_bipush (v := 48) (tk tkX6_readNumber 17 rfl) (by decide) ?_
  refine pw_isub (tk tkX6_readNumber 18 rfl) ?_
  rw [ed]
  refine pw_ist4 (tk tkX6_readNumber 19 rfl) rfl (by decide) ?_
  refine pw_iload_n (tk tkX6_readNumber 20 rfl) rfl ?_
  refine pw_if_ne (tgt := 43) (tk tkX6_readNumber 21 rfl) (by decide) (fun c => absurd rfl c) (fun c35 => ?_)
  refine pw_iload (tk tkX6_readNumber 22 rfl) rfl ?_
  refine pw_goto (tgt := 50) (tk tkX6_readNumber 23 rfl) (by decide) ?_
  refine pw_ist2 (tk tkX6_readNumber 29 rfl) rfl (by decide) ?_
  refine pw_aload_n (tk tkX6_readNumber 30 rfl) rfl ?_
  refine pw_dup (tk tkX6_readNumber 31 rfl) rfl ?_
  refine g6_at (tk tkX6_readNumber 32 rfl) fkX6_23 ?_
  refine pw_iconst (v := 1) (tk tkX6_readNumber 33 rfl) (by decide) ?_
  refine pw_iadd (tk tkX6_readNumber 34 rfl) ?_
  rw [h4, nI_1]
  refine p6_at (tk tkX6_readNumber 35 rfl) fkX6_23 ?_
  refine pw_inc3 (tk tkX6_readNumber 36 rfl) rfl (by decide) (nI_1 0) ?_
  refine pw_goto (tgt := 4) (tk tkX6_readNumber 37 rfl) (by decide) ?_
  exact L1 d (sp + 1) n _ (by omega) hd (by omega) (by omega) e.symm
def fiN (v : Int32) : Nat := if v = 105 then 0 else if v = 117 then 1 else if v = 114 then 2 else 3
set_option maxRecDepth 100000 in
set_option maxHeartbeats 4000000 in
theorem ct_X6_formOf (h : Hp) (v : Int32) : CT MX6_formOf 0 0 [.int v] h (Det (.inl (some (.ref (1000 + fiN v)))) h) := by
  refine ct_of (by decide +kernel) (by decide) rfl (k := 0) (ls := [some (.int v)]) rfl (Nat.le_of_ble_eq_true rfl) ?_
  have fin : ∀ i, fiN v = i → Det (.inl (some (.ref (1000 + fiN v)))) h (.inl (some (.ref (1000 + i)))) h := fun i e => ⟨by rw [e], rfl⟩
  refine pw_iload_n (tk tkX6_formOf 0 rfl) rfl ?_
  refine pw_bipush (v := 105) (tk tkX6_formOf 1 rfl) (by decide) ?_
  refine pw_icmp_ne (tgt := 9) (tk tkX6_formOf 2 rfl) (by decide) (fun c0 => ?_) (fun c0 => ?_)
  · refine pw_iload_n (tk tkX6_formOf 5 rfl) rfl ?_
    refine pw_bipush (v := 117) (tk tkX6_formOf 6 rfl) (by decide) ?_
    refine pw_icmp_ne (tgt := 18) (tk tkX6_formOf 7 rfl) (by decide) (fun c9 => ?_) (fun c9 => ?_)
    · refine pw_iload_n (tk tkX6_formOf 10 rfl) rfl ?_
      refine pw_bipush (v := 114) (tk tkX6_formOf 11 rfl) (by decide) ?_
      refine pw_icmp_ne (tgt := 29) (tk tkX6_formOf 12 rfl) (by decide) (fun c18 => ?_) (fun c18 => ?_)
      · refine pw_ldcS (i := 3) (by decide) rfl rfl (tk tkX6_formOf 15 rfl) ?_
        exact pw_areturn (tk tkX6_formOf 16 rfl) rfl (by decide) (fin 3 ((if_neg c0).trans ((if_neg c9).trans (if_neg c18))))
      · refine pw_ldcS (i := 2) (by decide) rfl rfl (tk tkX6_formOf 13 rfl) ?_
        refine pw_goto (tgt := 31) (tk tkX6_formOf 14 rfl) (by decide) ?_
        exact pw_areturn (tk tkX6_formOf 16 rfl) rfl (by decide) (fin 2 ((if_neg c0).trans ((if_neg c9).trans (if_pos c18))))
    · refine pw_ldcS (i := 1) (by decide) rfl rfl (tk tkX6_formOf 8 rfl) ?_
      exact pw_areturn (tk tkX6_formOf 9 rfl) rfl (by decide) (fin 1 ((if_neg c0).trans (if_pos c9)))
  · refine pw_ldcS (i := 0) (by decide) rfl rfl (tk tkX6_formOf 3 rfl) ?_
    exact pw_areturn (tk tkX6_formOf 4 rfl) rfl (by decide) (fin 0 (if_pos c0))
