/-! ===== THE LAW: two objects that hold abstract machines; its calls of the class ===== -/
/-- the one holds a, the other b, out holds w -/
def W2 (a b : AM) (w : Int32) (x : XW) : Prop := RC a x.1 ∧ RC b x.2.1 ∧ x.2.2 0 = w
theorem W2.sx {a b : AM} {w : Int32} {x : XW} (h : W2 a b w x) : W2 b a w (sx x) := ⟨h.2.1, h.1, h.2.2⟩
abbrev QI (v : Int32) (P : XW → Prop) : Out → Hp → Prop := fun o h2 => ∃ y, h2 = hp y ∧ P y ∧ o = .inl (some (.int v))
theorem nz1 {e : String} : ∀ q ∈ [((1 : Int32), e)], ¬ q.1 = 0 := fun q hq => by rw [List.mem_singleton.mp hq]; exact (by decide : ¬ (1 : Int32) = 0)
theorem nz2 {e f : String} : ∀ q ∈ [((1 : Int32), e), (2, f)], ¬ q.1 = 0 := fun q hq => by
  rcases List.mem_cons.mp hq with h | h
  · rw [h]; exact (by decide : ¬ (1 : Int32) = 0)
  · rw [List.mem_singleton.mp h]; exact (by decide : ¬ (2 : Int32) = 0)
theorem nz3 {e f g : String} : ∀ q ∈ [((1 : Int32), e), (2, f), (3, g)], ¬ q.1 = 0 := fun q hq => by
  rcases List.mem_cons.mp hq with h | h
  · rw [h]; exact (by decide : ¬ (1 : Int32) = 0)
  · rcases List.mem_cons.mp h with h | h
    · rw [h]; exact (by decide : ¬ (2 : Int32) = 0)
    · rw [List.mem_singleton.mp h]; exact (by decide : ¬ (3 : Int32) = 0)
theorem nz0 : ∀ q ∈ ([] : List (Int32 × String)), ¬ q.1 = 0 := fun q hq => by cases hq
theorem h416 (x : XW) : ∃ fs, (hp x).2 416 = some (.inr (7, fs)) := ⟨_, rfl⟩
section LWK
variable {M : Mth} {d n pc : Nat} {ls : List (Option Value)} {st : List Value} {x : XW} {Q : Out → Hp → Prop} {a b : AM} {w : Int32}
/-- a call that answers, on the one object -/
theorem rdO {M1 : Mth} {idx d1 n1 k N1 : Nat} {T : u_T} {exs : List (Int32 × String)} {R : RS3} {v : Int32} {As rest : List Value} (hW : W2 a b w x) (ct : CT M1 d1 n1 (.ref 160 :: As) (hp x) (CQ exs x R)) (hR : R.1 = 0) (hz : ∀ q ∈ exs, ¬ q.1 = 0) (hv : R.2.1 = v) (ok : MOK M1 k) (hd : decode (mC M) pc = .ok (.invokevirtual idx, 3)) (hlk : Cond.methodLink (mY M).cls idx (mY M1) ∈ UU) (hin : Cond.instanceMethod (mY M1) ∈ UU) (hse : Cond.selects (mY M1).cls (mY M1) (mY M1) ∈ UU) (hcl : vwCl[7]? = some ((mY M1).cls, T, N1)) (hk : As.length = k) (e : st = As.reverse ++ .ref 160 :: rest) (hd1 : d1 + 1 ≤ d) (hn : n1 ≤ n) (hr : (rest.map fun v => v.category).sum ≤ 8) (kk : ∀ y, W2 R.2.2 b w y → PW M d (n - n1) (pc + 3) ls (.int v :: rest) (hp y) Q) : PW M d n pc ls st (hp x) Q := by
  refine pw_callV ct ok hd hlk hin hse (hp_ot x 0) hcl hk e hd1 hn hr (fun r h2 q => ?_) (fun E h2 q => ?_)
  · obtain ⟨y, rfl, hy, hc, ⟨_, h⟩ | ⟨k, E, _, _, h⟩⟩ := q
    · cases h
      subst hv
      exact kk y ⟨hc, by rw [show y.2.1 = x.2.1 from congrArg Prod.fst hy]; exact hW.2.1, by rw [show y.2.2 = x.2.2 from congrArg Prod.snd hy]; exact hW.2.2⟩
    · cases h
  · obtain ⟨y, rfl, hy, hc, ⟨_, h⟩ | ⟨k, E, h1, h2, h⟩⟩ := q
    · cases h
    · exact absurd (h2.symm.trans hR) (hz _ h1)
/-- the same, on the other -/
theorem rdP {M1 : Mth} {idx d1 n1 k N1 : Nat} {T : u_T} {exs : List (Int32 × String)} {R : RS3} {v : Int32} {As rest : List Value} (hW : W2 a b w x) (ct : CT M1 d1 n1 (.ref 160 :: As) (hp (sx x)) (CQ exs (sx x) R)) (has : As.map rn_v = As) (hR : R.1 = 0) (hz : ∀ q ∈ exs, ¬ q.1 = 0) (hv : R.2.1 = v) (ok : MOK M1 k) (hd : decode (mC M) pc = .ok (.invokevirtual idx, 3)) (hlk : Cond.methodLink (mY M).cls idx (mY M1) ∈ UU) (hin : Cond.instanceMethod (mY M1) ∈ UU) (hse : Cond.selects (mY M1).cls (mY M1) (mY M1) ∈ UU) (hcl : vwCl[7]? = some ((mY M1).cls, T, N1)) (hk : As.length = k) (e : st = As.reverse ++ .ref 416 :: rest) (hd1 : d1 + 1 ≤ d) (hn : n1 ≤ n) (hr : (rest.map fun v => v.category).sum ≤ 8) (kk : ∀ y, W2 a R.2.2 w y → PW M d (n - n1) (pc + 3) ls (.int v :: rest) (hp y) Q) : PW M d n pc ls st (hp x) Q := by
  obtain ⟨fs, hfs⟩ := h416 x
  refine pw_callV (ctp ct has) ok hd hlk hin hse hfs hcl hk e hd1 hn hr (fun r h2 q => ?_) (fun E h2 q => ?_)
  · obtain ⟨y, rfl, hy, hy2, hc, ⟨_, h⟩ | ⟨k, E, _, _, h⟩⟩ := q
    · cases h
      subst hv
      exact kk y ⟨by rw [hy]; exact hW.1, hc, by rw [hy2]; exact hW.2.2⟩
    · cases h
  · obtain ⟨y, rfl, hy, hy2, hc, ⟨_, h⟩ | ⟨k, E, h1, h2, h⟩⟩ := q
    · cases h
    · exact absurd (h2.symm.trans hR) (hz _ h1)
theorem pw_ldc {idx : Nat} {v : Int32} (hd : decode (mC M) pc = .ok (.ldc idx, 2)) {h : Hp} (hlk : Cond.constant (mY M).cls idx v ∈ UU) (kk : PW M d n (pc + 2) ls (.int v :: st) h Q) : PW M d n pc ls st h Q := by
  intro p l e_ R s m args below meth c G N H locs cells slots lsA C9 hc hs hR hS hw
  exact lv_ldc C9.1.1 C9.1.2.1 C9.1.2.2.2.2.1 (C9.2.1 _ hlk) hd (kk p l e_ R s m args below meth c G N H locs cells slots lsA C9 hc hs hR hS hw)
end LWK
theorem kcL_7 : Cond.constant RL 7 2147483647 ∈ UU := UU_in 356 (by decide +kernel) rfl
/-- low: of an int and a number a number below it -/
def lwF (v : Int32) (m : Nat) : Nat := (v.toBitVec.toNat % 2 ^ 31) % m
theorem lwF_lt (v : Int32) {m : Nat} (h : 0 < m) : lwF v m < m := Nat.mod_lt _ h
theorem ct_L_low (h : Hp) (v : Int32) (m : Nat) (h0 : 0 < m) (h1 : m < 2 ^ 31) : CT ML_low 0 0 [.int v, .int (nI m)] h (Det (.inl (some (.int (nI (lwF v m))))) h) := by
  refine ct_of (by decide +kernel) (by decide) rfl (k := 0) (ls := [some (.int v), some (.int (nI m))]) rfl (Nat.le_of_ble_eq_true rfl) ?_
  refine pw_iload_n (tk tkL_low 0 rfl) rfl ?_
  refine pw_ldc (tk tkL_low 1 rfl) kcL_7 ?_
  refine pw_iand (tk tkL_low 2 rfl) ?_
  refine pw_iload_n (tk tkL_low 3 rfl) rfl ?_
  refine pw_irem (tk tkL_low 4 rfl) (fun q => by have := (nI_eq (b := 0) (by omega) (by decide)).mp q; omega) ?_
  rw [pk_and v 31 (by decide), pk_rem (Nat.mod_lt _ (by decide)) h0 h1]
  exact pw_ireturn (tk tkL_low 5 rfl) rfl (by decide) rfl ⟨rfl, rfl⟩
/-- cell: some int -/
theorem ad_scr (G : PG) (st : List Value) : (Value.ref 1020 :: st).map (cv G) = Value.ref (G.2.2.2 1020) :: st.map (cv G) := by
  show Value.ref (ad G 1020) :: _ = _
  rw [ad_hi (by decide)]
theorem pw_cellread {n d e : Nat} {h : Hp} {Q : Out → Hp → Prop} (he : e < 1000) (kt : PW ML_cell d n 12 [some (.ref 1020), some (.int (nI e))] [] h Q) (kf : ∀ v, PW ML_cell d n 9 [some (.ref 1020), some (.int (nI e))] [.int v] h Q) : PW ML_cell d n 2 [some (.ref 1020), some (.int (nI e))] [.ref 1020, .int (nI e)] h Q := by
  intro p l e_ R s m args below meth c G N H locs cells slots lsA C9 hc hs hR hS hw
  obtain ⟨xn, xs, x1, x2, x3, x4⟩ := C9.2.2.2.2.2.1.2.2.2.2.1
  have hA : ¬ fr G (G.2.2.2 1020) := fun q => absurd x3 (Nat.not_lt.mpr q)
  rw [ad_scr]
  refine va_slen C9.1.1 C9.1.2.1 x1 x4 hA hS (tk tkL_cell 2 rfl) ?_
  refine lv_icmp_ge C9.1.1 C9.1.2.1 (tk tkL_cell 3 rfl) (tgt := 12) (by decide) (fun q => kt p l e_ R s m args below meth c G N H locs cells slots lsA C9 hc hs hR hS hw) (fun q => ?_)
  have hlt : e < xn := by
    rcases Nat.lt_or_ge e xn with z | z
    · exact z
    · exact absurd (nI_le z (by omega)) q
  refine lv_aload_n C9.1.1 C9.1.2.1 (tk tkL_cell 4 rfl) rfl (hw.2.2 0 _ rfl) ?_
  refine lv_iload_n C9.1.1 C9.1.2.1 (tk tkL_cell 5 rfl) rfl (hw.2.2 1 _ rfl) ?_
  rw [show ad G 1020 = G.2.2.2 1020 from ad_hi (by decide)]
  exact va_sld C9.1.1 C9.1.2.1 x1 x4 hA hS (i := nI e) (vp_in_nI hlt (by omega)) (tk tkL_cell 6 rfl) (kf _ p l e_ R s m args below meth c G N H locs cells slots lsA C9 hc hs hR hS hw)
theorem ct_L_cell (h : Hp) (e : Nat) (he : e < 1000) : CT ML_cell 0 0 [.ref 1020, .int (nI e)] h (fun o h2 => h2 = h ∧ ∃ v, o = .inl (some (.int v))) := by
  refine ct_of (by decide +kernel) (by decide) rfl (k := 0) (ls := [some (.ref 1020), some (.int (nI e))]) rfl (Nat.le_of_ble_eq_true rfl) ?_
  refine pw_iload_n (tk tkL_cell 0 rfl) rfl ?_
  refine pw_aload_n (tk tkL_cell 1 rfl) rfl ?_
  refine pw_cellread he ?_ (fun v => ?_)
  · refine pw_sipush (v := 7919) (tk tkL_cell 8 rfl) (by decide) ?_
    refine pw_iload_n (tk tkL_cell 9 rfl) rfl ?_
    refine pw_bipush (v := 7) (tk tkL_cell 10 rfl) (by decide) ?_
    refine pw_iadd (tk tkL_cell 11 rfl) ?_
    refine pw_imul (tk tkL_cell 12 rfl) ?_
    refine pw_iload_n (tk tkL_cell 13 rfl) rfl ?_
    refine pw_sipush (v := 1327) (tk tkL_cell 14 rfl) (by decide) ?_
    refine pw_iadd (tk tkL_cell 15 rfl) ?_
    refine pw_imul (tk tkL_cell 16 rfl) ?_
    exact pw_ireturn (tk tkL_cell 17 rfl) rfl (by decide) rfl ⟨rfl, _, rfl⟩
  · refine pw_goto (tgt := 26) (tk tkL_cell 7 rfl) (by decide) ?_
    exact pw_ireturn (tk tkL_cell 17 rfl) rfl (by decide) rfl ⟨rfl, _, rfl⟩
theorem z_rowCount {a : AM} : (srowCount a ).1 = 0 ∧ (srowCount a ).2.2 = a := by
  unfold srowCount
  exact ⟨rfl, rfl⟩
theorem z_ruleCount {a : AM} : (sruleCount a ).1 = 0 ∧ (sruleCount a ).2.2 = a := by
  unfold sruleCount
  exact ⟨rfl, rfl⟩
theorem z_eventCount {a : AM} : (seventCount a ).1 = 0 ∧ (seventCount a ).2.2 = a := by
  unfold seventCount
  exact ⟨rfl, rfl⟩
theorem z_logSize {a : AM} : (slogSize a ).1 = 0 ∧ (slogSize a ).2.2 = a := by
  unfold slogSize
  exact ⟨rfl, rfl⟩
theorem z_undoCount {a : AM} : (sundoCount a ).1 = 0 ∧ (sundoCount a ).2.2 = a := by
  unfold sundoCount
  exact ⟨rfl, rfl⟩
theorem z_circularRules {a : AM} : (scircularRules a ).1 = 0 ∧ (scircularRules a ).2.2 = a := by
  unfold scircularRules
  exact ⟨rfl, rfl⟩
theorem z_hasRow {a : AM} {r : Int32} (h1 : inR r 0 5 = true) : (shasRow a r).1 = 0 ∧ (shasRow a r).2.2 = a := by
  unfold shasRow
  rw [if_neg (ne_f h1)]
  split <;> exact ⟨rfl, rfl⟩
theorem z_valueAt {a : AM} {r c : Int32} (h1 : inR r 0 5 = true) (h2 : inR c 0 2 = true) (h3 : ¬ aS a r.toNatClampNeg = 0) : (svalueAt a r c).1 = 0 ∧ (svalueAt a r c).2.2 = a := by
  unfold svalueAt
  rw [if_neg (ne_f h1), if_neg (ne_f h2), if_neg h3]
  exact ⟨rfl, rfl⟩
theorem z_sumOf {a : AM} {c : Int32} (h1 : inR c 0 2 = true) : (ssumOf a c).1 = 0 ∧ (ssumOf a c).2.2 = a := by
  unfold ssumOf
  rw [if_neg (ne_f h1)]
  exact ⟨rfl, rfl⟩
theorem z_actionOf {a : AM} {r : Int32} (h1 : inR r 0 (aS a 25 - 1) = true) : (sactionOf a r).1 = 0 ∧ (sactionOf a r).2.2 = a := by
  unfold sactionOf
  rw [if_neg (ne_f h1)]
  exact ⟨rfl, rfl⟩
theorem z_isMuted {a : AM} {r : Int32} (h1 : inR r 0 (aS a 25 - 1) = true) : (sisMuted a r).1 = 0 ∧ (sisMuted a r).2.2 = a := by
  unfold sisMuted
  rw [if_neg (ne_f h1)]
  split <;> exact ⟨rfl, rfl⟩
theorem z_actsOf {a : AM} {r : Int32} (h1 : inR r 0 (aS a 25 - 1) = true) : (sactsOf a r).1 = 0 ∧ (sactsOf a r).2.2 = a := by
  unfold sactsOf
  rw [if_neg (ne_f h1)]
  exact ⟨rfl, rfl⟩
theorem z_reachOf {a : AM} {r : Int32} (h1 : inR r 0 (aS a 25 - 1) = true) : (sreachOf a r).1 = 0 ∧ (sreachOf a r).2.2 = a := by
  unfold sreachOf
  rw [if_neg (ne_f h1)]
  exact ⟨rfl, rfl⟩
theorem z_reachByTable {a : AM} {r : Int32} (h1 : inR r 0 (aS a 25 - 1) = true) : (sreachByTable a r).1 = 0 ∧ (sreachByTable a r).2.2 = a := by
  unfold sreachByTable sreachOf
  rw [if_neg (ne_f h1)]
  exact ⟨rfl, rfl⟩
theorem z_loggedRule {a : AM} {r : Int32} (h1 : inR r 0 (aS a 99 - 1) = true) : (sloggedRule a r).1 = 0 ∧ (sloggedRule a r).2.2 = a := by
  unfold sloggedRule
  rw [if_neg (ne_f h1)]
  exact ⟨rfl, rfl⟩
theorem z_loggedDepth {a : AM} {r : Int32} (h1 : inR r 0 (aS a 99 - 1) = true) : (sloggedDepth a r).1 = 0 ∧ (sloggedDepth a r).2.2 = a := by
  unfold sloggedDepth
  rw [if_neg (ne_f h1)]
  exact ⟨rfl, rfl⟩
theorem z_canSetOff {a : AM} {r q : Int32} (h1 : inR r 0 (aS a 25 - 1) = true) (h2 : inR q 0 (aS a 25 - 1) = true) : (scanSetOff a r q).1 = 0 ∧ (scanSetOff a r q).2.2 = a := by
  unfold scanSetOff
  rw [if_neg (ne_f h1), if_neg (ne_f h2)]
  exact ⟨rfl, rfl⟩
theorem rO_rowCount {M : Mth} {d n pc : Nat} {ls : List (Option Value)} {rest : List Value} {x : XW} {Q : Out → Hp → Prop} {a b : AM} {w v : Int32} (hW : W2 a b w x) (hv : VS (uN (aS a)) (aS a)) (e : (srowCount a).2.1 = v) (hM : (mY M).cls = RL) (hd : decode (mC M) pc = .ok (.invokevirtual 67, 3)) (hd1 : 31 ≤ d) (hr : (rest.map fun v => v.category).sum ≤ 8) (kk : ∀ y, W2 a b w y → PW M d n (pc + 3) ls (.int v :: rest) (hp y) Q) : PW M d n pc ls (.ref 160 :: rest) (hp x) Q := by
  have z := z_rowCount (a := a)
  refine rdO hW (ct_X7_rowCount x a hW.1 hv) z.1 nz0 e okX7_rowCount hd (by rw [hM]; exact mkL_67) imX7_rowCount seX7_rowCount rfl rfl rfl hd1 (Nat.zero_le _) hr (fun y hy => ?_)
  rw [z.2] at hy
  exact kk y hy
theorem rO_ruleCount {M : Mth} {d n pc : Nat} {ls : List (Option Value)} {rest : List Value} {x : XW} {Q : Out → Hp → Prop} {a b : AM} {w v : Int32} (hW : W2 a b w x) (hv : VS (uN (aS a)) (aS a)) (e : (sruleCount a).2.1 = v) (hM : (mY M).cls = RL) (hd : decode (mC M) pc = .ok (.invokevirtual 51, 3)) (hd1 : 31 ≤ d) (hr : (rest.map fun v => v.category).sum ≤ 8) (kk : ∀ y, W2 a b w y → PW M d n (pc + 3) ls (.int v :: rest) (hp y) Q) : PW M d n pc ls (.ref 160 :: rest) (hp x) Q := by
  have z := z_ruleCount (a := a)
  refine rdO hW (ct_X7_ruleCount x a hW.1 hv) z.1 nz0 e okX7_ruleCount hd (by rw [hM]; exact mkL_51) imX7_ruleCount seX7_ruleCount rfl rfl rfl hd1 (Nat.zero_le _) hr (fun y hy => ?_)
  rw [z.2] at hy
  exact kk y hy
theorem rO_eventCount {M : Mth} {d n pc : Nat} {ls : List (Option Value)} {rest : List Value} {x : XW} {Q : Out → Hp → Prop} {a b : AM} {w v : Int32} (hW : W2 a b w x) (hv : VS (uN (aS a)) (aS a)) (e : (seventCount a).2.1 = v) (hM : (mY M).cls = RL) (hd : decode (mC M) pc = .ok (.invokevirtual 70, 3)) (hd1 : 31 ≤ d) (hr : (rest.map fun v => v.category).sum ≤ 8) (kk : ∀ y, W2 a b w y → PW M d n (pc + 3) ls (.int v :: rest) (hp y) Q) : PW M d n pc ls (.ref 160 :: rest) (hp x) Q := by
  have z := z_eventCount (a := a)
  refine rdO hW (ct_X7_eventCount x a hW.1 hv) z.1 nz0 e okX7_eventCount hd (by rw [hM]; exact mkL_70) imX7_eventCount seX7_eventCount rfl rfl rfl hd1 (Nat.zero_le _) hr (fun y hy => ?_)
  rw [z.2] at hy
  exact kk y hy
theorem rO_logSize {M : Mth} {d n pc : Nat} {ls : List (Option Value)} {rest : List Value} {x : XW} {Q : Out → Hp → Prop} {a b : AM} {w v : Int32} (hW : W2 a b w x) (hv : VS (uN (aS a)) (aS a)) (e : (slogSize a).2.1 = v) (hM : (mY M).cls = RL) (hd : decode (mC M) pc = .ok (.invokevirtual 73, 3)) (hd1 : 31 ≤ d) (hr : (rest.map fun v => v.category).sum ≤ 8) (kk : ∀ y, W2 a b w y → PW M d n (pc + 3) ls (.int v :: rest) (hp y) Q) : PW M d n pc ls (.ref 160 :: rest) (hp x) Q := by
  have z := z_logSize (a := a)
  refine rdO hW (ct_X7_logSize x a hW.1 hv) z.1 nz0 e okX7_logSize hd (by rw [hM]; exact mkL_73) imX7_logSize seX7_logSize rfl rfl rfl hd1 (Nat.zero_le _) hr (fun y hy => ?_)
  rw [z.2] at hy
  exact kk y hy
theorem rO_undoCount {M : Mth} {d n pc : Nat} {ls : List (Option Value)} {rest : List Value} {x : XW} {Q : Out → Hp → Prop} {a b : AM} {w v : Int32} (hW : W2 a b w x) (hv : VS (uN (aS a)) (aS a)) (e : (sundoCount a).2.1 = v) (hM : (mY M).cls = RL) (hd : decode (mC M) pc = .ok (.invokevirtual 122, 3)) (hd1 : 31 ≤ d) (hr : (rest.map fun v => v.category).sum ≤ 8) (kk : ∀ y, W2 a b w y → PW M d n (pc + 3) ls (.int v :: rest) (hp y) Q) : PW M d n pc ls (.ref 160 :: rest) (hp x) Q := by
  have z := z_undoCount (a := a)
  refine rdO hW (ct_X7_undoCount x a hW.1 hv) z.1 nz0 e okX7_undoCount hd (by rw [hM]; exact mkL_122) imX7_undoCount seX7_undoCount rfl rfl rfl hd1 (Nat.zero_le _) hr (fun y hy => ?_)
  rw [z.2] at hy
  exact kk y hy
theorem rO_circularRules {M : Mth} {d n pc : Nat} {ls : List (Option Value)} {rest : List Value} {x : XW} {Q : Out → Hp → Prop} {a b : AM} {w v : Int32} (hW : W2 a b w x) (hv : VS (uN (aS a)) (aS a)) (e : (scircularRules a).2.1 = v) (hM : (mY M).cls = RL) (hd : decode (mC M) pc = .ok (.invokevirtual 76, 3)) (hd1 : 31 ≤ d) (hr : (rest.map fun v => v.category).sum ≤ 8) (kk : ∀ y, W2 a b w y → PW M d n (pc + 3) ls (.int v :: rest) (hp y) Q) : PW M d n pc ls (.ref 160 :: rest) (hp x) Q := by
  have z := z_circularRules (a := a)
  refine rdO hW (ct_X7_circularRules x a hW.1 hv) z.1 nz0 e okX7_circularRules hd (by rw [hM]; exact mkL_76) imX7_circularRules seX7_circularRules rfl rfl rfl hd1 (Nat.zero_le _) hr (fun y hy => ?_)
  rw [z.2] at hy
  exact kk y hy
theorem rO_hasRow {M : Mth} {d n pc : Nat} {ls : List (Option Value)} {rest : List Value} {x : XW} {Q : Out → Hp → Prop} {a b : AM} {w v : Int32} {r : Int32} (hW : W2 a b w x) (hv : VS (uN (aS a)) (aS a)) (h1 : inR r 0 5 = true) (e : (shasRow a r).2.1 = v) (hM : (mY M).cls = RL) (hd : decode (mC M) pc = .ok (.invokevirtual 79, 3)) (hd1 : 31 ≤ d) (hr : (rest.map fun v => v.category).sum ≤ 8) (kk : ∀ y, W2 a b w y → PW M d n (pc + 3) ls (.int v :: rest) (hp y) Q) : PW M d n pc ls (.int r :: .ref 160 :: rest) (hp x) Q := by
  have z := z_hasRow (a := a) (r := r) h1
  refine rdO hW (ct_X7_hasRow x a hW.1 hv r h1) z.1 nz1 e okX7_hasRow hd (by rw [hM]; exact mkL_79) imX7_hasRow seX7_hasRow rfl rfl rfl hd1 (Nat.zero_le _) hr (fun y hy => ?_)
  rw [z.2] at hy
  exact kk y hy
theorem rO_valueAt {M : Mth} {d n pc : Nat} {ls : List (Option Value)} {rest : List Value} {x : XW} {Q : Out → Hp → Prop} {a b : AM} {w v : Int32} {r c : Int32} (hW : W2 a b w x) (hv : VS (uN (aS a)) (aS a)) (h1 : inR r 0 5 = true) (h2 : inR c 0 2 = true) (h3 : ¬ aS a r.toNatClampNeg = 0) (e : (svalueAt a r c).2.1 = v) (hM : (mY M).cls = RL) (hd : decode (mC M) pc = .ok (.invokevirtual 82, 3)) (hd1 : 31 ≤ d) (hr : (rest.map fun v => v.category).sum ≤ 8) (kk : ∀ y, W2 a b w y → PW M d n (pc + 3) ls (.int v :: rest) (hp y) Q) : PW M d n pc ls (.int c :: .int r :: .ref 160 :: rest) (hp x) Q := by
  have z := z_valueAt (a := a) (r := r) (c := c) h1 h2 h3
  refine rdO hW (ct_X7_valueAt x a hW.1 hv r c h1 h2 h3) z.1 nz2 e okX7_valueAt hd (by rw [hM]; exact mkL_82) imX7_valueAt seX7_valueAt rfl rfl rfl hd1 (Nat.zero_le _) hr (fun y hy => ?_)
  rw [z.2] at hy
  exact kk y hy
theorem rO_sumOf {M : Mth} {d n pc : Nat} {ls : List (Option Value)} {rest : List Value} {x : XW} {Q : Out → Hp → Prop} {a b : AM} {w v : Int32} {c : Int32} (hW : W2 a b w x) (hv : VS (uN (aS a)) (aS a)) (h1 : inR c 0 2 = true) (e : (ssumOf a c).2.1 = v) (hM : (mY M).cls = RL) (hd : decode (mC M) pc = .ok (.invokevirtual 110, 3)) (hd1 : 31 ≤ d) (hr : (rest.map fun v => v.category).sum ≤ 8) (kk : ∀ y, W2 a b w y → PW M d n (pc + 3) ls (.int v :: rest) (hp y) Q) : PW M d n pc ls (.int c :: .ref 160 :: rest) (hp x) Q := by
  have z := z_sumOf (a := a) (c := c) h1
  refine rdO hW (ct_X7_sumOf x a hW.1 hv c h1) z.1 nz1 e okX7_sumOf hd (by rw [hM]; exact mkL_110) imX7_sumOf seX7_sumOf rfl rfl rfl hd1 (Nat.zero_le _) hr (fun y hy => ?_)
  rw [z.2] at hy
  exact kk y hy
theorem rO_actionOf {M : Mth} {d n pc : Nat} {ls : List (Option Value)} {rest : List Value} {x : XW} {Q : Out → Hp → Prop} {a b : AM} {w v : Int32} {r : Int32} (hW : W2 a b w x) (hv : VS (uN (aS a)) (aS a)) (h1 : inR r 0 (aS a 25 - 1) = true) (e : (sactionOf a r).2.1 = v) (hM : (mY M).cls = RL) (hd : decode (mC M) pc = .ok (.invokevirtual 85, 3)) (hd1 : 31 ≤ d) (hr : (rest.map fun v => v.category).sum ≤ 8) (kk : ∀ y, W2 a b w y → PW M d n (pc + 3) ls (.int v :: rest) (hp y) Q) : PW M d n pc ls (.int r :: .ref 160 :: rest) (hp x) Q := by
  have z := z_actionOf (a := a) (r := r) h1
  refine rdO hW (ct_X7_actionOf x a hW.1 hv r h1) z.1 nz1 e okX7_actionOf hd (by rw [hM]; exact mkL_85) imX7_actionOf seX7_actionOf rfl rfl rfl hd1 (Nat.zero_le _) hr (fun y hy => ?_)
  rw [z.2] at hy
  exact kk y hy
theorem rO_isMuted {M : Mth} {d n pc : Nat} {ls : List (Option Value)} {rest : List Value} {x : XW} {Q : Out → Hp → Prop} {a b : AM} {w v : Int32} {r : Int32} (hW : W2 a b w x) (hv : VS (uN (aS a)) (aS a)) (h1 : inR r 0 (aS a 25 - 1) = true) (e : (sisMuted a r).2.1 = v) (hM : (mY M).cls = RL) (hd : decode (mC M) pc = .ok (.invokevirtual 88, 3)) (hd1 : 31 ≤ d) (hr : (rest.map fun v => v.category).sum ≤ 8) (kk : ∀ y, W2 a b w y → PW M d n (pc + 3) ls (.int v :: rest) (hp y) Q) : PW M d n pc ls (.int r :: .ref 160 :: rest) (hp x) Q := by
  have z := z_isMuted (a := a) (r := r) h1
  refine rdO hW (ct_X7_isMuted x a hW.1 hv r h1) z.1 nz1 e okX7_isMuted hd (by rw [hM]; exact mkL_88) imX7_isMuted seX7_isMuted rfl rfl rfl hd1 (Nat.zero_le _) hr (fun y hy => ?_)
  rw [z.2] at hy
  exact kk y hy
theorem rO_actsOf {M : Mth} {d n pc : Nat} {ls : List (Option Value)} {rest : List Value} {x : XW} {Q : Out → Hp → Prop} {a b : AM} {w v : Int32} {r : Int32} (hW : W2 a b w x) (hv : VS (uN (aS a)) (aS a)) (h1 : inR r 0 (aS a 25 - 1) = true) (e : (sactsOf a r).2.1 = v) (hM : (mY M).cls = RL) (hd : decode (mC M) pc = .ok (.invokevirtual 91, 3)) (hd1 : 31 ≤ d) (hr : (rest.map fun v => v.category).sum ≤ 8) (kk : ∀ y, W2 a b w y → PW M d n (pc + 3) ls (.int v :: rest) (hp y) Q) : PW M d n pc ls (.int r :: .ref 160 :: rest) (hp x) Q := by
  have z := z_actsOf (a := a) (r := r) h1
  refine rdO hW (ct_X7_actsOf x a hW.1 hv r h1) z.1 nz1 e okX7_actsOf hd (by rw [hM]; exact mkL_91) imX7_actsOf seX7_actsOf rfl rfl rfl hd1 (Nat.zero_le _) hr (fun y hy => ?_)
  rw [z.2] at hy
  exact kk y hy
theorem rO_reachOf {M : Mth} {d n pc : Nat} {ls : List (Option Value)} {rest : List Value} {x : XW} {Q : Out → Hp → Prop} {a b : AM} {w v : Int32} {r : Int32} (hW : W2 a b w x) (hv : VS (uN (aS a)) (aS a)) (h1 : inR r 0 (aS a 25 - 1) = true) (e : (sreachOf a r).2.1 = v) (hM : (mY M).cls = RL) (hd : decode (mC M) pc = .ok (.invokevirtual 100, 3)) (hd1 : 31 ≤ d) (hr : (rest.map fun v => v.category).sum ≤ 8) (kk : ∀ y, W2 a b w y → PW M d n (pc + 3) ls (.int v :: rest) (hp y) Q) : PW M d n pc ls (.int r :: .ref 160 :: rest) (hp x) Q := by
  have z := z_reachOf (a := a) (r := r) h1
  refine rdO hW (ct_X7_reachOf x a hW.1 hv r h1) z.1 nz1 e okX7_reachOf hd (by rw [hM]; exact mkL_100) imX7_reachOf seX7_reachOf rfl rfl rfl hd1 (Nat.zero_le _) hr (fun y hy => ?_)
  rw [z.2] at hy
  exact kk y hy
theorem rO_reachByTable {M : Mth} {d n pc : Nat} {ls : List (Option Value)} {rest : List Value} {x : XW} {Q : Out → Hp → Prop} {a b : AM} {w v : Int32} {r : Int32} (hW : W2 a b w x) (hv : VS (uN (aS a)) (aS a)) (h1 : inR r 0 (aS a 25 - 1) = true) (e : (sreachByTable a r).2.1 = v) (hM : (mY M).cls = RL) (hd : decode (mC M) pc = .ok (.invokevirtual 103, 3)) (hd1 : 31 ≤ d) (hr : (rest.map fun v => v.category).sum ≤ 8) (kk : ∀ y, W2 a b w y → PW M d n (pc + 3) ls (.int v :: rest) (hp y) Q) : PW M d n pc ls (.int r :: .ref 160 :: rest) (hp x) Q := by
  have z := z_reachByTable (a := a) (r := r) h1
  refine rdO hW (ct_X7_reachByTable x a hW.1 hv r h1) z.1 nz1 e okX7_reachByTable hd (by rw [hM]; exact mkL_103) imX7_reachByTable seX7_reachByTable rfl rfl rfl hd1 (Nat.zero_le _) hr (fun y hy => ?_)
  rw [z.2] at hy
  exact kk y hy
theorem rO_loggedRule {M : Mth} {d n pc : Nat} {ls : List (Option Value)} {rest : List Value} {x : XW} {Q : Out → Hp → Prop} {a b : AM} {w v : Int32} {r : Int32} (hW : W2 a b w x) (hv : VS (uN (aS a)) (aS a)) (h1 : inR r 0 (aS a 99 - 1) = true) (e : (sloggedRule a r).2.1 = v) (hM : (mY M).cls = RL) (hd : decode (mC M) pc = .ok (.invokevirtual 94, 3)) (hd1 : 31 ≤ d) (hr : (rest.map fun v => v.category).sum ≤ 8) (kk : ∀ y, W2 a b w y → PW M d n (pc + 3) ls (.int v :: rest) (hp y) Q) : PW M d n pc ls (.int r :: .ref 160 :: rest) (hp x) Q := by
  have z := z_loggedRule (a := a) (r := r) h1
  refine rdO hW (ct_X7_loggedRule x a hW.1 hv r h1) z.1 nz1 e okX7_loggedRule hd (by rw [hM]; exact mkL_94) imX7_loggedRule seX7_loggedRule rfl rfl rfl hd1 (Nat.zero_le _) hr (fun y hy => ?_)
  rw [z.2] at hy
  exact kk y hy
theorem rO_loggedDepth {M : Mth} {d n pc : Nat} {ls : List (Option Value)} {rest : List Value} {x : XW} {Q : Out → Hp → Prop} {a b : AM} {w v : Int32} {r : Int32} (hW : W2 a b w x) (hv : VS (uN (aS a)) (aS a)) (h1 : inR r 0 (aS a 99 - 1) = true) (e : (sloggedDepth a r).2.1 = v) (hM : (mY M).cls = RL) (hd : decode (mC M) pc = .ok (.invokevirtual 97, 3)) (hd1 : 31 ≤ d) (hr : (rest.map fun v => v.category).sum ≤ 8) (kk : ∀ y, W2 a b w y → PW M d n (pc + 3) ls (.int v :: rest) (hp y) Q) : PW M d n pc ls (.int r :: .ref 160 :: rest) (hp x) Q := by
  have z := z_loggedDepth (a := a) (r := r) h1
  refine rdO hW (ct_X7_loggedDepth x a hW.1 hv r h1) z.1 nz1 e okX7_loggedDepth hd (by rw [hM]; exact mkL_97) imX7_loggedDepth seX7_loggedDepth rfl rfl rfl hd1 (Nat.zero_le _) hr (fun y hy => ?_)
  rw [z.2] at hy
  exact kk y hy
theorem rO_canSetOff {M : Mth} {d n pc : Nat} {ls : List (Option Value)} {rest : List Value} {x : XW} {Q : Out → Hp → Prop} {a b : AM} {w v : Int32} {r q : Int32} (hW : W2 a b w x) (hv : VS (uN (aS a)) (aS a)) (h1 : inR r 0 (aS a 25 - 1) = true) (h2 : inR q 0 (aS a 25 - 1) = true) (e : (scanSetOff a r q).2.1 = v) (hM : (mY M).cls = RL) (hd : decode (mC M) pc = .ok (.invokevirtual 106, 3)) (hd1 : 31 ≤ d) (hr : (rest.map fun v => v.category).sum ≤ 8) (kk : ∀ y, W2 a b w y → PW M d n (pc + 3) ls (.int v :: rest) (hp y) Q) : PW M d n pc ls (.int q :: .int r :: .ref 160 :: rest) (hp x) Q := by
  have z := z_canSetOff (a := a) (r := r) (q := q) h1 h2
  refine rdO hW (ct_X7_canSetOff x a hW.1 hv r q h1 h2) z.1 nz1 e okX7_canSetOff hd (by rw [hM]; exact mkL_106) imX7_canSetOff seX7_canSetOff rfl rfl rfl hd1 (Nat.zero_le _) hr (fun y hy => ?_)
  rw [z.2] at hy
  exact kk y hy
theorem rP_rowCount {M : Mth} {d n pc : Nat} {ls : List (Option Value)} {rest : List Value} {x : XW} {Q : Out → Hp → Prop} {a b : AM} {w v : Int32} (hW : W2 a b w x) (hv : VS (uN (aS b)) (aS b)) (e : (srowCount b).2.1 = v) (hM : (mY M).cls = RL) (hd : decode (mC M) pc = .ok (.invokevirtual 67, 3)) (hd1 : 31 ≤ d) (hr : (rest.map fun v => v.category).sum ≤ 8) (kk : ∀ y, W2 a b w y → PW M d n (pc + 3) ls (.int v :: rest) (hp y) Q) : PW M d n pc ls (.ref 416 :: rest) (hp x) Q := by
  have z := z_rowCount (a := b)
  refine rdP hW (ct_X7_rowCount (sx x) b hW.2.1 hv) rfl z.1 nz0 e okX7_rowCount hd (by rw [hM]; exact mkL_67) imX7_rowCount seX7_rowCount rfl rfl rfl hd1 (Nat.zero_le _) hr (fun y hy => ?_)
  rw [z.2] at hy
  exact kk y hy
theorem rP_ruleCount {M : Mth} {d n pc : Nat} {ls : List (Option Value)} {rest : List Value} {x : XW} {Q : Out → Hp → Prop} {a b : AM} {w v : Int32} (hW : W2 a b w x) (hv : VS (uN (aS b)) (aS b)) (e : (sruleCount b).2.1 = v) (hM : (mY M).cls = RL) (hd : decode (mC M) pc = .ok (.invokevirtual 51, 3)) (hd1 : 31 ≤ d) (hr : (rest.map fun v => v.category).sum ≤ 8) (kk : ∀ y, W2 a b w y → PW M d n (pc + 3) ls (.int v :: rest) (hp y) Q) : PW M d n pc ls (.ref 416 :: rest) (hp x) Q := by
  have z := z_ruleCount (a := b)
  refine rdP hW (ct_X7_ruleCount (sx x) b hW.2.1 hv) rfl z.1 nz0 e okX7_ruleCount hd (by rw [hM]; exact mkL_51) imX7_ruleCount seX7_ruleCount rfl rfl rfl hd1 (Nat.zero_le _) hr (fun y hy => ?_)
  rw [z.2] at hy
  exact kk y hy
theorem rP_eventCount {M : Mth} {d n pc : Nat} {ls : List (Option Value)} {rest : List Value} {x : XW} {Q : Out → Hp → Prop} {a b : AM} {w v : Int32} (hW : W2 a b w x) (hv : VS (uN (aS b)) (aS b)) (e : (seventCount b).2.1 = v) (hM : (mY M).cls = RL) (hd : decode (mC M) pc = .ok (.invokevirtual 70, 3)) (hd1 : 31 ≤ d) (hr : (rest.map fun v => v.category).sum ≤ 8) (kk : ∀ y, W2 a b w y → PW M d n (pc + 3) ls (.int v :: rest) (hp y) Q) : PW M d n pc ls (.ref 416 :: rest) (hp x) Q := by
  have z := z_eventCount (a := b)
  refine rdP hW (ct_X7_eventCount (sx x) b hW.2.1 hv) rfl z.1 nz0 e okX7_eventCount hd (by rw [hM]; exact mkL_70) imX7_eventCount seX7_eventCount rfl rfl rfl hd1 (Nat.zero_le _) hr (fun y hy => ?_)
  rw [z.2] at hy
  exact kk y hy
theorem rP_logSize {M : Mth} {d n pc : Nat} {ls : List (Option Value)} {rest : List Value} {x : XW} {Q : Out → Hp → Prop} {a b : AM} {w v : Int32} (hW : W2 a b w x) (hv : VS (uN (aS b)) (aS b)) (e : (slogSize b).2.1 = v) (hM : (mY M).cls = RL) (hd : decode (mC M) pc = .ok (.invokevirtual 73, 3)) (hd1 : 31 ≤ d) (hr : (rest.map fun v => v.category).sum ≤ 8) (kk : ∀ y, W2 a b w y → PW M d n (pc + 3) ls (.int v :: rest) (hp y) Q) : PW M d n pc ls (.ref 416 :: rest) (hp x) Q := by
  have z := z_logSize (a := b)
  refine rdP hW (ct_X7_logSize (sx x) b hW.2.1 hv) rfl z.1 nz0 e okX7_logSize hd (by rw [hM]; exact mkL_73) imX7_logSize seX7_logSize rfl rfl rfl hd1 (Nat.zero_le _) hr (fun y hy => ?_)
  rw [z.2] at hy
  exact kk y hy
theorem rP_undoCount {M : Mth} {d n pc : Nat} {ls : List (Option Value)} {rest : List Value} {x : XW} {Q : Out → Hp → Prop} {a b : AM} {w v : Int32} (hW : W2 a b w x) (hv : VS (uN (aS b)) (aS b)) (e : (sundoCount b).2.1 = v) (hM : (mY M).cls = RL) (hd : decode (mC M) pc = .ok (.invokevirtual 122, 3)) (hd1 : 31 ≤ d) (hr : (rest.map fun v => v.category).sum ≤ 8) (kk : ∀ y, W2 a b w y → PW M d n (pc + 3) ls (.int v :: rest) (hp y) Q) : PW M d n pc ls (.ref 416 :: rest) (hp x) Q := by
  have z := z_undoCount (a := b)
  refine rdP hW (ct_X7_undoCount (sx x) b hW.2.1 hv) rfl z.1 nz0 e okX7_undoCount hd (by rw [hM]; exact mkL_122) imX7_undoCount seX7_undoCount rfl rfl rfl hd1 (Nat.zero_le _) hr (fun y hy => ?_)
  rw [z.2] at hy
  exact kk y hy
theorem rP_circularRules {M : Mth} {d n pc : Nat} {ls : List (Option Value)} {rest : List Value} {x : XW} {Q : Out → Hp → Prop} {a b : AM} {w v : Int32} (hW : W2 a b w x) (hv : VS (uN (aS b)) (aS b)) (e : (scircularRules b).2.1 = v) (hM : (mY M).cls = RL) (hd : decode (mC M) pc = .ok (.invokevirtual 76, 3)) (hd1 : 31 ≤ d) (hr : (rest.map fun v => v.category).sum ≤ 8) (kk : ∀ y, W2 a b w y → PW M d n (pc + 3) ls (.int v :: rest) (hp y) Q) : PW M d n pc ls (.ref 416 :: rest) (hp x) Q := by
  have z := z_circularRules (a := b)
  refine rdP hW (ct_X7_circularRules (sx x) b hW.2.1 hv) rfl z.1 nz0 e okX7_circularRules hd (by rw [hM]; exact mkL_76) imX7_circularRules seX7_circularRules rfl rfl rfl hd1 (Nat.zero_le _) hr (fun y hy => ?_)
  rw [z.2] at hy
  exact kk y hy
theorem rP_hasRow {M : Mth} {d n pc : Nat} {ls : List (Option Value)} {rest : List Value} {x : XW} {Q : Out → Hp → Prop} {a b : AM} {w v : Int32} {r : Int32} (hW : W2 a b w x) (hv : VS (uN (aS b)) (aS b)) (h1 : inR r 0 5 = true) (e : (shasRow b r).2.1 = v) (hM : (mY M).cls = RL) (hd : decode (mC M) pc = .ok (.invokevirtual 79, 3)) (hd1 : 31 ≤ d) (hr : (rest.map fun v => v.category).sum ≤ 8) (kk : ∀ y, W2 a b w y → PW M d n (pc + 3) ls (.int v :: rest) (hp y) Q) : PW M d n pc ls (.int r :: .ref 416 :: rest) (hp x) Q := by
  have z := z_hasRow (a := b) (r := r) h1
  refine rdP hW (ct_X7_hasRow (sx x) b hW.2.1 hv r h1) rfl z.1 nz1 e okX7_hasRow hd (by rw [hM]; exact mkL_79) imX7_hasRow seX7_hasRow rfl rfl rfl hd1 (Nat.zero_le _) hr (fun y hy => ?_)
  rw [z.2] at hy
  exact kk y hy
theorem rP_valueAt {M : Mth} {d n pc : Nat} {ls : List (Option Value)} {rest : List Value} {x : XW} {Q : Out → Hp → Prop} {a b : AM} {w v : Int32} {r c : Int32} (hW : W2 a b w x) (hv : VS (uN (aS b)) (aS b)) (h1 : inR r 0 5 = true) (h2 : inR c 0 2 = true) (h3 : ¬ aS b r.toNatClampNeg = 0) (e : (svalueAt b r c).2.1 = v) (hM : (mY M).cls = RL) (hd : decode (mC M) pc = .ok (.invokevirtual 82, 3)) (hd1 : 31 ≤ d) (hr : (rest.map fun v => v.category).sum ≤ 8) (kk : ∀ y, W2 a b w y → PW M d n (pc + 3) ls (.int v :: rest) (hp y) Q) : PW M d n pc ls (.int c :: .int r :: .ref 416 :: rest) (hp x) Q := by
  have z := z_valueAt (a := b) (r := r) (c := c) h1 h2 h3
  refine rdP hW (ct_X7_valueAt (sx x) b hW.2.1 hv r c h1 h2 h3) rfl z.1 nz2 e okX7_valueAt hd (by rw [hM]; exact mkL_82) imX7_valueAt seX7_valueAt rfl rfl rfl hd1 (Nat.zero_le _) hr (fun y hy => ?_)
  rw [z.2] at hy
  exact kk y hy
theorem rP_sumOf {M : Mth} {d n pc : Nat} {ls : List (Option Value)} {rest : List Value} {x : XW} {Q : Out → Hp → Prop} {a b : AM} {w v : Int32} {c : Int32} (hW : W2 a b w x) (hv : VS (uN (aS b)) (aS b)) (h1 : inR c 0 2 = true) (e : (ssumOf b c).2.1 = v) (hM : (mY M).cls = RL) (hd : decode (mC M) pc = .ok (.invokevirtual 110, 3)) (hd1 : 31 ≤ d) (hr : (rest.map fun v => v.category).sum ≤ 8) (kk : ∀ y, W2 a b w y → PW M d n (pc + 3) ls (.int v :: rest) (hp y) Q) : PW M d n pc ls (.int c :: .ref 416 :: rest) (hp x) Q := by
  have z := z_sumOf (a := b) (c := c) h1
  refine rdP hW (ct_X7_sumOf (sx x) b hW.2.1 hv c h1) rfl z.1 nz1 e okX7_sumOf hd (by rw [hM]; exact mkL_110) imX7_sumOf seX7_sumOf rfl rfl rfl hd1 (Nat.zero_le _) hr (fun y hy => ?_)
  rw [z.2] at hy
  exact kk y hy
theorem rP_actionOf {M : Mth} {d n pc : Nat} {ls : List (Option Value)} {rest : List Value} {x : XW} {Q : Out → Hp → Prop} {a b : AM} {w v : Int32} {r : Int32} (hW : W2 a b w x) (hv : VS (uN (aS b)) (aS b)) (h1 : inR r 0 (aS b 25 - 1) = true) (e : (sactionOf b r).2.1 = v) (hM : (mY M).cls = RL) (hd : decode (mC M) pc = .ok (.invokevirtual 85, 3)) (hd1 : 31 ≤ d) (hr : (rest.map fun v => v.category).sum ≤ 8) (kk : ∀ y, W2 a b w y → PW M d n (pc + 3) ls (.int v :: rest) (hp y) Q) : PW M d n pc ls (.int r :: .ref 416 :: rest) (hp x) Q := by
  have z := z_actionOf (a := b) (r := r) h1
  refine rdP hW (ct_X7_actionOf (sx x) b hW.2.1 hv r h1) rfl z.1 nz1 e okX7_actionOf hd (by rw [hM]; exact mkL_85) imX7_actionOf seX7_actionOf rfl rfl rfl hd1 (Nat.zero_le _) hr (fun y hy => ?_)
  rw [z.2] at hy
  exact kk y hy
theorem rP_isMuted {M : Mth} {d n pc : Nat} {ls : List (Option Value)} {rest : List Value} {x : XW} {Q : Out → Hp → Prop} {a b : AM} {w v : Int32} {r : Int32} (hW : W2 a b w x) (hv : VS (uN (aS b)) (aS b)) (h1 : inR r 0 (aS b 25 - 1) = true) (e : (sisMuted b r).2.1 = v) (hM : (mY M).cls = RL) (hd : decode (mC M) pc = .ok (.invokevirtual 88, 3)) (hd1 : 31 ≤ d) (hr : (rest.map fun v => v.category).sum ≤ 8) (kk : ∀ y, W2 a b w y → PW M d n (pc + 3) ls (.int v :: rest) (hp y) Q) : PW M d n pc ls (.int r :: .ref 416 :: rest) (hp x) Q := by
  have z := z_isMuted (a := b) (r := r) h1
  refine rdP hW (ct_X7_isMuted (sx x) b hW.2.1 hv r h1) rfl z.1 nz1 e okX7_isMuted hd (by rw [hM]; exact mkL_88) imX7_isMuted seX7_isMuted rfl rfl rfl hd1 (Nat.zero_le _) hr (fun y hy => ?_)
  rw [z.2] at hy
  exact kk y hy
theorem rP_actsOf {M : Mth} {d n pc : Nat} {ls : List (Option Value)} {rest : List Value} {x : XW} {Q : Out → Hp → Prop} {a b : AM} {w v : Int32} {r : Int32} (hW : W2 a b w x) (hv : VS (uN (aS b)) (aS b)) (h1 : inR r 0 (aS b 25 - 1) = true) (e : (sactsOf b r).2.1 = v) (hM : (mY M).cls = RL) (hd : decode (mC M) pc = .ok (.invokevirtual 91, 3)) (hd1 : 31 ≤ d) (hr : (rest.map fun v => v.category).sum ≤ 8) (kk : ∀ y, W2 a b w y → PW M d n (pc + 3) ls (.int v :: rest) (hp y) Q) : PW M d n pc ls (.int r :: .ref 416 :: rest) (hp x) Q := by
  have z := z_actsOf (a := b) (r := r) h1
  refine rdP hW (ct_X7_actsOf (sx x) b hW.2.1 hv r h1) rfl z.1 nz1 e okX7_actsOf hd (by rw [hM]; exact mkL_91) imX7_actsOf seX7_actsOf rfl rfl rfl hd1 (Nat.zero_le _) hr (fun y hy => ?_)
  rw [z.2] at hy
  exact kk y hy
theorem rP_reachOf {M : Mth} {d n pc : Nat} {ls : List (Option Value)} {rest : List Value} {x : XW} {Q : Out → Hp → Prop} {a b : AM} {w v : Int32} {r : Int32} (hW : W2 a b w x) (hv : VS (uN (aS b)) (aS b)) (h1 : inR r 0 (aS b 25 - 1) = true) (e : (sreachOf b r).2.1 = v) (hM : (mY M).cls = RL) (hd : decode (mC M) pc = .ok (.invokevirtual 100, 3)) (hd1 : 31 ≤ d) (hr : (rest.map fun v => v.category).sum ≤ 8) (kk : ∀ y, W2 a b w y → PW M d n (pc + 3) ls (.int v :: rest) (hp y) Q) : PW M d n pc ls (.int r :: .ref 416 :: rest) (hp x) Q := by
  have z := z_reachOf (a := b) (r := r) h1
  refine rdP hW (ct_X7_reachOf (sx x) b hW.2.1 hv r h1) rfl z.1 nz1 e okX7_reachOf hd (by rw [hM]; exact mkL_100) imX7_reachOf seX7_reachOf rfl rfl rfl hd1 (Nat.zero_le _) hr (fun y hy => ?_)
  rw [z.2] at hy
  exact kk y hy
theorem rP_reachByTable {M : Mth} {d n pc : Nat} {ls : List (Option Value)} {rest : List Value} {x : XW} {Q : Out → Hp → Prop} {a b : AM} {w v : Int32} {r : Int32} (hW : W2 a b w x) (hv : VS (uN (aS b)) (aS b)) (h1 : inR r 0 (aS b 25 - 1) = true) (e : (sreachByTable b r).2.1 = v) (hM : (mY M).cls = RL) (hd : decode (mC M) pc = .ok (.invokevirtual 103, 3)) (hd1 : 31 ≤ d) (hr : (rest.map fun v => v.category).sum ≤ 8) (kk : ∀ y, W2 a b w y → PW M d n (pc + 3) ls (.int v :: rest) (hp y) Q) : PW M d n pc ls (.int r :: .ref 416 :: rest) (hp x) Q := by
  have z := z_reachByTable (a := b) (r := r) h1
  refine rdP hW (ct_X7_reachByTable (sx x) b hW.2.1 hv r h1) rfl z.1 nz1 e okX7_reachByTable hd (by rw [hM]; exact mkL_103) imX7_reachByTable seX7_reachByTable rfl rfl rfl hd1 (Nat.zero_le _) hr (fun y hy => ?_)
  rw [z.2] at hy
  exact kk y hy
theorem rP_loggedRule {M : Mth} {d n pc : Nat} {ls : List (Option Value)} {rest : List Value} {x : XW} {Q : Out → Hp → Prop} {a b : AM} {w v : Int32} {r : Int32} (hW : W2 a b w x) (hv : VS (uN (aS b)) (aS b)) (h1 : inR r 0 (aS b 99 - 1) = true) (e : (sloggedRule b r).2.1 = v) (hM : (mY M).cls = RL) (hd : decode (mC M) pc = .ok (.invokevirtual 94, 3)) (hd1 : 31 ≤ d) (hr : (rest.map fun v => v.category).sum ≤ 8) (kk : ∀ y, W2 a b w y → PW M d n (pc + 3) ls (.int v :: rest) (hp y) Q) : PW M d n pc ls (.int r :: .ref 416 :: rest) (hp x) Q := by
  have z := z_loggedRule (a := b) (r := r) h1
  refine rdP hW (ct_X7_loggedRule (sx x) b hW.2.1 hv r h1) rfl z.1 nz1 e okX7_loggedRule hd (by rw [hM]; exact mkL_94) imX7_loggedRule seX7_loggedRule rfl rfl rfl hd1 (Nat.zero_le _) hr (fun y hy => ?_)
  rw [z.2] at hy
  exact kk y hy
theorem rP_loggedDepth {M : Mth} {d n pc : Nat} {ls : List (Option Value)} {rest : List Value} {x : XW} {Q : Out → Hp → Prop} {a b : AM} {w v : Int32} {r : Int32} (hW : W2 a b w x) (hv : VS (uN (aS b)) (aS b)) (h1 : inR r 0 (aS b 99 - 1) = true) (e : (sloggedDepth b r).2.1 = v) (hM : (mY M).cls = RL) (hd : decode (mC M) pc = .ok (.invokevirtual 97, 3)) (hd1 : 31 ≤ d) (hr : (rest.map fun v => v.category).sum ≤ 8) (kk : ∀ y, W2 a b w y → PW M d n (pc + 3) ls (.int v :: rest) (hp y) Q) : PW M d n pc ls (.int r :: .ref 416 :: rest) (hp x) Q := by
  have z := z_loggedDepth (a := b) (r := r) h1
  refine rdP hW (ct_X7_loggedDepth (sx x) b hW.2.1 hv r h1) rfl z.1 nz1 e okX7_loggedDepth hd (by rw [hM]; exact mkL_97) imX7_loggedDepth seX7_loggedDepth rfl rfl rfl hd1 (Nat.zero_le _) hr (fun y hy => ?_)
  rw [z.2] at hy
  exact kk y hy
theorem rP_canSetOff {M : Mth} {d n pc : Nat} {ls : List (Option Value)} {rest : List Value} {x : XW} {Q : Out → Hp → Prop} {a b : AM} {w v : Int32} {r q : Int32} (hW : W2 a b w x) (hv : VS (uN (aS b)) (aS b)) (h1 : inR r 0 (aS b 25 - 1) = true) (h2 : inR q 0 (aS b 25 - 1) = true) (e : (scanSetOff b r q).2.1 = v) (hM : (mY M).cls = RL) (hd : decode (mC M) pc = .ok (.invokevirtual 106, 3)) (hd1 : 31 ≤ d) (hr : (rest.map fun v => v.category).sum ≤ 8) (kk : ∀ y, W2 a b w y → PW M d n (pc + 3) ls (.int v :: rest) (hp y) Q) : PW M d n pc ls (.int q :: .int r :: .ref 416 :: rest) (hp x) Q := by
  have z := z_canSetOff (a := b) (r := r) (q := q) h1 h2
  refine rdP hW (ct_X7_canSetOff (sx x) b hW.2.1 hv r q h1 h2) rfl z.1 nz1 e okX7_canSetOff hd (by rw [hM]; exact mkL_106) imX7_canSetOff seX7_canSetOff rfl rfl rfl hd1 (Nat.zero_le _) hr (fun y hy => ?_)
  rw [z.2] at hy
  exact kk y hy
