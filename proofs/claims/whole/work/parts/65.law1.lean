/-! ===== THE LAW ===== -/
/-- the law; its name and its table of handlers as the machine has them -/
abbrev ML9 (L : Nat) (xs : Nat → Int32) (nm : String) (hh : List (Nat × Nat × Nat × Nat)) : Mth := (⟨RL, nm, "([I)Z"⟩, cL_law, 7, some .boolean, hh, 2, L, xs)
abbrev QL : Out → Hp → Prop := fun o _ => o = .inl (some (.int 1))
set_option maxRecDepth 100000 in
theorem iiL : Cond.initialized RL ∈ UU := UU_in 40 (by decide +kernel) rfl
theorem lg_z {x y : Int64} (h : x = y) : lg_cmp x y = 0 := by
  subst h
  unfold lg_cmp
  rw [if_neg (Int64.lt_irrefl), if_pos rfl]
theorem cq_x {x : XW} {R : RS3} {E : String} {h2 : Hp} (q : CQ [] x R (.inr E) h2) : False := by
  obtain ⟨y, _, _, _, ⟨_, e⟩ | ⟨k, E, hm, _⟩⟩ := q
  · cases e
  · cases hm
section PWL
variable {M : Mth} {d n pc : Nat} {ls : List (Option Value)} {st : List Value} {h : Hp} {Q : Out → Hp → Prop}
theorem pw_less {n' : Nat} (hn : n' ≤ n) (k : PW M d n' pc ls st h Q) : PW M d n pc ls st h Q :=
  fun p l e R s m args below meth c G N H locs cells slots lsA C hc hs hR hS hl => k p l e R s m args below meth c G N H locs cells slots lsA C (by omega) (by omega) hR hS hl
theorem ad_scr (G : PG) (st : List Value) : (Value.ref 1020 :: st).map (cv G) = Value.ref (G.2.2.2 1020) :: st.map (cv G) := by
  show Value.ref (ad G 1020) :: _ = _
  rw [ad_hi (by decide)]
theorem pw_scrLen (hm : mK M = 2) (hd : decode (mC M) pc = .ok (.arraylength, 1)) (k : PW M d n (pc + 1) ls (.int (nI (mN M)) :: st) h Q) : PW M d n pc ls (.ref 1020 :: st) h Q := by
  intro p l e_ R s m args below meth c G N H locs cells slots lsA C9 hc hs hR hS hw
  obtain ⟨-, q1, q2, q3, -⟩ := C9.2.2.2.2.2.2.2.2.2 hm
  rw [ad_scr]
  exact va_slen C9.1.1 C9.1.2.1 q1 (by omega) (by show ¬ G.2.2.1 ≤ G.2.2.2 1020; omega) hS hd (k p l e_ R s m args below meth c G N H locs cells slots lsA C9 hc hs hR hS hw)
theorem pw_sld_e {e : Nat} {i : Int32} (hm : mK M = 2) (hd : decode (mC M) pc = .ok (.iaload, 1)) (hi : i = nI e) (he : e < mN M) (hb : e < 2 ^ 31) (k : PW M d n (pc + 1) ls (.int (mX M e) :: st) h Q) : PW M d n pc ls (.int i :: .ref 1020 :: st) h Q := by
  subst hi
  intro p l e_ R s m args below meth c G N H locs cells slots lsA C9 hc hs hR hS hw
  obtain ⟨-, q1, q2, q3, -⟩ := C9.2.2.2.2.2.2.2.2.2 hm
  have w := k p l e_ R s m args below meth c G N H locs cells slots lsA C9 hc hs hR hS hw
  rw [List.map_cons, ad_scr]
  refine va_sld C9.1.1 C9.1.2.1 q1 (by omega) (by show ¬ G.2.2.1 ≤ G.2.2.2 1020; omega) hS (i := nI e) (by
    unfold vp_in
    rw [nI_clamp hb]
    exact fun q => q.elim (nI_pos hb) (fun q => by omega)) hd ?_
  rw [nI_clamp hb]
  exact w
theorem pw_tabIn {dflt lo hi : Int} {offs : Array Int} {len : Nat} {x : Int32} {off : Int} {tgt : Nat} (hd : decode (mC M) pc = .ok (.tableswitch dflt lo hi offs, len)) (h1 : ¬ x.toInt < lo) (h2 : ¬ hi < x.toInt) (ho : offs[(x.toInt - lo).toNat]? = some off) (ht : (pc : Int) + off = (tgt : Int)) (k : PW M d n tgt ls st h Q) : PW M d n pc ls (.int x :: st) h Q := pw_lift k (fun G hx hb w => lv_tableIn hx hb hd h1 h2 ho ht w)
theorem pw_tabOut {dflt lo hi : Int} {offs : Array Int} {len : Nat} {x : Int32} {tgt : Nat} (hd : decode (mC M) pc = .ok (.tableswitch dflt lo hi offs, len)) (h1 : x.toInt < lo ∨ hi < x.toInt) (ht : (pc : Int) + dflt = (tgt : Int)) (k : PW M d n tgt ls st h Q) : PW M d n pc ls (.int x :: st) h Q := pw_lift k (fun G hx hb w => lv_tableOut hx hb hd h1 ht w)
end PWL
set_option maxRecDepth 100000 in
set_option maxHeartbeats 4000000 in
theorem ct_X8_reachByTable (x : XW) (hx : VM x.2.1) (r : Int32) : CT MX8_reachByTable 5 0 [.ref 171, .int r] (hp x) (MOQ x (sreachByTable (aOf x.2.1) r)) := by
  refine ct_of (by decide +kernel) (by decide) rfl (k := 0) (ls := [some (.ref 171), some (.int r)]) rfl (Nat.le_of_ble_eq_true rfl) ?_
  refine pw_aload_n (tk tkX8_reachByTable 0 rfl) rfl ?_
  refine pw_iload_n (tk tkX8_reachByTable 1 rfl) rfl ?_
  refine pw_callV (ct_X8_reachOf x hx r) okX8_reachOf (tk tkX8_reachByTable 2 rfl) mkX8_136 imX8_reachOf seX8_reachOf (hp_ot _ 11) rfl rfl rfl (by decide) (by decide) (Nat.le_of_ble_eq_true rfl) (fun r h2 q => ?_) (fun E h2 q => by obtain ⟨y, _, _, _, _, e, _⟩ := q; cases e)
  obtain ⟨y, rfl, a1, a2, a3, e, a5, a6⟩ := q
  cases e
  exact pw_ireturn (tk tkX8_reachByTable 3 rfl) rfl (by decide) rfl ⟨_, rfl, a1, a2, a3, rfl, a5, a6⟩
theorem ctm_hasRow {x y : XW} (hx : REL x) (ym : y.2.1 = x.2.1) (r : Int32) : CT MX8_hasRow 3 0 [.ref 171, .int r] (hp y) (MOQ y (shasRow (aOf x.2.1) r)) := by
  rw [← ym]
  exact ct_X8_hasRow y (by rw [ym]; exact hx.2.1) r
theorem ctm_valueAt {x y : XW} (hx : REL x) (ym : y.2.1 = x.2.1) (r c : Int32) : CT MX8_valueAt 3 0 [.ref 171, .int r, .int c] (hp y) (MOQ y (svalueAt (aOf x.2.1) r c)) := by
  rw [← ym]
  exact ct_X8_valueAt y (by rw [ym]; exact hx.2.1) r c
theorem ctm_actionOf {x y : XW} (hx : REL x) (ym : y.2.1 = x.2.1) (r : Int32) : CT MX8_actionOf 3 0 [.ref 171, .int r] (hp y) (MOQ y (sactionOf (aOf x.2.1) r)) := by
  rw [← ym]
  exact ct_X8_actionOf y (by rw [ym]; exact hx.2.1) r
theorem ctm_actsOf {x y : XW} (hx : REL x) (ym : y.2.1 = x.2.1) (r : Int32) : CT MX8_actsOf 3 0 [.ref 171, .int r] (hp y) (MOQ y (sactsOf (aOf x.2.1) r)) := by
  rw [← ym]
  exact ct_X8_actsOf y (by rw [ym]; exact hx.2.1) r
theorem ctm_isMuted {x y : XW} (hx : REL x) (ym : y.2.1 = x.2.1) (r : Int32) : CT MX8_isMuted 3 0 [.ref 171, .int r] (hp y) (MOQ y (sisMuted (aOf x.2.1) r)) := by
  rw [← ym]
  exact ct_X8_isMuted y (by rw [ym]; exact hx.2.1) r
theorem ctm_loggedRule {x y : XW} (hx : REL x) (ym : y.2.1 = x.2.1) (r : Int32) : CT MX8_loggedRule 3 0 [.ref 171, .int r] (hp y) (MOQ y (sloggedRule (aOf x.2.1) r)) := by
  rw [← ym]
  exact ct_X8_loggedRule y (by rw [ym]; exact hx.2.1) r
theorem ctm_loggedDepth {x y : XW} (hx : REL x) (ym : y.2.1 = x.2.1) (r : Int32) : CT MX8_loggedDepth 3 0 [.ref 171, .int r] (hp y) (MOQ y (sloggedDepth (aOf x.2.1) r)) := by
  rw [← ym]
  exact ct_X8_loggedDepth y (by rw [ym]; exact hx.2.1) r
theorem ctm_setDepth {x y : XW} (hx : REL x) (ym : y.2.1 = x.2.1) (r : Int32) : CT MX8_setDepth 3 0 [.ref 171, .int r] (hp y) (MOQ y (ssetDepth (aOf x.2.1) r)) := by
  rw [← ym]
  exact ct_X8_setDepth y (by rw [ym]; exact hx.2.1) r
theorem ctm_turnMute {x y : XW} (hx : REL x) (ym : y.2.1 = x.2.1) (r : Int32) : CT MX8_turnMute 3 0 [.ref 171, .int r] (hp y) (MOQ y (sturnMute (aOf x.2.1) r)) := by
  rw [← ym]
  exact ct_X8_turnMute y (by rw [ym]; exact hx.2.1) r
theorem ctm_setAction {x y : XW} (hx : REL x) (ym : y.2.1 = x.2.1) (r k ro c m : Int32) : CT MX8_setAction 3 0 [.ref 171, .int r, .int k, .int ro, .int c, .int m] (hp y) (MOQ y (ssetAction (aOf x.2.1) r k ro c m)) := by
  rw [← ym]
  exact ct_X8_setAction y (by rw [ym]; exact hx.2.1) r k ro c m
theorem ctm_addRule {x y : XW} (hx : REL x) (ym : y.2.1 = x.2.1) (e c l : Int32) : CT MX8_addRule 3 0 [.ref 171, .int e, .int c, .int l] (hp y) (MOQ y (saddRule (aOf x.2.1) e c l)) := by
  rw [← ym]
  exact ct_X8_addRule y (by rw [ym]; exact hx.2.1) e c l
theorem ctm_loadState {x y : XW} (hx : REL x) (ym : y.2.1 = x.2.1) (r : Int32) : CT MX8_loadState 3 0 [.ref 171, .int r] (hp y) (MOQ y (sloadState (aOf x.2.1) r)) := by
  rw [← ym]
  exact ct_X8_loadState y (by rw [ym]; exact hx.2.1) (by rw [ym]; exact hx.hg.2.1) r
theorem ctm_saveState {x y : XW} (hx : REL x) (ym : y.2.1 = x.2.1) (r : Int32) : CT MX8_saveState 3 0 [.ref 171, .int r] (hp y) (MOQ y (ssaveState (aOf x.2.1) r)) := by
  rw [← ym]
  exact ct_X8_saveState y (by rw [ym]; exact hx.2.1) r
theorem ctm_insert {x y : XW} (hx : REL x) (ym : y.2.1 = x.2.1) (r p q w : Int32) : CT MX8_insert 7 0 [.ref 171, .int r, .int p, .int q, .int w] (hp y) (MOQ y (sinsert (aOf x.2.1) r p q w)) := by
  rw [← ym]
  exact ct_X8_insert y (by rw [ym]; exact hx.2.1) r p q w
theorem ctm_update {x y : XW} (hx : REL x) (ym : y.2.1 = x.2.1) (r c v : Int32) : CT MX8_update 7 0 [.ref 171, .int r, .int c, .int v] (hp y) (MOQ y (supdate (aOf x.2.1) r c v)) := by
  rw [← ym]
  exact ct_X8_update y (by rw [ym]; exact hx.2.1) r c v
theorem ctm_remove {x y : XW} (hx : REL x) (ym : y.2.1 = x.2.1) (r : Int32) : CT MX8_remove 7 0 [.ref 171, .int r] (hp y) (MOQ y (sremove (aOf x.2.1) r)) := by
  rw [← ym]
  exact ct_X8_remove y (by rw [ym]; exact hx.2.1) r
theorem ctm_whyNotUpdate {x y : XW} (hx : REL x) (ym : y.2.1 = x.2.1) (r c v : Int32) : CT MX8_whyNotUpdate 8 0 [.ref 171, .int r, .int c, .int v] (hp y) (MOQ y (swhyNotUpdate (aOf x.2.1) r c v)) := by
  rw [← ym]
  exact ct_X8_whyNotUpdate y (by rw [ym]; exact hx.2.1) r c v
theorem ctm_eventsOfUpdate {x y : XW} (hx : REL x) (ym : y.2.1 = x.2.1) (r c v : Int32) : CT MX8_eventsOfUpdate 8 0 [.ref 171, .int r, .int c, .int v] (hp y) (MOQ y (seventsOfUpdate (aOf x.2.1) r c v)) := by
  rw [← ym]
  exact ct_X8_eventsOfUpdate y (by rw [ym]; exact hx.2.1) r c v
theorem ctm_depthOfUpdate {x y : XW} (hx : REL x) (ym : y.2.1 = x.2.1) (r c v : Int32) : CT MX8_depthOfUpdate 8 0 [.ref 171, .int r, .int c, .int v] (hp y) (MOQ y (sdepthOfUpdate (aOf x.2.1) r c v)) := by
  rw [← ym]
  exact ct_X8_depthOfUpdate y (by rw [ym]; exact hx.2.1) r c v
theorem ctm_sumOf {x y : XW} (hx : REL x) (ym : y.2.1 = x.2.1) (c : Int32) : CT MX8_sumOf 3 0 [.ref 171, .int c] (hp y) (MOQ y (ssumOf (aOf x.2.1) c)) := by
  rw [← ym]
  exact ct_X8_sumOf y (by rw [ym]; exact hx.2.1) c
theorem ctm_canSetOff {x y : XW} (hx : REL x) (ym : y.2.1 = x.2.1) (r q : Int32) : CT MX8_canSetOff 3 0 [.ref 171, .int r, .int q] (hp y) (MOQ y (scanSetOff (aOf x.2.1) r q)) := by
  rw [← ym]
  exact ct_X8_canSetOff y (by rw [ym]; exact hx.2.1) r q
theorem ctm_reachOf {x y : XW} (hx : REL x) (ym : y.2.1 = x.2.1) (r : Int32) : CT MX8_reachOf 4 0 [.ref 171, .int r] (hp y) (MOQ y (sreachOf (aOf x.2.1) r)) := by
  rw [← ym]
  exact ct_X8_reachOf y (by rw [ym]; exact hx.2.1) r
theorem ctm_reachByTable {x y : XW} (hx : REL x) (ym : y.2.1 = x.2.1) (r : Int32) : CT MX8_reachByTable 5 0 [.ref 171, .int r] (hp y) (MOQ y (sreachByTable (aOf x.2.1) r)) := by
  rw [← ym]
  exact ct_X8_reachByTable y (by rw [ym]; exact hx.2.1) r
theorem ctm_dropRule {x y : XW} (hx : REL x) (ym : y.2.1 = x.2.1) (r : Int32) : CT MX8_dropRule 3 0 [.ref 171, .int r] (hp y) (MOQ y (sdropRule (aOf x.2.1) r)) := by
  rw [← ym]
  exact ct_X8_dropRule y (by rw [ym]; exact hx.2.1) r
theorem ctm_undo {x y : XW} (hx : REL x) (ym : y.2.1 = x.2.1) : CT MX8_undo 3 0 [.ref 171] (hp y) (MOQ y (sundo (aOf x.2.1) )) := by
  rw [← ym]
  exact ct_X8_undo y (by rw [ym]; exact hx.2.1) (by rw [ym]; exact hx.hg.2.1) 
theorem ctm_runText {x y : XW} (hx : REL x) (ym : y.2.1 = x.2.1) : CT MX8_runText 10 0 [.ref 171] (hp y) (MOQ y (srunText (aOf x.2.1) )) := by
  rw [← ym]
  exact ct_X8_runText y (by rw [ym]; exact hx.2.1) 
theorem ctm_appendText {x y : XW} (hx : REL x) (ym : y.2.1 = x.2.1) (j : Int64) : CT MX8_appendText 3 0 [.ref 171, .long j] (hp y) (MOQ y (sappendText (aOf x.2.1) j)) := by
  rw [← ym]
  exact ct_X8_appendText y (by rw [ym]; exact hx.2.1) j
theorem ctm_rowCount {x y : XW} (hx : REL x) (ym : y.2.1 = x.2.1) : CT MX8_rowCount 3 0 [.ref 171] (hp y) (MOQ y (srowCount (aOf x.2.1) )) := by
  rw [← ym]
  exact ct_X8_rowCount y (by rw [ym]; exact hx.2.1) 
theorem ctm_ruleCount {x y : XW} (hx : REL x) (ym : y.2.1 = x.2.1) : CT MX8_ruleCount 3 0 [.ref 171] (hp y) (MOQ y (sruleCount (aOf x.2.1) )) := by
  rw [← ym]
  exact ct_X8_ruleCount y (by rw [ym]; exact hx.2.1) 
theorem ctm_eventCount {x y : XW} (hx : REL x) (ym : y.2.1 = x.2.1) : CT MX8_eventCount 3 0 [.ref 171] (hp y) (MOQ y (seventCount (aOf x.2.1) )) := by
  rw [← ym]
  exact ct_X8_eventCount y (by rw [ym]; exact hx.2.1) 
theorem ctm_logSize {x y : XW} (hx : REL x) (ym : y.2.1 = x.2.1) : CT MX8_logSize 3 0 [.ref 171] (hp y) (MOQ y (slogSize (aOf x.2.1) )) := by
  rw [← ym]
  exact ct_X8_logSize y (by rw [ym]; exact hx.2.1) 
theorem ctm_circularRules {x y : XW} (hx : REL x) (ym : y.2.1 = x.2.1) : CT MX8_circularRules 4 0 [.ref 171] (hp y) (MOQ y (scircularRules (aOf x.2.1) )) := by
  rw [← ym]
  exact ct_X8_circularRules y (by rw [ym]; exact hx.2.1) 
theorem ctm_clearText {x y : XW} (hx : REL x) (ym : y.2.1 = x.2.1) : CT MX8_clearText 3 0 [.ref 171] (hp y) (MOQ y (sclearText (aOf x.2.1) )) := by
  rw [← ym]
  exact ct_X8_clearText y (by rw [ym]; exact hx.2.1) 
theorem ctm_textLength {x y : XW} (hx : REL x) (ym : y.2.1 = x.2.1) : CT MX8_textLength 3 0 [.ref 171] (hp y) (MOQ y (stextLength (aOf x.2.1) )) := by
  rw [← ym]
  exact ct_X8_textLength y (by rw [ym]; exact hx.2.1) 
theorem ctm_textError {x y : XW} (hx : REL x) (ym : y.2.1 = x.2.1) : CT MX8_textError 9 0 [.ref 171] (hp y) (MOQ y (stextError (aOf x.2.1) )) := by
  rw [← ym]
  exact ct_X8_textError y (by rw [ym]; exact hx.2.1) 
theorem ctm_undoCount {x y : XW} (hx : REL x) (ym : y.2.1 = x.2.1) : CT MX8_undoCount 3 0 [.ref 171] (hp y) (MOQ y (sundoCount (aOf x.2.1) )) := by
  rw [← ym]
  exact ct_X8_undoCount y (by rw [ym]; exact hx.2.1) 
set_option maxRecDepth 100000 in
set_option maxHeartbeats 4000000 in
theorem law_0 {L : Nat} {xs : Nat → Int32} {nm : String} {hh : List (Nat × Nat × Nat × Nat)} (hL : L ≤ 3072) {n : Nat} (hn : 6 ≤ n) (j : Nat) (hj : 6 * j + 5 < L) (x : XW) (hx : REL x) (z5 z6 : Option Value) (ih : ∀ (x : XW) (z5 z6 : Option Value), REL x → PW (ML9 L xs nm hh) 32 (n - 6) 2093 [some (.ref 1020), some (.ref 160), some (.ref 171), some (.ref 178), some (.int (nI (6 * j))), z5, z6] [] (hp x) QL) : PW (ML9 L xs nm hh) 32 n 200 [some (.ref 1020), some (.ref 160), some (.ref 171), some (.ref 178), some (.int (nI (6 * j))), z5, z6] [] (hp x) QL := by
  refine pw_aload_n (tk tkL_law0 25 rfl) rfl ?_
  refine pw_aload_n (tk tkL_law0 26 rfl) rfl ?_
  refine pw_iload (tk tkL_law0 27 rfl) rfl ?_
  refine pw_iconst (v := 1) (tk tkL_law0 28 rfl) (by decide) ?_
  refine pw_iadd (tk tkL_law0 29 rfl) ?_
  refine pw_sld_e (e := 6 * j + 1) rfl (tk tkL_law0 30 rfl) (nI_add (6 * j) 1) (show 6 * j + 1 < L by omega) (by omega) ?_
  refine pw_aload_n (tk tkL_law0 31 rfl) rfl ?_
  refine pw_iload (tk tkL_law0 32 rfl) rfl ?_
  refine pw_iconst (v := 2) (tk tkL_law0 33 rfl) (by decide) ?_
  refine pw_iadd (tk tkL_law0 34 rfl) ?_
  refine pw_sld_e (e := 6 * j + 2) rfl (tk tkL_law0 35 rfl) (nI_add (6 * j) 2) (show 6 * j + 2 < L by omega) (by omega) ?_
  refine pw_aload_n (tk tkL_law0 36 rfl) rfl ?_
  refine pw_iload (tk tkL_law0 37 rfl) rfl ?_
  refine pw_iconst (v := 3) (tk tkL_law0 38 rfl) (by decide) ?_
  refine pw_iadd (tk tkL_law0 39 rfl) ?_
  refine pw_sld_e (e := 6 * j + 3) rfl (tk tkL_law1 0 rfl) (nI_add (6 * j) 3) (show 6 * j + 3 < L by omega) (by omega) ?_
  refine pw_aload_n (tk tkL_law1 1 rfl) rfl ?_
  refine pw_callSW (k := 5) (ct_L_addRule x hx _ _ _) rfl (List.cons_ne_nil _ _) cwL_addRule iiL ⟨by decide +kernel, by decide +kernel, by decide +kernel⟩ (by decide) (tk tkL_law1 2 rfl) mkL_109 stL_addRule rfl rfl (by decide) hn (Nat.le_of_ble_eq_true rfl) (fun r h2 q => ?_)
  obtain ⟨y, rfl, ym, yc, er, y0⟩ := q
  cases er
  refine pw_ist5 (tk tkL_law1 3 rfl) rfl (show 5 < 7 by decide) ?_
  refine pw_aload_n (tk tkL_law1 4 rfl) rfl ?_
  refine pw_aload_n (tk tkL_law1 5 rfl) rfl ?_
  refine pw_iload (tk tkL_law1 6 rfl) rfl ?_
  refine pw_iconst (v := 1) (tk tkL_law1 7 rfl) (by decide) ?_
  refine pw_iadd (tk tkL_law1 8 rfl) ?_
  refine pw_sld_e (e := 6 * j + 1) rfl (tk tkL_law1 9 rfl) (nI_add (6 * j) 1) (show 6 * j + 1 < L by omega) (by omega) ?_
  refine pw_aload_n (tk tkL_law1 10 rfl) rfl ?_
  refine pw_iload (tk tkL_law1 11 rfl) rfl ?_
  refine pw_iconst (v := 2) (tk tkL_law1 12 rfl) (by decide) ?_
  refine pw_iadd (tk tkL_law1 13 rfl) ?_
  refine pw_sld_e (e := 6 * j + 2) rfl (tk tkL_law1 14 rfl) (nI_add (6 * j) 2) (show 6 * j + 2 < L by omega) (by omega) ?_
  refine pw_aload_n (tk tkL_law1 15 rfl) rfl ?_
  refine pw_iload (tk tkL_law1 16 rfl) rfl ?_
  refine pw_iconst (v := 3) (tk tkL_law1 17 rfl) (by decide) ?_
  refine pw_iadd (tk tkL_law1 18 rfl) ?_
  refine pw_sld_e (e := 6 * j + 3) rfl (tk tkL_law1 19 rfl) (nI_add (6 * j) 3) (show 6 * j + 3 < L by omega) (by omega) ?_
  refine pw_callV (ctm_addRule hx ym _ _ _) okX8_addRule (tk tkL_law1 20 rfl) mkL_114 imX8_addRule seX8_addRule (hp_ot _ 11) rfl rfl rfl (by decide) (Nat.zero_le _) (Nat.le_of_ble_eq_true rfl) (fun r h2 q => ?_) (fun E h2 q => by obtain ⟨z, _, _, _, _, e, _⟩ := q; cases e)
  obtain ⟨z, rfl, z1, z2, z0, er, zv, ze⟩ := q
  cases er
  refine pw_ist6 (tk tkL_law1 21 rfl) rfl (show 6 < 7 by decide) ?_
  refine pw_aload_n (tk tkL_law1 22 rfl) rfl ?_
  refine pw_cV (ct_X8_thrown z) okX8_thrown (tk tkL_law1 23 rfl) mkL_115 imX8_thrown seX8_thrown (hp_ot _ 11) rfl rfl rfl (by decide) (Nat.zero_le _) (Nat.le_of_ble_eq_true rfl) ?_
  refine pw_iload (tk tkL_law1 24 rfl) rfl ?_
  refine pw_icmp_eq (tgt := 260) (tk tkL_law1 25 rfl) (by decide) (fun c255 => ?_) (fun c255 => absurd z0 c255)
  refine pw_iload (tk tkL_law1 28 rfl) rfl ?_
  refine pw_if_ne (tgt := 277) (tk tkL_law1 29 rfl) (by decide) (fun c262 => ?_) (fun c262 => ?_)
  · refine pw_goto (tgt := 2093) (tk tkL_law1 39 rfl) (by decide) ?_
    exact ih _ _ _ (REL.step yc z1 zv ze (go_addRule hx.hg _ _ _))
  · refine pw_aload_n (tk tkL_law1 30 rfl) rfl ?_
    refine pw_iconst (v := 0) (tk tkL_law1 31 rfl) (by decide) ?_
    refine al_out_e (e := 0) (tk tkL_law1 32 rfl) rfl (by first | decide | omega) ?_
    refine pw_iload (tk tkL_law1 33 rfl) rfl ?_
    refine pw_i2l (tk tkL_law1 34 rfl) rfl ?_
    refine pw_lcmp (tk tkL_law1 35 rfl) ?_
    refine pw_if_eq (tgt := 277) (tk tkL_law1 36 rfl) (by decide) (fun c272 => ?_) (fun c272 => absurd (lg_z (by rw [z2]; exact y0 c262)) c272)
    refine pw_goto (tgt := 2093) (tk tkL_law1 39 rfl) (by decide) ?_
    exact ih _ _ _ (REL.step yc z1 zv ze (go_addRule hx.hg _ _ _))
set_option maxRecDepth 100000 in
set_option maxHeartbeats 4000000 in
theorem law_1 {L : Nat} {xs : Nat → Int32} {nm : String} {hh : List (Nat × Nat × Nat × Nat)} (hL : L ≤ 3072) {n : Nat} (hn : 6 ≤ n) (j : Nat) (hj : 6 * j + 5 < L) (x : XW) (hx : REL x) (z5 z6 : Option Value) (ih : ∀ (x : XW) (z5 z6 : Option Value), REL x → PW (ML9 L xs nm hh) 32 (n - 6) 2093 [some (.ref 1020), some (.ref 160), some (.ref 171), some (.ref 178), some (.int (nI (6 * j))), z5, z6] [] (hp x) QL) : PW (ML9 L xs nm hh) 32 n 280 [some (.ref 1020), some (.ref 160), some (.ref 171), some (.ref 178), some (.int (nI (6 * j))), z5, z6] [] (hp x) QL := by
  refine pw_aload_n (tk tkL_law2 0 rfl) rfl ?_
  refine pw_aload_n (tk tkL_law2 1 rfl) rfl ?_
  refine pw_iload (tk tkL_law2 2 rfl) rfl ?_
  refine pw_iconst (v := 1) (tk tkL_law2 3 rfl) (by decide) ?_
  refine pw_iadd (tk tkL_law2 4 rfl) ?_
  refine pw_sld_e (e := 6 * j + 1) rfl (tk tkL_law2 5 rfl) (nI_add (6 * j) 1) (show 6 * j + 1 < L by omega) (by omega) ?_
  refine pw_aload_n (tk tkL_law2 6 rfl) rfl ?_
  refine pw_iload (tk tkL_law2 7 rfl) rfl ?_
  refine pw_iconst (v := 2) (tk tkL_law2 8 rfl) (by decide) ?_
  refine pw_iadd (tk tkL_law2 9 rfl) ?_
  refine pw_sld_e (e := 6 * j + 2) rfl (tk tkL_law2 10 rfl) (nI_add (6 * j) 2) (show 6 * j + 2 < L by omega) (by omega) ?_
  refine pw_aload_n (tk tkL_law2 11 rfl) rfl ?_
  refine pw_iload (tk tkL_law2 12 rfl) rfl ?_
  refine pw_iconst (v := 3) (tk tkL_law2 13 rfl) (by decide) ?_
  refine pw_iadd (tk tkL_law2 14 rfl) ?_
  refine pw_sld_e (e := 6 * j + 3) rfl (tk tkL_law2 15 rfl) (nI_add (6 * j) 3) (show 6 * j + 3 < L by omega) (by omega) ?_
  refine pw_aload_n (tk tkL_law2 16 rfl) rfl ?_
  refine pw_iload (tk tkL_law2 17 rfl) rfl ?_
  refine pw_iconst (v := 4) (tk tkL_law2 18 rfl) (by decide) ?_
  refine pw_iadd (tk tkL_law2 19 rfl) ?_
  refine pw_sld_e (e := 6 * j + 4) rfl (tk tkL_law2 20 rfl) (nI_add (6 * j) 4) (show 6 * j + 4 < L by omega) (by omega) ?_
  refine pw_aload_n (tk tkL_law2 21 rfl) rfl ?_
  refine pw_iload (tk tkL_law2 22 rfl) rfl ?_
  refine pw_iconst (v := 5) (tk tkL_law2 23 rfl) (by decide) ?_
  refine pw_iadd (tk tkL_law2 24 rfl) ?_
  refine pw_sld_e (e := 6 * j + 5) rfl (tk tkL_law2 25 rfl) (nI_add (6 * j) 5) (show 6 * j + 5 < L by omega) (by omega) ?_
  refine pw_aload_n (tk tkL_law2 26 rfl) rfl ?_
  refine pw_callSW (k := 7) (ct_L_setAction x hx _ _ _ _ _) rfl (List.cons_ne_nil _ _) cwL_setAction iiL ⟨by decide +kernel, by decide +kernel, by decide +kernel⟩ (by decide) (tk tkL_law2 27 rfl) mkL_118 stL_setAction rfl rfl (by decide) hn (Nat.le_of_ble_eq_true rfl) (fun r h2 q => ?_)
  obtain ⟨y, rfl, ym, yc, er, y0⟩ := q
  cases er
  refine pw_ist5 (tk tkL_law2 28 rfl) rfl (show 5 < 7 by decide) ?_
  refine pw_aload_n (tk tkL_law2 29 rfl) rfl ?_
  refine pw_aload_n (tk tkL_law2 30 rfl) rfl ?_
  refine pw_iload (tk tkL_law2 31 rfl) rfl ?_
  refine pw_iconst (v := 1) (tk tkL_law2 32 rfl) (by decide) ?_
  refine pw_iadd (tk tkL_law2 33 rfl) ?_
  refine pw_sld_e (e := 6 * j + 1) rfl (tk tkL_law2 34 rfl) (nI_add (6 * j) 1) (show 6 * j + 1 < L by omega) (by omega) ?_
  refine pw_aload_n (tk tkL_law2 35 rfl) rfl ?_
  refine pw_iload (tk tkL_law2 36 rfl) rfl ?_
  refine pw_iconst (v := 2) (tk tkL_law2 37 rfl) (by decide) ?_
  refine pw_iadd (tk tkL_law2 38 rfl) ?_
  refine pw_sld_e (e := 6 * j + 2) rfl (tk tkL_law2 39 rfl) (nI_add (6 * j) 2) (show 6 * j + 2 < L by omega) (by omega) ?_
  refine pw_aload_n (tk tkL_law3 0 rfl) rfl ?_
  refine pw_iload (tk tkL_law3 1 rfl) rfl ?_
  refine pw_iconst (v := 3) (tk tkL_law3 2 rfl) (by decide) ?_
  refine pw_iadd (tk tkL_law3 3 rfl) ?_
  refine pw_sld_e (e := 6 * j + 3) rfl (tk tkL_law3 4 rfl) (nI_add (6 * j) 3) (show 6 * j + 3 < L by omega) (by omega) ?_
  refine pw_aload_n (tk tkL_law3 5 rfl) rfl ?_
  refine pw_iload (tk tkL_law3 6 rfl) rfl ?_
  refine pw_iconst (v := 4) (tk tkL_law3 7 rfl) (by decide) ?_
  refine pw_iadd (tk tkL_law3 8 rfl) ?_
  refine pw_sld_e (e := 6 * j + 4) rfl (tk tkL_law3 9 rfl) (nI_add (6 * j) 4) (show 6 * j + 4 < L by omega) (by omega) ?_
  refine pw_aload_n (tk tkL_law3 10 rfl) rfl ?_
  refine pw_iload (tk tkL_law3 11 rfl) rfl ?_
  refine pw_iconst (v := 5) (tk tkL_law3 12 rfl) (by decide) ?_
  refine pw_iadd (tk tkL_law3 13 rfl) ?_
  refine pw_sld_e (e := 6 * j + 5) rfl (tk tkL_law3 14 rfl) (nI_add (6 * j) 5) (show 6 * j + 5 < L by omega) (by omega) ?_
  refine pw_callV (ctm_setAction hx ym _ _ _ _ _) okX8_setAction (tk tkL_law3 15 rfl) mkL_121 imX8_setAction seX8_setAction (hp_ot _ 11) rfl rfl rfl (by decide) (Nat.zero_le _) (Nat.le_of_ble_eq_true rfl) (fun r h2 q => ?_) (fun E h2 q => by obtain ⟨z, _, _, _, _, e, _⟩ := q; cases e)
  obtain ⟨z, rfl, z1, z2, z0, er, zv, ze⟩ := q
  cases er
  refine pw_ist6 (tk tkL_law3 16 rfl) rfl (show 6 < 7 by decide) ?_
  refine pw_aload_n (tk tkL_law3 17 rfl) rfl ?_
  refine pw_cV (ct_X8_thrown z) okX8_thrown (tk tkL_law3 18 rfl) mkL_115 imX8_thrown seX8_thrown (hp_ot _ 11) rfl rfl rfl (by decide) (Nat.zero_le _) (Nat.le_of_ble_eq_true rfl) ?_
  refine pw_iload (tk tkL_law3 19 rfl) rfl ?_
  refine pw_icmp_eq (tgt := 364) (tk tkL_law3 20 rfl) (by decide) (fun c359 => ?_) (fun c359 => absurd z0 c359)
  refine pw_iload (tk tkL_law3 23 rfl) rfl ?_
  refine pw_if_ne (tgt := 381) (tk tkL_law3 24 rfl) (by decide) (fun c366 => ?_) (fun c366 => ?_)
  · refine pw_goto (tgt := 2093) (tk tkL_law3 34 rfl) (by decide) ?_
    exact ih _ _ _ (REL.step yc z1 zv ze (go_setAction hx.hg _ _ _ _ _))
  · refine pw_aload_n (tk tkL_law3 25 rfl) rfl ?_
    refine pw_iconst (v := 0) (tk tkL_law3 26 rfl) (by decide) ?_
    refine al_out_e (e := 0) (tk tkL_law3 27 rfl) rfl (by first | decide | omega) ?_
    refine pw_iload (tk tkL_law3 28 rfl) rfl ?_
    refine pw_i2l (tk tkL_law3 29 rfl) rfl ?_
    refine pw_lcmp (tk tkL_law3 30 rfl) ?_
    refine pw_if_eq (tgt := 381) (tk tkL_law3 31 rfl) (by decide) (fun c376 => ?_) (fun c376 => absurd (lg_z (by rw [z2]; exact y0 c366)) c376)
    refine pw_goto (tgt := 2093) (tk tkL_law3 34 rfl) (by decide) ?_
    exact ih _ _ _ (REL.step yc z1 zv ze (go_setAction hx.hg _ _ _ _ _))
set_option maxRecDepth 100000 in
set_option maxHeartbeats 4000000 in
theorem law_2 {L : Nat} {xs : Nat → Int32} {nm : String} {hh : List (Nat × Nat × Nat × Nat)} (hL : L ≤ 3072) {n : Nat} (hn : 6 ≤ n) (j : Nat) (hj : 6 * j + 5 < L) (x : XW) (hx : REL x) (z5 z6 : Option Value) (ih : ∀ (x : XW) (z5 z6 : Option Value), REL x → PW (ML9 L xs nm hh) 32 (n - 6) 2093 [some (.ref 1020), some (.ref 160), some (.ref 171), some (.ref 178), some (.int (nI (6 * j))), z5, z6] [] (hp x) QL) : PW (ML9 L xs nm hh) 32 n 384 [some (.ref 1020), some (.ref 160), some (.ref 171), some (.ref 178), some (.int (nI (6 * j))), z5, z6] [] (hp x) QL := by
  refine pw_aload_n (tk tkL_law3 35 rfl) rfl ?_
  refine pw_aload_n (tk tkL_law3 36 rfl) rfl ?_
  refine pw_iload (tk tkL_law3 37 rfl) rfl ?_
  refine pw_iconst (v := 1) (tk tkL_law3 38 rfl) (by decide) ?_
  refine pw_iadd (tk tkL_law3 39 rfl) ?_
  refine pw_sld_e (e := 6 * j + 1) rfl (tk tkL_law4 0 rfl) (nI_add (6 * j) 1) (show 6 * j + 1 < L by omega) (by omega) ?_
  refine pw_aload_n (tk tkL_law4 1 rfl) rfl ?_
  refine pw_callSW (k := 3) (ct_L_turnMute x hx _) rfl (List.cons_ne_nil _ _) cwL_turnMute iiL ⟨by decide +kernel, by decide +kernel, by decide +kernel⟩ (by decide) (tk tkL_law4 2 rfl) mkL_122 stL_turnMute rfl rfl (by decide) hn (Nat.le_of_ble_eq_true rfl) (fun r h2 q => ?_)
  obtain ⟨y, rfl, ym, yc, er, y0⟩ := q
  cases er
  refine pw_ist5 (tk tkL_law4 3 rfl) rfl (show 5 < 7 by decide) ?_
  refine pw_aload_n (tk tkL_law4 4 rfl) rfl ?_
  refine pw_aload_n (tk tkL_law4 5 rfl) rfl ?_
  refine pw_iload (tk tkL_law4 6 rfl) rfl ?_
  refine pw_iconst (v := 1) (tk tkL_law4 7 rfl) (by decide) ?_
  refine pw_iadd (tk tkL_law4 8 rfl) ?_
  refine pw_sld_e (e := 6 * j + 1) rfl (tk tkL_law4 9 rfl) (nI_add (6 * j) 1) (show 6 * j + 1 < L by omega) (by omega) ?_
  refine pw_callV (ctm_turnMute hx ym _) okX8_turnMute (tk tkL_law4 10 rfl) mkL_125 imX8_turnMute seX8_turnMute (hp_ot _ 11) rfl rfl rfl (by decide) (Nat.zero_le _) (Nat.le_of_ble_eq_true rfl) (fun r h2 q => ?_) (fun E h2 q => by obtain ⟨z, _, _, _, _, e, _⟩ := q; cases e)
  obtain ⟨z, rfl, z1, z2, z0, er, zv, ze⟩ := q
  cases er
  refine pw_ist6 (tk tkL_law4 11 rfl) rfl (show 6 < 7 by decide) ?_
  refine pw_aload_n (tk tkL_law4 12 rfl) rfl ?_
  refine pw_cV (ct_X8_thrown z) okX8_thrown (tk tkL_law4 13 rfl) mkL_115 imX8_thrown seX8_thrown (hp_ot _ 11) rfl rfl rfl (by decide) (Nat.zero_le _) (Nat.le_of_ble_eq_true rfl) ?_
  refine pw_iload (tk tkL_law4 14 rfl) rfl ?_
  refine pw_icmp_eq (tgt := 420) (tk tkL_law4 15 rfl) (by decide) (fun c415 => ?_) (fun c415 => absurd z0 c415)
  refine pw_iload (tk tkL_law4 18 rfl) rfl ?_
  refine pw_if_ne (tgt := 444) (tk tkL_law4 19 rfl) (by decide) (fun c422 => ?_) (fun c422 => ?_)
  · refine pw_goto (tgt := 2093) (tk tkL_law4 32 rfl) (by decide) ?_
    exact ih _ _ _ (REL.step yc z1 zv ze (go_turnMute hx.hg _))
  · refine pw_aload_n (tk tkL_law4 20 rfl) rfl ?_
    refine pw_iconst (v := 0) (tk tkL_law4 21 rfl) (by decide) ?_
    refine al_out_e (e := 0) (tk tkL_law4 22 rfl) rfl (by first | decide | omega) ?_
    refine pw_iload (tk tkL_law4 23 rfl) rfl ?_
    refine pw_if_eq (tgt := 437) (tk tkL_law4 24 rfl) (by decide) (fun c430 => ?_) (fun c430 => ?_)
    · refine pw_lconst (v := 0) (tk tkL_law4 27 rfl) (by decide) ?_
      refine pw_lcmp (tk tkL_law4 28 rfl) ?_
      refine pw_if_eq (tgt := 444) (tk tkL_law4 29 rfl) (by decide) (fun c439 => ?_) (fun c439 => absurd (lg_z (by rw [z2, y0 c422]; exact WV_t0 c430)) c439)
      refine pw_goto (tgt := 2093) (tk tkL_law4 32 rfl) (by decide) ?_
      exact ih _ _ _ (REL.step yc z1 zv ze (go_turnMute hx.hg _))
    · refine pw_lconst (v := 1) (tk tkL_law4 25 rfl) (by decide) ?_
      refine pw_goto (tgt := 438) (tk tkL_law4 26 rfl) (by decide) ?_
      refine pw_lcmp (tk tkL_law4 28 rfl) ?_
      refine pw_if_eq (tgt := 444) (tk tkL_law4 29 rfl) (by decide) (fun c439 => ?_) (fun c439 => absurd (lg_z (by rw [z2, y0 c422]; exact WV_t1 c430)) c439)
      refine pw_goto (tgt := 2093) (tk tkL_law4 32 rfl) (by decide) ?_
      exact ih _ _ _ (REL.step yc z1 zv ze (go_turnMute hx.hg _))
set_option maxRecDepth 100000 in
set_option maxHeartbeats 4000000 in
theorem law_3 {L : Nat} {xs : Nat → Int32} {nm : String} {hh : List (Nat × Nat × Nat × Nat)} (hL : L ≤ 3072) {n : Nat} (hn : 6 ≤ n) (j : Nat) (hj : 6 * j + 5 < L) (x : XW) (hx : REL x) (z5 z6 : Option Value) (ih : ∀ (x : XW) (z5 z6 : Option Value), REL x → PW (ML9 L xs nm hh) 32 (n - 6) 2093 [some (.ref 1020), some (.ref 160), some (.ref 171), some (.ref 178), some (.int (nI (6 * j))), z5, z6] [] (hp x) QL) : PW (ML9 L xs nm hh) 32 n 447 [some (.ref 1020), some (.ref 160), some (.ref 171), some (.ref 178), some (.int (nI (6 * j))), z5, z6] [] (hp x) QL := by
  refine pw_aload_n (tk tkL_law4 33 rfl) rfl ?_
  refine pw_aload_n (tk tkL_law4 34 rfl) rfl ?_
  refine pw_iload (tk tkL_law4 35 rfl) rfl ?_
  refine pw_iconst (v := 1) (tk tkL_law4 36 rfl) (by decide) ?_
  refine pw_iadd (tk tkL_law4 37 rfl) ?_
  refine pw_sld_e (e := 6 * j + 1) rfl (tk tkL_law4 38 rfl) (nI_add (6 * j) 1) (show 6 * j + 1 < L by omega) (by omega) ?_
  refine pw_aload_n (tk tkL_law4 39 rfl) rfl ?_
  refine pw_callSW (k := 3) (ct_L_dropRule x hx _) rfl (List.cons_ne_nil _ _) cwL_dropRule iiL ⟨by decide +kernel, by decide +kernel, by decide +kernel⟩ (by decide) (tk tkL_law5 0 rfl) mkL_126 stL_dropRule rfl rfl (by decide) hn (Nat.le_of_ble_eq_true rfl) (fun r h2 q => ?_)
  obtain ⟨y, rfl, ym, yc, er, y0⟩ := q
  cases er
  refine pw_ist5 (tk tkL_law5 1 rfl) rfl (show 5 < 7 by decide) ?_
  refine pw_aload_n (tk tkL_law5 2 rfl) rfl ?_
  refine pw_aload_n (tk tkL_law5 3 rfl) rfl ?_
  refine pw_iload (tk tkL_law5 4 rfl) rfl ?_
  refine pw_iconst (v := 1) (tk tkL_law5 5 rfl) (by decide) ?_
  refine pw_iadd (tk tkL_law5 6 rfl) ?_
  refine pw_sld_e (e := 6 * j + 1) rfl (tk tkL_law5 7 rfl) (nI_add (6 * j) 1) (show 6 * j + 1 < L by omega) (by omega) ?_
  refine pw_callV (ctm_dropRule hx ym _) okX8_dropRule (tk tkL_law5 8 rfl) mkL_128 imX8_dropRule seX8_dropRule (hp_ot _ 11) rfl rfl rfl (by decide) (Nat.zero_le _) (Nat.le_of_ble_eq_true rfl) (fun r h2 q => ?_) (fun E h2 q => by obtain ⟨z, _, _, _, _, e, _⟩ := q; cases e)
  obtain ⟨z, rfl, z1, z2, z0, er, zv, ze⟩ := q
  cases er
  refine pw_ist6 (tk tkL_law5 9 rfl) rfl (show 6 < 7 by decide) ?_
  refine pw_aload_n (tk tkL_law5 10 rfl) rfl ?_
  refine pw_cV (ct_X8_thrown z) okX8_thrown (tk tkL_law5 11 rfl) mkL_115 imX8_thrown seX8_thrown (hp_ot _ 11) rfl rfl rfl (by decide) (Nat.zero_le _) (Nat.le_of_ble_eq_true rfl) ?_
  refine pw_iload (tk tkL_law5 12 rfl) rfl ?_
  refine pw_icmp_eq (tgt := 483) (tk tkL_law5 13 rfl) (by decide) (fun c478 => ?_) (fun c478 => absurd z0 c478)
  refine pw_iload (tk tkL_law5 16 rfl) rfl ?_
  refine pw_if_ne (tgt := 500) (tk tkL_law5 17 rfl) (by decide) (fun c485 => ?_) (fun c485 => ?_)
  · refine pw_goto (tgt := 2093) (tk tkL_law5 27 rfl) (by decide) ?_
    exact ih _ _ _ (REL.step yc z1 zv ze (go_dropRule hx.hg _))
  · refine pw_aload_n (tk tkL_law5 18 rfl) rfl ?_
    refine pw_iconst (v := 0) (tk tkL_law5 19 rfl) (by decide) ?_
    refine al_out_e (e := 0) (tk tkL_law5 20 rfl) rfl (by first | decide | omega) ?_
    refine pw_iload (tk tkL_law5 21 rfl) rfl ?_
    refine pw_i2l (tk tkL_law5 22 rfl) rfl ?_
    refine pw_lcmp (tk tkL_law5 23 rfl) ?_
    refine pw_if_eq (tgt := 500) (tk tkL_law5 24 rfl) (by decide) (fun c495 => ?_) (fun c495 => absurd (lg_z (by rw [z2]; exact y0 c485)) c495)
    refine pw_goto (tgt := 2093) (tk tkL_law5 27 rfl) (by decide) ?_
    exact ih _ _ _ (REL.step yc z1 zv ze (go_dropRule hx.hg _))
set_option maxRecDepth 100000 in
set_option maxHeartbeats 4000000 in
theorem law_4 {L : Nat} {xs : Nat → Int32} {nm : String} {hh : List (Nat × Nat × Nat × Nat)} (hL : L ≤ 3072) {n : Nat} (hn : 6 ≤ n) (j : Nat) (hj : 6 * j + 5 < L) (x : XW) (hx : REL x) (z5 z6 : Option Value) (ih : ∀ (x : XW) (z5 z6 : Option Value), REL x → PW (ML9 L xs nm hh) 32 (n - 6) 2093 [some (.ref 1020), some (.ref 160), some (.ref 171), some (.ref 178), some (.int (nI (6 * j))), z5, z6] [] (hp x) QL) : PW (ML9 L xs nm hh) 32 n 503 [some (.ref 1020), some (.ref 160), some (.ref 171), some (.ref 178), some (.int (nI (6 * j))), z5, z6] [] (hp x) QL := by
  refine pw_aload_n (tk tkL_law5 28 rfl) rfl ?_
  refine pw_aload_n (tk tkL_law5 29 rfl) rfl ?_
  refine pw_iload (tk tkL_law5 30 rfl) rfl ?_
  refine pw_iconst (v := 1) (tk tkL_law5 31 rfl) (by decide) ?_
  refine pw_iadd (tk tkL_law5 32 rfl) ?_
  refine pw_sld_e (e := 6 * j + 1) rfl (tk tkL_law5 33 rfl) (nI_add (6 * j) 1) (show 6 * j + 1 < L by omega) (by omega) ?_
  refine pw_aload_n (tk tkL_law5 34 rfl) rfl ?_
  refine pw_callSW (k := 3) (ct_L_setDepth x hx _) rfl (List.cons_ne_nil _ _) cwL_setDepth iiL ⟨by decide +kernel, by decide +kernel, by decide +kernel⟩ (by decide) (tk tkL_law5 35 rfl) mkL_129 stL_setDepth rfl rfl (by decide) hn (Nat.le_of_ble_eq_true rfl) (fun r h2 q => ?_)
  obtain ⟨y, rfl, ym, yc, er, y0⟩ := q
  cases er
  refine pw_ist5 (tk tkL_law5 36 rfl) rfl (show 5 < 7 by decide) ?_
  refine pw_aload_n (tk tkL_law5 37 rfl) rfl ?_
  refine pw_aload_n (tk tkL_law5 38 rfl) rfl ?_
  refine pw_iload (tk tkL_law5 39 rfl) rfl ?_
  refine pw_iconst (v := 1) (tk tkL_law6 0 rfl) (by decide) ?_
  refine pw_iadd (tk tkL_law6 1 rfl) ?_
  refine pw_sld_e (e := 6 * j + 1) rfl (tk tkL_law6 2 rfl) (nI_add (6 * j) 1) (show 6 * j + 1 < L by omega) (by omega) ?_
  refine pw_callV (ctm_setDepth hx ym _) okX8_setDepth (tk tkL_law6 3 rfl) mkL_131 imX8_setDepth seX8_setDepth (hp_ot _ 11) rfl rfl rfl (by decide) (Nat.zero_le _) (Nat.le_of_ble_eq_true rfl) (fun r h2 q => ?_) (fun E h2 q => by obtain ⟨z, _, _, _, _, e, _⟩ := q; cases e)
  obtain ⟨z, rfl, z1, z2, z0, er, zv, ze⟩ := q
  cases er
  refine pw_ist6 (tk tkL_law6 4 rfl) rfl (show 6 < 7 by decide) ?_
  refine pw_aload_n (tk tkL_law6 5 rfl) rfl ?_
  refine pw_cV (ct_X8_thrown z) okX8_thrown (tk tkL_law6 6 rfl) mkL_115 imX8_thrown seX8_thrown (hp_ot _ 11) rfl rfl rfl (by decide) (Nat.zero_le _) (Nat.le_of_ble_eq_true rfl) ?_
  refine pw_iload (tk tkL_law6 7 rfl) rfl ?_
  refine pw_icmp_eq (tgt := 539) (tk tkL_law6 8 rfl) (by decide) (fun c534 => ?_) (fun c534 => absurd z0 c534)
  refine pw_iload (tk tkL_law6 11 rfl) rfl ?_
  refine pw_if_ne (tgt := 556) (tk tkL_law6 12 rfl) (by decide) (fun c541 => ?_) (fun c541 => ?_)
  · refine pw_goto (tgt := 2093) (tk tkL_law6 22 rfl) (by decide) ?_
    exact ih _ _ _ (REL.step yc z1 zv ze (go_setDepth hx.hg _))
  · refine pw_aload_n (tk tkL_law6 13 rfl) rfl ?_
    refine pw_iconst (v := 0) (tk tkL_law6 14 rfl) (by decide) ?_
    refine al_out_e (e := 0) (tk tkL_law6 15 rfl) rfl (by first | decide | omega) ?_
    refine pw_iload (tk tkL_law6 16 rfl) rfl ?_
    refine pw_i2l (tk tkL_law6 17 rfl) rfl ?_
    refine pw_lcmp (tk tkL_law6 18 rfl) ?_
    refine pw_if_eq (tgt := 556) (tk tkL_law6 19 rfl) (by decide) (fun c551 => ?_) (fun c551 => absurd (lg_z (by rw [z2]; exact y0 c541)) c551)
    refine pw_goto (tgt := 2093) (tk tkL_law6 22 rfl) (by decide) ?_
    exact ih _ _ _ (REL.step yc z1 zv ze (go_setDepth hx.hg _))
set_option maxRecDepth 100000 in
set_option maxHeartbeats 4000000 in
theorem law_5 {L : Nat} {xs : Nat → Int32} {nm : String} {hh : List (Nat × Nat × Nat × Nat)} (hL : L ≤ 3072) {n : Nat} (hn : 6 ≤ n) (j : Nat) (hj : 6 * j + 5 < L) (x : XW) (hx : REL x) (z5 z6 : Option Value) (ih : ∀ (x : XW) (z5 z6 : Option Value), REL x → PW (ML9 L xs nm hh) 32 (n - 6) 2093 [some (.ref 1020), some (.ref 160), some (.ref 171), some (.ref 178), some (.int (nI (6 * j))), z5, z6] [] (hp x) QL) : PW (ML9 L xs nm hh) 32 n 559 [some (.ref 1020), some (.ref 160), some (.ref 171), some (.ref 178), some (.int (nI (6 * j))), z5, z6] [] (hp x) QL := by
  refine pw_aload_n (tk tkL_law6 23 rfl) rfl ?_
  refine pw_aload_n (tk tkL_law6 24 rfl) rfl ?_
  refine pw_iload (tk tkL_law6 25 rfl) rfl ?_
  refine pw_iconst (v := 1) (tk tkL_law6 26 rfl) (by decide) ?_
  refine pw_iadd (tk tkL_law6 27 rfl) ?_
  refine pw_sld_e (e := 6 * j + 1) rfl (tk tkL_law6 28 rfl) (nI_add (6 * j) 1) (show 6 * j + 1 < L by omega) (by omega) ?_
  refine pw_aload_n (tk tkL_law6 29 rfl) rfl ?_
  refine pw_iload (tk tkL_law6 30 rfl) rfl ?_
  refine pw_iconst (v := 2) (tk tkL_law6 31 rfl) (by decide) ?_
  refine pw_iadd (tk tkL_law6 32 rfl) ?_
  refine pw_sld_e (e := 6 * j + 2) rfl (tk tkL_law6 33 rfl) (nI_add (6 * j) 2) (show 6 * j + 2 < L by omega) (by omega) ?_
  refine pw_aload_n (tk tkL_law6 34 rfl) rfl ?_
  refine pw_iload (tk tkL_law6 35 rfl) rfl ?_
  refine pw_iconst (v := 3) (tk tkL_law6 36 rfl) (by decide) ?_
  refine pw_iadd (tk tkL_law6 37 rfl) ?_
  refine pw_sld_e (e := 6 * j + 3) rfl (tk tkL_law6 38 rfl) (nI_add (6 * j) 3) (show 6 * j + 3 < L by omega) (by omega) ?_
  refine pw_aload_n (tk tkL_law6 39 rfl) rfl ?_
  refine pw_iload (tk tkL_law7 0 rfl) rfl ?_
  refine pw_iconst (v := 4) (tk tkL_law7 1 rfl) (by decide) ?_
  refine pw_iadd (tk tkL_law7 2 rfl) ?_
  refine pw_sld_e (e := 6 * j + 4) rfl (tk tkL_law7 3 rfl) (nI_add (6 * j) 4) (show 6 * j + 4 < L by omega) (by omega) ?_
  refine pw_aload_n (tk tkL_law7 4 rfl) rfl ?_
  refine pw_callSW (k := 6) (ct_L_insert x hx _ _ _ _) rfl (List.cons_ne_nil _ _) cwL_insert iiL ⟨by decide +kernel, by decide +kernel, by decide +kernel⟩ (by decide) (tk tkL_law7 5 rfl) mkL_132 stL_insert rfl rfl (by decide) hn (Nat.le_of_ble_eq_true rfl) (fun r h2 q => ?_)
  obtain ⟨y, rfl, ym, yc, er, y0⟩ := q
  cases er
  refine pw_ist5 (tk tkL_law7 6 rfl) rfl (show 5 < 7 by decide) ?_
  refine pw_aload_n (tk tkL_law7 7 rfl) rfl ?_
  refine pw_aload_n (tk tkL_law7 8 rfl) rfl ?_
  refine pw_iload (tk tkL_law7 9 rfl) rfl ?_
  refine pw_iconst (v := 1) (tk tkL_law7 10 rfl) (by decide) ?_
  refine pw_iadd (tk tkL_law7 11 rfl) ?_
  refine pw_sld_e (e := 6 * j + 1) rfl (tk tkL_law7 12 rfl) (nI_add (6 * j) 1) (show 6 * j + 1 < L by omega) (by omega) ?_
  refine pw_aload_n (tk tkL_law7 13 rfl) rfl ?_
  refine pw_iload (tk tkL_law7 14 rfl) rfl ?_
  refine pw_iconst (v := 2) (tk tkL_law7 15 rfl) (by decide) ?_
  refine pw_iadd (tk tkL_law7 16 rfl) ?_
  refine pw_sld_e (e := 6 * j + 2) rfl (tk tkL_law7 17 rfl) (nI_add (6 * j) 2) (show 6 * j + 2 < L by omega) (by omega) ?_
  refine pw_aload_n (tk tkL_law7 18 rfl) rfl ?_
  refine pw_iload (tk tkL_law7 19 rfl) rfl ?_
  refine pw_iconst (v := 3) (tk tkL_law7 20 rfl) (by decide) ?_
  refine pw_iadd (tk tkL_law7 21 rfl) ?_
  refine pw_sld_e (e := 6 * j + 3) rfl (tk tkL_law7 22 rfl) (nI_add (6 * j) 3) (show 6 * j + 3 < L by omega) (by omega) ?_
  refine pw_aload_n (tk tkL_law7 23 rfl) rfl ?_
  refine pw_iload (tk tkL_law7 24 rfl) rfl ?_
  refine pw_iconst (v := 4) (tk tkL_law7 25 rfl) (by decide) ?_
  refine pw_iadd (tk tkL_law7 26 rfl) ?_
  refine pw_sld_e (e := 6 * j + 4) rfl (tk tkL_law7 27 rfl) (nI_add (6 * j) 4) (show 6 * j + 4 < L by omega) (by omega) ?_
  refine pw_callV (ctm_insert hx ym _ _ _ _) okX8_insert (tk tkL_law7 28 rfl) mkL_135 imX8_insert seX8_insert (hp_ot _ 11) rfl rfl rfl (by decide) (Nat.zero_le _) (Nat.le_of_ble_eq_true rfl) (fun r h2 q => ?_) (fun E h2 q => by obtain ⟨z, _, _, _, _, e, _⟩ := q; cases e)
  obtain ⟨z, rfl, z1, z2, z0, er, zv, ze⟩ := q
  cases er
  refine pw_ist6 (tk tkL_law7 29 rfl) rfl (show 6 < 7 by decide) ?_
  refine pw_aload_n (tk tkL_law7 30 rfl) rfl ?_
  refine pw_cV (ct_X8_thrown z) okX8_thrown (tk tkL_law7 31 rfl) mkL_115 imX8_thrown seX8_thrown (hp_ot _ 11) rfl rfl rfl (by decide) (Nat.zero_le _) (Nat.le_of_ble_eq_true rfl) ?_
  refine pw_iload (tk tkL_law7 32 rfl) rfl ?_
  refine pw_icmp_eq (tgt := 631) (tk tkL_law7 33 rfl) (by decide) (fun c626 => ?_) (fun c626 => absurd z0 c626)
  refine pw_iload (tk tkL_law7 36 rfl) rfl ?_
  refine pw_if_ne (tgt := 648) (tk tkL_law7 37 rfl) (by decide) (fun c633 => ?_) (fun c633 => ?_)
  · refine pw_goto (tgt := 2093) (tk tkL_law8 7 rfl) (by decide) ?_
    exact ih _ _ _ (REL.step yc z1 zv ze (go_insert hx.hg _ _ _ _))
  · refine pw_aload_n (tk tkL_law7 38 rfl) rfl ?_
    refine pw_iconst (v := 0) (tk tkL_law7 39 rfl) (by decide) ?_
    refine al_out_e (e := 0) (tk tkL_law8 0 rfl) rfl (by first | decide | omega) ?_
    refine pw_iload (tk tkL_law8 1 rfl) rfl ?_
    refine pw_i2l (tk tkL_law8 2 rfl) rfl ?_
    refine pw_lcmp (tk tkL_law8 3 rfl) ?_
    refine pw_if_eq (tgt := 648) (tk tkL_law8 4 rfl) (by decide) (fun c643 => ?_) (fun c643 => absurd (lg_z (by rw [z2]; exact y0 c633)) c643)
    refine pw_goto (tgt := 2093) (tk tkL_law8 7 rfl) (by decide) ?_
    exact ih _ _ _ (REL.step yc z1 zv ze (go_insert hx.hg _ _ _ _))
set_option maxRecDepth 100000 in
set_option maxHeartbeats 4000000 in
theorem law_6 {L : Nat} {xs : Nat → Int32} {nm : String} {hh : List (Nat × Nat × Nat × Nat)} (hL : L ≤ 3072) {n : Nat} (hn : 6 ≤ n) (j : Nat) (hj : 6 * j + 5 < L) (x : XW) (hx : REL x) (z5 z6 : Option Value) (ih : ∀ (x : XW) (z5 z6 : Option Value), REL x → PW (ML9 L xs nm hh) 32 (n - 6) 2093 [some (.ref 1020), some (.ref 160), some (.ref 171), some (.ref 178), some (.int (nI (6 * j))), z5, z6] [] (hp x) QL) : PW (ML9 L xs nm hh) 32 n 651 [some (.ref 1020), some (.ref 160), some (.ref 171), some (.ref 178), some (.int (nI (6 * j))), z5, z6] [] (hp x) QL := by
  refine pw_aload_n (tk tkL_law8 8 rfl) rfl ?_
  refine pw_aload_n (tk tkL_law8 9 rfl) rfl ?_
  refine pw_iload (tk tkL_law8 10 rfl) rfl ?_
  refine pw_iconst (v := 1) (tk tkL_law8 11 rfl) (by decide) ?_
  refine pw_iadd (tk tkL_law8 12 rfl) ?_
  refine pw_sld_e (e := 6 * j + 1) rfl (tk tkL_law8 13 rfl) (nI_add (6 * j) 1) (show 6 * j + 1 < L by omega) (by omega) ?_
  refine pw_aload_n (tk tkL_law8 14 rfl) rfl ?_
  refine pw_iload (tk tkL_law8 15 rfl) rfl ?_
  refine pw_iconst (v := 2) (tk tkL_law8 16 rfl) (by decide) ?_
  refine pw_iadd (tk tkL_law8 17 rfl) ?_
  refine pw_sld_e (e := 6 * j + 2) rfl (tk tkL_law8 18 rfl) (nI_add (6 * j) 2) (show 6 * j + 2 < L by omega) (by omega) ?_
  refine pw_aload_n (tk tkL_law8 19 rfl) rfl ?_
  refine pw_iload (tk tkL_law8 20 rfl) rfl ?_
  refine pw_iconst (v := 3) (tk tkL_law8 21 rfl) (by decide) ?_
  refine pw_iadd (tk tkL_law8 22 rfl) ?_
  refine pw_sld_e (e := 6 * j + 3) rfl (tk tkL_law8 23 rfl) (nI_add (6 * j) 3) (show 6 * j + 3 < L by omega) (by omega) ?_
  refine pw_aload_n (tk tkL_law8 24 rfl) rfl ?_
  refine pw_callSW (k := 5) (ct_L_update x hx _ _ _) rfl (List.cons_ne_nil _ _) cwL_update iiL ⟨by decide +kernel, by decide +kernel, by decide +kernel⟩ (by decide) (tk tkL_law8 25 rfl) mkL_136 stL_update rfl rfl (by decide) hn (Nat.le_of_ble_eq_true rfl) (fun r h2 q => ?_)
  obtain ⟨y, rfl, ym, yc, er, y0⟩ := q
  cases er
  refine pw_ist5 (tk tkL_law8 26 rfl) rfl (show 5 < 7 by decide) ?_
  refine pw_aload_n (tk tkL_law8 27 rfl) rfl ?_
  refine pw_aload_n (tk tkL_law8 28 rfl) rfl ?_
  refine pw_iload (tk tkL_law8 29 rfl) rfl ?_
  refine pw_iconst (v := 1) (tk tkL_law8 30 rfl) (by decide) ?_
  refine pw_iadd (tk tkL_law8 31 rfl) ?_
  refine pw_sld_e (e := 6 * j + 1) rfl (tk tkL_law8 32 rfl) (nI_add (6 * j) 1) (show 6 * j + 1 < L by omega) (by omega) ?_
  refine pw_aload_n (tk tkL_law8 33 rfl) rfl ?_
  refine pw_iload (tk tkL_law8 34 rfl) rfl ?_
  refine pw_iconst (v := 2) (tk tkL_law8 35 rfl) (by decide) ?_
  refine pw_iadd (tk tkL_law8 36 rfl) ?_
  refine pw_sld_e (e := 6 * j + 2) rfl (tk tkL_law8 37 rfl) (nI_add (6 * j) 2) (show 6 * j + 2 < L by omega) (by omega) ?_
  refine pw_aload_n (tk tkL_law8 38 rfl) rfl ?_
  refine pw_iload (tk tkL_law8 39 rfl) rfl ?_
  refine pw_iconst (v := 3) (tk tkL_law9 0 rfl) (by decide) ?_
  refine pw_iadd (tk tkL_law9 1 rfl) ?_
  refine pw_sld_e (e := 6 * j + 3) rfl (tk tkL_law9 2 rfl) (nI_add (6 * j) 3) (show 6 * j + 3 < L by omega) (by omega) ?_
  refine pw_callV (ctm_update hx ym _ _ _) okX8_update (tk tkL_law9 3 rfl) mkL_138 imX8_update seX8_update (hp_ot _ 11) rfl rfl rfl (by decide) (Nat.zero_le _) (Nat.le_of_ble_eq_true rfl) (fun r h2 q => ?_) (fun E h2 q => by obtain ⟨z, _, _, _, _, e, _⟩ := q; cases e)
  obtain ⟨z, rfl, z1, z2, z0, er, zv, ze⟩ := q
  cases er
  refine pw_ist6 (tk tkL_law9 4 rfl) rfl (show 6 < 7 by decide) ?_
  refine pw_aload_n (tk tkL_law9 5 rfl) rfl ?_
  refine pw_cV (ct_X8_thrown z) okX8_thrown (tk tkL_law9 6 rfl) mkL_115 imX8_thrown seX8_thrown (hp_ot _ 11) rfl rfl rfl (by decide) (Nat.zero_le _) (Nat.le_of_ble_eq_true rfl) ?_
  refine pw_iload (tk tkL_law9 7 rfl) rfl ?_
  refine pw_icmp_eq (tgt := 711) (tk tkL_law9 8 rfl) (by decide) (fun c706 => ?_) (fun c706 => absurd z0 c706)
  refine pw_iload (tk tkL_law9 11 rfl) rfl ?_
  refine pw_if_ne (tgt := 728) (tk tkL_law9 12 rfl) (by decide) (fun c713 => ?_) (fun c713 => ?_)
  · refine pw_goto (tgt := 2093) (tk tkL_law9 22 rfl) (by decide) ?_
    exact ih _ _ _ (REL.step yc z1 zv ze (go_update hx.hg _ _ _))
  · refine pw_aload_n (tk tkL_law9 13 rfl) rfl ?_
    refine pw_iconst (v := 0) (tk tkL_law9 14 rfl) (by decide) ?_
    refine al_out_e (e := 0) (tk tkL_law9 15 rfl) rfl (by first | decide | omega) ?_
    refine pw_iload (tk tkL_law9 16 rfl) rfl ?_
    refine pw_i2l (tk tkL_law9 17 rfl) rfl ?_
    refine pw_lcmp (tk tkL_law9 18 rfl) ?_
    refine pw_if_eq (tgt := 728) (tk tkL_law9 19 rfl) (by decide) (fun c723 => ?_) (fun c723 => absurd (lg_z (by rw [z2]; exact y0 c713)) c723)
    refine pw_goto (tgt := 2093) (tk tkL_law9 22 rfl) (by decide) ?_
    exact ih _ _ _ (REL.step yc z1 zv ze (go_update hx.hg _ _ _))
set_option maxRecDepth 100000 in
set_option maxHeartbeats 4000000 in
theorem law_7 {L : Nat} {xs : Nat → Int32} {nm : String} {hh : List (Nat × Nat × Nat × Nat)} (hL : L ≤ 3072) {n : Nat} (hn : 6 ≤ n) (j : Nat) (hj : 6 * j + 5 < L) (x : XW) (hx : REL x) (z5 z6 : Option Value) (ih : ∀ (x : XW) (z5 z6 : Option Value), REL x → PW (ML9 L xs nm hh) 32 (n - 6) 2093 [some (.ref 1020), some (.ref 160), some (.ref 171), some (.ref 178), some (.int (nI (6 * j))), z5, z6] [] (hp x) QL) : PW (ML9 L xs nm hh) 32 n 731 [some (.ref 1020), some (.ref 160), some (.ref 171), some (.ref 178), some (.int (nI (6 * j))), z5, z6] [] (hp x) QL := by
  refine pw_aload_n (tk tkL_law9 23 rfl) rfl ?_
  refine pw_aload_n (tk tkL_law9 24 rfl) rfl ?_
  refine pw_iload (tk tkL_law9 25 rfl) rfl ?_
  refine pw_iconst (v := 1) (tk tkL_law9 26 rfl) (by decide) ?_
  refine pw_iadd (tk tkL_law9 27 rfl) ?_
  refine pw_sld_e (e := 6 * j + 1) rfl (tk tkL_law9 28 rfl) (nI_add (6 * j) 1) (show 6 * j + 1 < L by omega) (by omega) ?_
  refine pw_aload_n (tk tkL_law9 29 rfl) rfl ?_
  refine pw_callSW (k := 3) (ct_L_remove x hx _) rfl (List.cons_ne_nil _ _) cwL_remove iiL ⟨by decide +kernel, by decide +kernel, by decide +kernel⟩ (by decide) (tk tkL_law9 30 rfl) mkL_139 stL_remove rfl rfl (by decide) hn (Nat.le_of_ble_eq_true rfl) (fun r h2 q => ?_)
  obtain ⟨y, rfl, ym, yc, er, y0⟩ := q
  cases er
  refine pw_ist5 (tk tkL_law9 31 rfl) rfl (show 5 < 7 by decide) ?_
  refine pw_aload_n (tk tkL_law9 32 rfl) rfl ?_
  refine pw_aload_n (tk tkL_law9 33 rfl) rfl ?_
  refine pw_iload (tk tkL_law9 34 rfl) rfl ?_
  refine pw_iconst (v := 1) (tk tkL_law9 35 rfl) (by decide) ?_
  refine pw_iadd (tk tkL_law9 36 rfl) ?_
  refine pw_sld_e (e := 6 * j + 1) rfl (tk tkL_law9 37 rfl) (nI_add (6 * j) 1) (show 6 * j + 1 < L by omega) (by omega) ?_
  refine pw_callV (ctm_remove hx ym _) okX8_remove (tk tkL_law9 38 rfl) mkL_141 imX8_remove seX8_remove (hp_ot _ 11) rfl rfl rfl (by decide) (Nat.zero_le _) (Nat.le_of_ble_eq_true rfl) (fun r h2 q => ?_) (fun E h2 q => by obtain ⟨z, _, _, _, _, e, _⟩ := q; cases e)
  obtain ⟨z, rfl, z1, z2, z0, er, zv, ze⟩ := q
  cases er
  refine pw_ist6 (tk tkL_law9 39 rfl) rfl (show 6 < 7 by decide) ?_
  refine pw_aload_n (tk tkL_law10 0 rfl) rfl ?_
  refine pw_cV (ct_X8_thrown z) okX8_thrown (tk tkL_law10 1 rfl) mkL_115 imX8_thrown seX8_thrown (hp_ot _ 11) rfl rfl rfl (by decide) (Nat.zero_le _) (Nat.le_of_ble_eq_true rfl) ?_
  refine pw_iload (tk tkL_law10 2 rfl) rfl ?_
  refine pw_icmp_eq (tgt := 767) (tk tkL_law10 3 rfl) (by decide) (fun c762 => ?_) (fun c762 => absurd z0 c762)
  refine pw_iload (tk tkL_law10 6 rfl) rfl ?_
  refine pw_if_ne (tgt := 784) (tk tkL_law10 7 rfl) (by decide) (fun c769 => ?_) (fun c769 => ?_)
  · refine pw_goto (tgt := 2093) (tk tkL_law10 17 rfl) (by decide) ?_
    exact ih _ _ _ (REL.step yc z1 zv ze (go_remove hx.hg _))
  · refine pw_aload_n (tk tkL_law10 8 rfl) rfl ?_
    refine pw_iconst (v := 0) (tk tkL_law10 9 rfl) (by decide) ?_
    refine al_out_e (e := 0) (tk tkL_law10 10 rfl) rfl (by first | decide | omega) ?_
    refine pw_iload (tk tkL_law10 11 rfl) rfl ?_
    refine pw_i2l (tk tkL_law10 12 rfl) rfl ?_
    refine pw_lcmp (tk tkL_law10 13 rfl) ?_
    refine pw_if_eq (tgt := 784) (tk tkL_law10 14 rfl) (by decide) (fun c779 => ?_) (fun c779 => absurd (lg_z (by rw [z2]; exact y0 c769)) c779)
    refine pw_goto (tgt := 2093) (tk tkL_law10 17 rfl) (by decide) ?_
    exact ih _ _ _ (REL.step yc z1 zv ze (go_remove hx.hg _))
set_option maxRecDepth 100000 in
set_option maxHeartbeats 4000000 in
theorem law_8 {L : Nat} {xs : Nat → Int32} {nm : String} {hh : List (Nat × Nat × Nat × Nat)} (hL : L ≤ 3072) {n : Nat} (hn : 6 ≤ n) (j : Nat) (hj : 6 * j + 5 < L) (x : XW) (hx : REL x) (z5 z6 : Option Value) (ih : ∀ (x : XW) (z5 z6 : Option Value), REL x → PW (ML9 L xs nm hh) 32 (n - 6) 2093 [some (.ref 1020), some (.ref 160), some (.ref 171), some (.ref 178), some (.int (nI (6 * j))), z5, z6] [] (hp x) QL) : PW (ML9 L xs nm hh) 32 n 787 [some (.ref 1020), some (.ref 160), some (.ref 171), some (.ref 178), some (.int (nI (6 * j))), z5, z6] [] (hp x) QL := by
  refine pw_aload_n (tk tkL_law10 18 rfl) rfl ?_
  refine pw_aload_n (tk tkL_law10 19 rfl) rfl ?_
  refine pw_iload (tk tkL_law10 20 rfl) rfl ?_
  refine pw_iconst (v := 1) (tk tkL_law10 21 rfl) (by decide) ?_
  refine pw_iadd (tk tkL_law10 22 rfl) ?_
  refine pw_sld_e (e := 6 * j + 1) rfl (tk tkL_law10 23 rfl) (nI_add (6 * j) 1) (show 6 * j + 1 < L by omega) (by omega) ?_
  refine pw_aload_n (tk tkL_law10 24 rfl) rfl ?_
  refine pw_iload (tk tkL_law10 25 rfl) rfl ?_
  refine pw_iconst (v := 2) (tk tkL_law10 26 rfl) (by decide) ?_
  refine pw_iadd (tk tkL_law10 27 rfl) ?_
  refine pw_sld_e (e := 6 * j + 2) rfl (tk tkL_law10 28 rfl) (nI_add (6 * j) 2) (show 6 * j + 2 < L by omega) (by omega) ?_
  refine pw_aload_n (tk tkL_law10 29 rfl) rfl ?_
  refine pw_iload (tk tkL_law10 30 rfl) rfl ?_
  refine pw_iconst (v := 3) (tk tkL_law10 31 rfl) (by decide) ?_
  refine pw_iadd (tk tkL_law10 32 rfl) ?_
  refine pw_sld_e (e := 6 * j + 3) rfl (tk tkL_law10 33 rfl) (nI_add (6 * j) 3) (show 6 * j + 3 < L by omega) (by omega) ?_
  refine pw_aload_n (tk tkL_law10 34 rfl) rfl ?_
  refine pw_callSW (k := 5) (ct_L_whyNotUpdate x hx _ _ _) rfl (List.cons_ne_nil _ _) cwL_whyNotUpdate iiL ⟨by decide +kernel, by decide +kernel, by decide +kernel⟩ (by decide) (tk tkL_law10 35 rfl) mkL_142 stL_whyNotUpdate rfl rfl (by decide) hn (Nat.le_of_ble_eq_true rfl) (fun r h2 q => ?_)
  obtain ⟨y, rfl, ym, yc, er, y0⟩ := q
  cases er
  refine pw_ist5 (tk tkL_law10 36 rfl) rfl (show 5 < 7 by decide) ?_
  refine pw_aload_n (tk tkL_law10 37 rfl) rfl ?_
  refine pw_aload_n (tk tkL_law10 38 rfl) rfl ?_
  refine pw_iload (tk tkL_law10 39 rfl) rfl ?_
  refine pw_iconst (v := 1) (tk tkL_law11 0 rfl) (by decide) ?_
  refine pw_iadd (tk tkL_law11 1 rfl) ?_
  refine pw_sld_e (e := 6 * j + 1) rfl (tk tkL_law11 2 rfl) (nI_add (6 * j) 1) (show 6 * j + 1 < L by omega) (by omega) ?_
  refine pw_aload_n (tk tkL_law11 3 rfl) rfl ?_
  refine pw_iload (tk tkL_law11 4 rfl) rfl ?_
  refine pw_iconst (v := 2) (tk tkL_law11 5 rfl) (by decide) ?_
  refine pw_iadd (tk tkL_law11 6 rfl) ?_
  refine pw_sld_e (e := 6 * j + 2) rfl (tk tkL_law11 7 rfl) (nI_add (6 * j) 2) (show 6 * j + 2 < L by omega) (by omega) ?_
  refine pw_aload_n (tk tkL_law11 8 rfl) rfl ?_
  refine pw_iload (tk tkL_law11 9 rfl) rfl ?_
  refine pw_iconst (v := 3) (tk tkL_law11 10 rfl) (by decide) ?_
  refine pw_iadd (tk tkL_law11 11 rfl) ?_
  refine pw_sld_e (e := 6 * j + 3) rfl (tk tkL_law11 12 rfl) (nI_add (6 * j) 3) (show 6 * j + 3 < L by omega) (by omega) ?_
  refine pw_callV (ctm_whyNotUpdate hx ym _ _ _) okX8_whyNotUpdate (tk tkL_law11 13 rfl) mkL_144 imX8_whyNotUpdate seX8_whyNotUpdate (hp_ot _ 11) rfl rfl rfl (by decide) (Nat.zero_le _) (Nat.le_of_ble_eq_true rfl) (fun r h2 q => ?_) (fun E h2 q => by obtain ⟨z, _, _, _, _, e, _⟩ := q; cases e)
  obtain ⟨z, rfl, z1, z2, z0, er, zv, ze⟩ := q
  cases er
  refine pw_ist6 (tk tkL_law11 14 rfl) rfl (show 6 < 7 by decide) ?_
  refine pw_aload_n (tk tkL_law11 15 rfl) rfl ?_
  refine pw_cV (ct_X8_thrown z) okX8_thrown (tk tkL_law11 16 rfl) mkL_115 imX8_thrown seX8_thrown (hp_ot _ 11) rfl rfl rfl (by decide) (Nat.zero_le _) (Nat.le_of_ble_eq_true rfl) ?_
  refine pw_iload (tk tkL_law11 17 rfl) rfl ?_
  refine pw_icmp_eq (tgt := 847) (tk tkL_law11 18 rfl) (by decide) (fun c842 => ?_) (fun c842 => absurd z0 c842)
  refine pw_iload (tk tkL_law11 21 rfl) rfl ?_
  refine pw_if_ne (tgt := 864) (tk tkL_law11 22 rfl) (by decide) (fun c849 => ?_) (fun c849 => ?_)
  · refine pw_goto (tgt := 2093) (tk tkL_law11 32 rfl) (by decide) ?_
    exact ih _ _ _ (REL.step yc z1 zv ze (go_whyNotUpdate hx.hg _ _ _))
  · refine pw_aload_n (tk tkL_law11 23 rfl) rfl ?_
    refine pw_iconst (v := 0) (tk tkL_law11 24 rfl) (by decide) ?_
    refine al_out_e (e := 0) (tk tkL_law11 25 rfl) rfl (by first | decide | omega) ?_
    refine pw_iload (tk tkL_law11 26 rfl) rfl ?_
    refine pw_i2l (tk tkL_law11 27 rfl) rfl ?_
    refine pw_lcmp (tk tkL_law11 28 rfl) ?_
    refine pw_if_eq (tgt := 864) (tk tkL_law11 29 rfl) (by decide) (fun c859 => ?_) (fun c859 => absurd (lg_z (by rw [z2]; exact y0 c849)) c859)
    refine pw_goto (tgt := 2093) (tk tkL_law11 32 rfl) (by decide) ?_
    exact ih _ _ _ (REL.step yc z1 zv ze (go_whyNotUpdate hx.hg _ _ _))
set_option maxRecDepth 100000 in
set_option maxHeartbeats 4000000 in
theorem law_9 {L : Nat} {xs : Nat → Int32} {nm : String} {hh : List (Nat × Nat × Nat × Nat)} (hL : L ≤ 3072) {n : Nat} (hn : 6 ≤ n) (j : Nat) (hj : 6 * j + 5 < L) (x : XW) (hx : REL x) (z5 z6 : Option Value) (ih : ∀ (x : XW) (z5 z6 : Option Value), REL x → PW (ML9 L xs nm hh) 32 (n - 6) 2093 [some (.ref 1020), some (.ref 160), some (.ref 171), some (.ref 178), some (.int (nI (6 * j))), z5, z6] [] (hp x) QL) : PW (ML9 L xs nm hh) 32 n 867 [some (.ref 1020), some (.ref 160), some (.ref 171), some (.ref 178), some (.int (nI (6 * j))), z5, z6] [] (hp x) QL := by
  refine pw_aload_n (tk tkL_law11 33 rfl) rfl ?_
  refine pw_aload_n (tk tkL_law11 34 rfl) rfl ?_
  refine pw_iload (tk tkL_law11 35 rfl) rfl ?_
  refine pw_iconst (v := 1) (tk tkL_law11 36 rfl) (by decide) ?_
  refine pw_iadd (tk tkL_law11 37 rfl) ?_
  refine pw_sld_e (e := 6 * j + 1) rfl (tk tkL_law11 38 rfl) (nI_add (6 * j) 1) (show 6 * j + 1 < L by omega) (by omega) ?_
  refine pw_aload_n (tk tkL_law11 39 rfl) rfl ?_
  refine pw_iload (tk tkL_law12 0 rfl) rfl ?_
  refine pw_iconst (v := 2) (tk tkL_law12 1 rfl) (by decide) ?_
  refine pw_iadd (tk tkL_law12 2 rfl) ?_
  refine pw_sld_e (e := 6 * j + 2) rfl (tk tkL_law12 3 rfl) (nI_add (6 * j) 2) (show 6 * j + 2 < L by omega) (by omega) ?_
  refine pw_aload_n (tk tkL_law12 4 rfl) rfl ?_
  refine pw_iload (tk tkL_law12 5 rfl) rfl ?_
  refine pw_iconst (v := 3) (tk tkL_law12 6 rfl) (by decide) ?_
  refine pw_iadd (tk tkL_law12 7 rfl) ?_
  refine pw_sld_e (e := 6 * j + 3) rfl (tk tkL_law12 8 rfl) (nI_add (6 * j) 3) (show 6 * j + 3 < L by omega) (by omega) ?_
  refine pw_aload_n (tk tkL_law12 9 rfl) rfl ?_
  refine pw_callSW (k := 5) (ct_L_eventsOfUpdate x hx _ _ _) rfl (List.cons_ne_nil _ _) cwL_eventsOfUpdate iiL ⟨by decide +kernel, by decide +kernel, by decide +kernel⟩ (by decide) (tk tkL_law12 10 rfl) mkL_145 stL_eventsOfUpdate rfl rfl (by decide) hn (Nat.le_of_ble_eq_true rfl) (fun r h2 q => ?_)
  obtain ⟨y, rfl, ym, yc, er, y0⟩ := q
  cases er
  refine pw_ist5 (tk tkL_law12 11 rfl) rfl (show 5 < 7 by decide) ?_
  refine pw_aload_n (tk tkL_law12 12 rfl) rfl ?_
  refine pw_aload_n (tk tkL_law12 13 rfl) rfl ?_
  refine pw_iload (tk tkL_law12 14 rfl) rfl ?_
  refine pw_iconst (v := 1) (tk tkL_law12 15 rfl) (by decide) ?_
  refine pw_iadd (tk tkL_law12 16 rfl) ?_
  refine pw_sld_e (e := 6 * j + 1) rfl (tk tkL_law12 17 rfl) (nI_add (6 * j) 1) (show 6 * j + 1 < L by omega) (by omega) ?_
  refine pw_aload_n (tk tkL_law12 18 rfl) rfl ?_
  refine pw_iload (tk tkL_law12 19 rfl) rfl ?_
  refine pw_iconst (v := 2) (tk tkL_law12 20 rfl) (by decide) ?_
  refine pw_iadd (tk tkL_law12 21 rfl) ?_
  refine pw_sld_e (e := 6 * j + 2) rfl (tk tkL_law12 22 rfl) (nI_add (6 * j) 2) (show 6 * j + 2 < L by omega) (by omega) ?_
  refine pw_aload_n (tk tkL_law12 23 rfl) rfl ?_
  refine pw_iload (tk tkL_law12 24 rfl) rfl ?_
  refine pw_iconst (v := 3) (tk tkL_law12 25 rfl) (by decide) ?_
  refine pw_iadd (tk tkL_law12 26 rfl) ?_
  refine pw_sld_e (e := 6 * j + 3) rfl (tk tkL_law12 27 rfl) (nI_add (6 * j) 3) (show 6 * j + 3 < L by omega) (by omega) ?_
  refine pw_callV (ctm_eventsOfUpdate hx ym _ _ _) okX8_eventsOfUpdate (tk tkL_law12 28 rfl) mkL_147 imX8_eventsOfUpdate seX8_eventsOfUpdate (hp_ot _ 11) rfl rfl rfl (by decide) (Nat.zero_le _) (Nat.le_of_ble_eq_true rfl) (fun r h2 q => ?_) (fun E h2 q => by obtain ⟨z, _, _, _, _, e, _⟩ := q; cases e)
  obtain ⟨z, rfl, z1, z2, z0, er, zv, ze⟩ := q
  cases er
  refine pw_ist6 (tk tkL_law12 29 rfl) rfl (show 6 < 7 by decide) ?_
  refine pw_aload_n (tk tkL_law12 30 rfl) rfl ?_
  refine pw_cV (ct_X8_thrown z) okX8_thrown (tk tkL_law12 31 rfl) mkL_115 imX8_thrown seX8_thrown (hp_ot _ 11) rfl rfl rfl (by decide) (Nat.zero_le _) (Nat.le_of_ble_eq_true rfl) ?_
  refine pw_iload (tk tkL_law12 32 rfl) rfl ?_
  refine pw_icmp_eq (tgt := 927) (tk tkL_law12 33 rfl) (by decide) (fun c922 => ?_) (fun c922 => absurd z0 c922)
  refine pw_iload (tk tkL_law12 36 rfl) rfl ?_
  refine pw_if_ne (tgt := 944) (tk tkL_law12 37 rfl) (by decide) (fun c929 => ?_) (fun c929 => ?_)
  · refine pw_goto (tgt := 2093) (tk tkL_law13 7 rfl) (by decide) ?_
    exact ih _ _ _ (REL.step yc z1 zv ze (go_eventsOfUpdate hx.hg _ _ _))
  · refine pw_aload_n (tk tkL_law12 38 rfl) rfl ?_
    refine pw_iconst (v := 0) (tk tkL_law12 39 rfl) (by decide) ?_
    refine al_out_e (e := 0) (tk tkL_law13 0 rfl) rfl (by first | decide | omega) ?_
    refine pw_iload (tk tkL_law13 1 rfl) rfl ?_
    refine pw_i2l (tk tkL_law13 2 rfl) rfl ?_
    refine pw_lcmp (tk tkL_law13 3 rfl) ?_
    refine pw_if_eq (tgt := 944) (tk tkL_law13 4 rfl) (by decide) (fun c939 => ?_) (fun c939 => absurd (lg_z (by rw [z2]; exact y0 c929)) c939)
    refine pw_goto (tgt := 2093) (tk tkL_law13 7 rfl) (by decide) ?_
    exact ih _ _ _ (REL.step yc z1 zv ze (go_eventsOfUpdate hx.hg _ _ _))
set_option maxRecDepth 100000 in
set_option maxHeartbeats 4000000 in
theorem law_10 {L : Nat} {xs : Nat → Int32} {nm : String} {hh : List (Nat × Nat × Nat × Nat)} (hL : L ≤ 3072) {n : Nat} (hn : 6 ≤ n) (j : Nat) (hj : 6 * j + 5 < L) (x : XW) (hx : REL x) (z5 z6 : Option Value) (ih : ∀ (x : XW) (z5 z6 : Option Value), REL x → PW (ML9 L xs nm hh) 32 (n - 6) 2093 [some (.ref 1020), some (.ref 160), some (.ref 171), some (.ref 178), some (.int (nI (6 * j))), z5, z6] [] (hp x) QL) : PW (ML9 L xs nm hh) 32 n 947 [some (.ref 1020), some (.ref 160), some (.ref 171), some (.ref 178), some (.int (nI (6 * j))), z5, z6] [] (hp x) QL := by
  refine pw_aload_n (tk tkL_law13 8 rfl) rfl ?_
  refine pw_aload_n (tk tkL_law13 9 rfl) rfl ?_
  refine pw_iload (tk tkL_law13 10 rfl) rfl ?_
  refine pw_iconst (v := 1) (tk tkL_law13 11 rfl) (by decide) ?_
  refine pw_iadd (tk tkL_law13 12 rfl) ?_
  refine pw_sld_e (e := 6 * j + 1) rfl (tk tkL_law13 13 rfl) (nI_add (6 * j) 1) (show 6 * j + 1 < L by omega) (by omega) ?_
  refine pw_aload_n (tk tkL_law13 14 rfl) rfl ?_
  refine pw_iload (tk tkL_law13 15 rfl) rfl ?_
  refine pw_iconst (v := 2) (tk tkL_law13 16 rfl) (by decide) ?_
  refine pw_iadd (tk tkL_law13 17 rfl) ?_
  refine pw_sld_e (e := 6 * j + 2) rfl (tk tkL_law13 18 rfl) (nI_add (6 * j) 2) (show 6 * j + 2 < L by omega) (by omega) ?_
  refine pw_aload_n (tk tkL_law13 19 rfl) rfl ?_
  refine pw_iload (tk tkL_law13 20 rfl) rfl ?_
  refine pw_iconst (v := 3) (tk tkL_law13 21 rfl) (by decide) ?_
  refine pw_iadd (tk tkL_law13 22 rfl) ?_
  refine pw_sld_e (e := 6 * j + 3) rfl (tk tkL_law13 23 rfl) (nI_add (6 * j) 3) (show 6 * j + 3 < L by omega) (by omega) ?_
  refine pw_aload_n (tk tkL_law13 24 rfl) rfl ?_
  refine pw_callSW (k := 5) (ct_L_depthOfUpdate x hx _ _ _) rfl (List.cons_ne_nil _ _) cwL_depthOfUpdate iiL ⟨by decide +kernel, by decide +kernel, by decide +kernel⟩ (by decide) (tk tkL_law13 25 rfl) mkL_148 stL_depthOfUpdate rfl rfl (by decide) hn (Nat.le_of_ble_eq_true rfl) (fun r h2 q => ?_)
  obtain ⟨y, rfl, ym, yc, er, y0⟩ := q
  cases er
  refine pw_ist5 (tk tkL_law13 26 rfl) rfl (show 5 < 7 by decide) ?_
  refine pw_aload_n (tk tkL_law13 27 rfl) rfl ?_
  refine pw_aload_n (tk tkL_law13 28 rfl) rfl ?_
  refine pw_iload (tk tkL_law13 29 rfl) rfl ?_
  refine pw_iconst (v := 1) (tk tkL_law13 30 rfl) (by decide) ?_
  refine pw_iadd (tk tkL_law13 31 rfl) ?_
  refine pw_sld_e (e := 6 * j + 1) rfl (tk tkL_law13 32 rfl) (nI_add (6 * j) 1) (show 6 * j + 1 < L by omega) (by omega) ?_
  refine pw_aload_n (tk tkL_law13 33 rfl) rfl ?_
  refine pw_iload (tk tkL_law13 34 rfl) rfl ?_
  refine pw_iconst (v := 2) (tk tkL_law13 35 rfl) (by decide) ?_
  refine pw_iadd (tk tkL_law13 36 rfl) ?_
  refine pw_sld_e (e := 6 * j + 2) rfl (tk tkL_law13 37 rfl) (nI_add (6 * j) 2) (show 6 * j + 2 < L by omega) (by omega) ?_
  refine pw_aload_n (tk tkL_law13 38 rfl) rfl ?_
  refine pw_iload (tk tkL_law13 39 rfl) rfl ?_
  refine pw_iconst (v := 3) (tk tkL_law14 0 rfl) (by decide) ?_
  refine pw_iadd (tk tkL_law14 1 rfl) ?_
  refine pw_sld_e (e := 6 * j + 3) rfl (tk tkL_law14 2 rfl) (nI_add (6 * j) 3) (show 6 * j + 3 < L by omega) (by omega) ?_
  refine pw_callV (ctm_depthOfUpdate hx ym _ _ _) okX8_depthOfUpdate (tk tkL_law14 3 rfl) mkL_150 imX8_depthOfUpdate seX8_depthOfUpdate (hp_ot _ 11) rfl rfl rfl (by decide) (Nat.zero_le _) (Nat.le_of_ble_eq_true rfl) (fun r h2 q => ?_) (fun E h2 q => by obtain ⟨z, _, _, _, _, e, _⟩ := q; cases e)
  obtain ⟨z, rfl, z1, z2, z0, er, zv, ze⟩ := q
  cases er
  refine pw_ist6 (tk tkL_law14 4 rfl) rfl (show 6 < 7 by decide) ?_
  refine pw_aload_n (tk tkL_law14 5 rfl) rfl ?_
  refine pw_cV (ct_X8_thrown z) okX8_thrown (tk tkL_law14 6 rfl) mkL_115 imX8_thrown seX8_thrown (hp_ot _ 11) rfl rfl rfl (by decide) (Nat.zero_le _) (Nat.le_of_ble_eq_true rfl) ?_
  refine pw_iload (tk tkL_law14 7 rfl) rfl ?_
  refine pw_icmp_eq (tgt := 1007) (tk tkL_law14 8 rfl) (by decide) (fun c1002 => ?_) (fun c1002 => absurd z0 c1002)
  refine pw_iload (tk tkL_law14 11 rfl) rfl ?_
  refine pw_if_ne (tgt := 1024) (tk tkL_law14 12 rfl) (by decide) (fun c1009 => ?_) (fun c1009 => ?_)
  · refine pw_goto (tgt := 2093) (tk tkL_law14 22 rfl) (by decide) ?_
    exact ih _ _ _ (REL.step yc z1 zv ze (go_depthOfUpdate hx.hg _ _ _))
  · refine pw_aload_n (tk tkL_law14 13 rfl) rfl ?_
    refine pw_iconst (v := 0) (tk tkL_law14 14 rfl) (by decide) ?_
    refine al_out_e (e := 0) (tk tkL_law14 15 rfl) rfl (by first | decide | omega) ?_
    refine pw_iload (tk tkL_law14 16 rfl) rfl ?_
    refine pw_i2l (tk tkL_law14 17 rfl) rfl ?_
    refine pw_lcmp (tk tkL_law14 18 rfl) ?_
    refine pw_if_eq (tgt := 1024) (tk tkL_law14 19 rfl) (by decide) (fun c1019 => ?_) (fun c1019 => absurd (lg_z (by rw [z2]; exact y0 c1009)) c1019)
    refine pw_goto (tgt := 2093) (tk tkL_law14 22 rfl) (by decide) ?_
    exact ih _ _ _ (REL.step yc z1 zv ze (go_depthOfUpdate hx.hg _ _ _))
set_option maxRecDepth 100000 in
set_option maxHeartbeats 4000000 in
theorem law_11 {L : Nat} {xs : Nat → Int32} {nm : String} {hh : List (Nat × Nat × Nat × Nat)} (hL : L ≤ 3072) {n : Nat} (hn : 6 ≤ n) (j : Nat) (hj : 6 * j + 5 < L) (x : XW) (hx : REL x) (z5 z6 : Option Value) (ih : ∀ (x : XW) (z5 z6 : Option Value), REL x → PW (ML9 L xs nm hh) 32 (n - 6) 2093 [some (.ref 1020), some (.ref 160), some (.ref 171), some (.ref 178), some (.int (nI (6 * j))), z5, z6] [] (hp x) QL) : PW (ML9 L xs nm hh) 32 n 1027 [some (.ref 1020), some (.ref 160), some (.ref 171), some (.ref 178), some (.int (nI (6 * j))), z5, z6] [] (hp x) QL := by
  refine pw_aload_n (tk tkL_law14 23 rfl) rfl ?_
  refine pw_aload_n (tk tkL_law14 24 rfl) rfl ?_
  refine pw_iload (tk tkL_law14 25 rfl) rfl ?_
  refine pw_iconst (v := 1) (tk tkL_law14 26 rfl) (by decide) ?_
  refine pw_iadd (tk tkL_law14 27 rfl) ?_
  refine pw_sld_e (e := 6 * j + 1) rfl (tk tkL_law14 28 rfl) (nI_add (6 * j) 1) (show 6 * j + 1 < L by omega) (by omega) ?_
  refine pw_aload_n (tk tkL_law14 29 rfl) rfl ?_
  refine pw_callSW (k := 3) (ct_L_hasRow x hx _) rfl (List.cons_ne_nil _ _) cwL_hasRow iiL ⟨by decide +kernel, by decide +kernel, by decide +kernel⟩ (by decide) (tk tkL_law14 30 rfl) mkL_151 stL_hasRow rfl rfl (by decide) hn (Nat.le_of_ble_eq_true rfl) (fun r h2 q => ?_)
  obtain ⟨y, rfl, ym, yc, er, y0⟩ := q
  cases er
  refine pw_ist5 (tk tkL_law14 31 rfl) rfl (show 5 < 7 by decide) ?_
  refine pw_aload_n (tk tkL_law14 32 rfl) rfl ?_
  refine pw_aload_n (tk tkL_law14 33 rfl) rfl ?_
  refine pw_iload (tk tkL_law14 34 rfl) rfl ?_
  refine pw_iconst (v := 1) (tk tkL_law14 35 rfl) (by decide) ?_
  refine pw_iadd (tk tkL_law14 36 rfl) ?_
  refine pw_sld_e (e := 6 * j + 1) rfl (tk tkL_law14 37 rfl) (nI_add (6 * j) 1) (show 6 * j + 1 < L by omega) (by omega) ?_
  refine pw_callV (ctm_hasRow hx ym _) okX8_hasRow (tk tkL_law14 38 rfl) mkL_153 imX8_hasRow seX8_hasRow (hp_ot _ 11) rfl rfl rfl (by decide) (Nat.zero_le _) (Nat.le_of_ble_eq_true rfl) (fun r h2 q => ?_) (fun E h2 q => by obtain ⟨z, _, _, _, _, e, _⟩ := q; cases e)
  obtain ⟨z, rfl, z1, z2, z0, er, zv, ze⟩ := q
  cases er
  refine pw_ist6 (tk tkL_law14 39 rfl) rfl (show 6 < 7 by decide) ?_
  refine pw_aload_n (tk tkL_law15 0 rfl) rfl ?_
  refine pw_cV (ct_X8_thrown z) okX8_thrown (tk tkL_law15 1 rfl) mkL_115 imX8_thrown seX8_thrown (hp_ot _ 11) rfl rfl rfl (by decide) (Nat.zero_le _) (Nat.le_of_ble_eq_true rfl) ?_
  refine pw_iload (tk tkL_law15 2 rfl) rfl ?_
  refine pw_icmp_eq (tgt := 1063) (tk tkL_law15 3 rfl) (by decide) (fun c1058 => ?_) (fun c1058 => absurd z0 c1058)
  refine pw_iload (tk tkL_law15 6 rfl) rfl ?_
  refine pw_if_ne (tgt := 1087) (tk tkL_law15 7 rfl) (by decide) (fun c1065 => ?_) (fun c1065 => ?_)
  · refine pw_goto (tgt := 2093) (tk tkL_law15 20 rfl) (by decide) ?_
    exact ih _ _ _ (REL.step yc z1 zv ze (go_hasRow hx.hg _))
  · refine pw_aload_n (tk tkL_law15 8 rfl) rfl ?_
    refine pw_iconst (v := 0) (tk tkL_law15 9 rfl) (by decide) ?_
    refine al_out_e (e := 0) (tk tkL_law15 10 rfl) rfl (by first | decide | omega) ?_
    refine pw_iload (tk tkL_law15 11 rfl) rfl ?_
    refine pw_if_eq (tgt := 1080) (tk tkL_law15 12 rfl) (by decide) (fun c1073 => ?_) (fun c1073 => ?_)
    · refine pw_lconst (v := 0) (tk tkL_law15 15 rfl) (by decide) ?_
      refine pw_lcmp (tk tkL_law15 16 rfl) ?_
      refine pw_if_eq (tgt := 1087) (tk tkL_law15 17 rfl) (by decide) (fun c1082 => ?_) (fun c1082 => absurd (lg_z (by rw [z2, y0 c1065]; exact WV_t0 c1073)) c1082)
      refine pw_goto (tgt := 2093) (tk tkL_law15 20 rfl) (by decide) ?_
      exact ih _ _ _ (REL.step yc z1 zv ze (go_hasRow hx.hg _))
    · refine pw_lconst (v := 1) (tk tkL_law15 13 rfl) (by decide) ?_
      refine pw_goto (tgt := 1081) (tk tkL_law15 14 rfl) (by decide) ?_
      refine pw_lcmp (tk tkL_law15 16 rfl) ?_
      refine pw_if_eq (tgt := 1087) (tk tkL_law15 17 rfl) (by decide) (fun c1082 => ?_) (fun c1082 => absurd (lg_z (by rw [z2, y0 c1065]; exact WV_t1 c1073)) c1082)
      refine pw_goto (tgt := 2093) (tk tkL_law15 20 rfl) (by decide) ?_
      exact ih _ _ _ (REL.step yc z1 zv ze (go_hasRow hx.hg _))
set_option maxRecDepth 100000 in
set_option maxHeartbeats 4000000 in
theorem law_12 {L : Nat} {xs : Nat → Int32} {nm : String} {hh : List (Nat × Nat × Nat × Nat)} (hL : L ≤ 3072) {n : Nat} (hn : 6 ≤ n) (j : Nat) (hj : 6 * j + 5 < L) (x : XW) (hx : REL x) (z5 z6 : Option Value) (ih : ∀ (x : XW) (z5 z6 : Option Value), REL x → PW (ML9 L xs nm hh) 32 (n - 6) 2093 [some (.ref 1020), some (.ref 160), some (.ref 171), some (.ref 178), some (.int (nI (6 * j))), z5, z6] [] (hp x) QL) : PW (ML9 L xs nm hh) 32 n 1090 [some (.ref 1020), some (.ref 160), some (.ref 171), some (.ref 178), some (.int (nI (6 * j))), z5, z6] [] (hp x) QL := by
  refine pw_aload_n (tk tkL_law15 21 rfl) rfl ?_
  refine pw_callV (ct_X7_rowCount x _ hx.1 hx.hg.1) okX7_rowCount (tk tkL_law15 22 rfl) mkL_154 imX7_rowCount seX7_rowCount (hp_ot _ 0) rfl rfl rfl (by decide) hn (Nat.le_of_ble_eq_true rfl) (fun r h2 q => ?_) (fun E h2 q => (cq_x q).elim)
  obtain ⟨y, rfl, hy, yc, e⟩ := q
  obtain ⟨e0, rfl⟩ := cq_l e
  have ym : y.2.1 = x.2.1 := congrArg Prod.fst hy
  refine pw_aload_n (tk tkL_law15 23 rfl) rfl ?_
  refine pw_callV (ctm_rowCount hx ym) okX8_rowCount (tk tkL_law15 24 rfl) mkL_157 imX8_rowCount seX8_rowCount (hp_ot _ 11) rfl rfl rfl (by decide) (Nat.zero_le _) (Nat.le_of_ble_eq_true rfl) (fun r h2 q => ?_) (fun E h2 q => by obtain ⟨z, _, _, _, _, e, _⟩ := q; cases e)
  obtain ⟨z, rfl, z1, z2, z0, er, zv, ze⟩ := q
  cases er
  refine pw_icmp_eq (tgt := 2093) (tk tkL_law15 25 rfl) (by decide) (fun c1098 => ?_) (fun c1098 => absurd rfl c1098)
  exact ih _ _ _ (REL.step yc z1 zv ze (go_rowCount hx.hg))
set_option maxRecDepth 100000 in
set_option maxHeartbeats 4000000 in
theorem law_13 {L : Nat} {xs : Nat → Int32} {nm : String} {hh : List (Nat × Nat × Nat × Nat)} (hL : L ≤ 3072) {n : Nat} (hn : 6 ≤ n) (j : Nat) (hj : 6 * j + 5 < L) (x : XW) (hx : REL x) (z5 z6 : Option Value) (ih : ∀ (x : XW) (z5 z6 : Option Value), REL x → PW (ML9 L xs nm hh) 32 (n - 6) 2093 [some (.ref 1020), some (.ref 160), some (.ref 171), some (.ref 178), some (.int (nI (6 * j))), z5, z6] [] (hp x) QL) : PW (ML9 L xs nm hh) 32 n 1103 [some (.ref 1020), some (.ref 160), some (.ref 171), some (.ref 178), some (.int (nI (6 * j))), z5, z6] [] (hp x) QL := by
  refine pw_aload_n (tk tkL_law15 28 rfl) rfl ?_
  refine pw_aload_n (tk tkL_law15 29 rfl) rfl ?_
  refine pw_iload (tk tkL_law15 30 rfl) rfl ?_
  refine pw_iconst (v := 1) (tk tkL_law15 31 rfl) (by decide) ?_
  refine pw_iadd (tk tkL_law15 32 rfl) ?_
  refine pw_sld_e (e := 6 * j + 1) rfl (tk tkL_law15 33 rfl) (nI_add (6 * j) 1) (show 6 * j + 1 < L by omega) (by omega) ?_
  refine pw_aload_n (tk tkL_law15 34 rfl) rfl ?_
  refine pw_iload (tk tkL_law15 35 rfl) rfl ?_
  refine pw_iconst (v := 2) (tk tkL_law15 36 rfl) (by decide) ?_
  refine pw_iadd (tk tkL_law15 37 rfl) ?_
  refine pw_sld_e (e := 6 * j + 2) rfl (tk tkL_law15 38 rfl) (nI_add (6 * j) 2) (show 6 * j + 2 < L by omega) (by omega) ?_
  refine pw_aload_n (tk tkL_law15 39 rfl) rfl ?_
  refine pw_callSW (k := 4) (ct_L_valueAt x hx _ _) rfl (List.cons_ne_nil _ _) cwL_valueAt iiL ⟨by decide +kernel, by decide +kernel, by decide +kernel⟩ (by decide) (tk tkL_law16 0 rfl) mkL_158 stL_valueAt rfl rfl (by decide) hn (Nat.le_of_ble_eq_true rfl) (fun r h2 q => ?_)
  obtain ⟨y, rfl, ym, yc, er, y0⟩ := q
  cases er
  refine pw_ist5 (tk tkL_law16 1 rfl) rfl (show 5 < 7 by decide) ?_
  refine pw_aload_n (tk tkL_law16 2 rfl) rfl ?_
  refine pw_aload_n (tk tkL_law16 3 rfl) rfl ?_
  refine pw_iload (tk tkL_law16 4 rfl) rfl ?_
  refine pw_iconst (v := 1) (tk tkL_law16 5 rfl) (by decide) ?_
  refine pw_iadd (tk tkL_law16 6 rfl) ?_
  refine pw_sld_e (e := 6 * j + 1) rfl (tk tkL_law16 7 rfl) (nI_add (6 * j) 1) (show 6 * j + 1 < L by omega) (by omega) ?_
  refine pw_aload_n (tk tkL_law16 8 rfl) rfl ?_
  refine pw_iload (tk tkL_law16 9 rfl) rfl ?_
  refine pw_iconst (v := 2) (tk tkL_law16 10 rfl) (by decide) ?_
  refine pw_iadd (tk tkL_law16 11 rfl) ?_
  refine pw_sld_e (e := 6 * j + 2) rfl (tk tkL_law16 12 rfl) (nI_add (6 * j) 2) (show 6 * j + 2 < L by omega) (by omega) ?_
  refine pw_callV (ctm_valueAt hx ym _ _) okX8_valueAt (tk tkL_law16 13 rfl) mkL_161 imX8_valueAt seX8_valueAt (hp_ot _ 11) rfl rfl rfl (by decide) (Nat.zero_le _) (Nat.le_of_ble_eq_true rfl) (fun r h2 q => ?_) (fun E h2 q => by obtain ⟨z, _, _, _, _, e, _⟩ := q; cases e)
  obtain ⟨z, rfl, z1, z2, z0, er, zv, ze⟩ := q
  cases er
  refine pw_ist6 (tk tkL_law16 14 rfl) rfl (show 6 < 7 by decide) ?_
  refine pw_aload_n (tk tkL_law16 15 rfl) rfl ?_
  refine pw_cV (ct_X8_thrown z) okX8_thrown (tk tkL_law16 16 rfl) mkL_115 imX8_thrown seX8_thrown (hp_ot _ 11) rfl rfl rfl (by decide) (Nat.zero_le _) (Nat.le_of_ble_eq_true rfl) ?_
  refine pw_iload (tk tkL_law16 17 rfl) rfl ?_
  refine pw_icmp_eq (tgt := 1151) (tk tkL_law16 18 rfl) (by decide) (fun c1146 => ?_) (fun c1146 => absurd z0 c1146)
  refine pw_iload (tk tkL_law16 21 rfl) rfl ?_
  refine pw_if_ne (tgt := 1168) (tk tkL_law16 22 rfl) (by decide) (fun c1153 => ?_) (fun c1153 => ?_)
  · refine pw_goto (tgt := 2093) (tk tkL_law16 32 rfl) (by decide) ?_
    exact ih _ _ _ (REL.step yc z1 zv ze (go_valueAt hx.hg _ _))
  · refine pw_aload_n (tk tkL_law16 23 rfl) rfl ?_
    refine pw_iconst (v := 0) (tk tkL_law16 24 rfl) (by decide) ?_
    refine al_out_e (e := 0) (tk tkL_law16 25 rfl) rfl (by first | decide | omega) ?_
    refine pw_iload (tk tkL_law16 26 rfl) rfl ?_
    refine pw_i2l (tk tkL_law16 27 rfl) rfl ?_
    refine pw_lcmp (tk tkL_law16 28 rfl) ?_
    refine pw_if_eq (tgt := 1168) (tk tkL_law16 29 rfl) (by decide) (fun c1163 => ?_) (fun c1163 => absurd (lg_z (by rw [z2]; exact y0 c1153)) c1163)
    refine pw_goto (tgt := 2093) (tk tkL_law16 32 rfl) (by decide) ?_
    exact ih _ _ _ (REL.step yc z1 zv ze (go_valueAt hx.hg _ _))
set_option maxRecDepth 100000 in
set_option maxHeartbeats 4000000 in
theorem law_14 {L : Nat} {xs : Nat → Int32} {nm : String} {hh : List (Nat × Nat × Nat × Nat)} (hL : L ≤ 3072) {n : Nat} (hn : 6 ≤ n) (j : Nat) (hj : 6 * j + 5 < L) (x : XW) (hx : REL x) (z5 z6 : Option Value) (ih : ∀ (x : XW) (z5 z6 : Option Value), REL x → PW (ML9 L xs nm hh) 32 (n - 6) 2093 [some (.ref 1020), some (.ref 160), some (.ref 171), some (.ref 178), some (.int (nI (6 * j))), z5, z6] [] (hp x) QL) : PW (ML9 L xs nm hh) 32 n 1171 [some (.ref 1020), some (.ref 160), some (.ref 171), some (.ref 178), some (.int (nI (6 * j))), z5, z6] [] (hp x) QL := by
  refine pw_aload_n (tk tkL_law16 33 rfl) rfl ?_
  refine pw_aload_n (tk tkL_law16 34 rfl) rfl ?_
  refine pw_iload (tk tkL_law16 35 rfl) rfl ?_
  refine pw_iconst (v := 1) (tk tkL_law16 36 rfl) (by decide) ?_
  refine pw_iadd (tk tkL_law16 37 rfl) ?_
  refine pw_sld_e (e := 6 * j + 1) rfl (tk tkL_law16 38 rfl) (nI_add (6 * j) 1) (show 6 * j + 1 < L by omega) (by omega) ?_
  refine pw_aload_n (tk tkL_law16 39 rfl) rfl ?_
  refine pw_callSW (k := 3) (ct_L_sumOf x hx _) rfl (List.cons_ne_nil _ _) cwL_sumOf iiL ⟨by decide +kernel, by decide +kernel, by decide +kernel⟩ (by decide) (tk tkL_law17 0 rfl) mkL_162 stL_sumOf rfl rfl (by decide) hn (Nat.le_of_ble_eq_true rfl) (fun r h2 q => ?_)
  obtain ⟨y, rfl, ym, yc, er, y0⟩ := q
  cases er
  refine pw_ist5 (tk tkL_law17 1 rfl) rfl (show 5 < 7 by decide) ?_
  refine pw_aload_n (tk tkL_law17 2 rfl) rfl ?_
  refine pw_aload_n (tk tkL_law17 3 rfl) rfl ?_
  refine pw_iload (tk tkL_law17 4 rfl) rfl ?_
  refine pw_iconst (v := 1) (tk tkL_law17 5 rfl) (by decide) ?_
  refine pw_iadd (tk tkL_law17 6 rfl) ?_
  refine pw_sld_e (e := 6 * j + 1) rfl (tk tkL_law17 7 rfl) (nI_add (6 * j) 1) (show 6 * j + 1 < L by omega) (by omega) ?_
  refine pw_callV (ctm_sumOf hx ym _) okX8_sumOf (tk tkL_law17 8 rfl) mkL_164 imX8_sumOf seX8_sumOf (hp_ot _ 11) rfl rfl rfl (by decide) (Nat.zero_le _) (Nat.le_of_ble_eq_true rfl) (fun r h2 q => ?_) (fun E h2 q => by obtain ⟨z, _, _, _, _, e, _⟩ := q; cases e)
  obtain ⟨z, rfl, z1, z2, z0, er, zv, ze⟩ := q
  cases er
  refine pw_ist6 (tk tkL_law17 9 rfl) rfl (show 6 < 7 by decide) ?_
  refine pw_aload_n (tk tkL_law17 10 rfl) rfl ?_
  refine pw_cV (ct_X8_thrown z) okX8_thrown (tk tkL_law17 11 rfl) mkL_115 imX8_thrown seX8_thrown (hp_ot _ 11) rfl rfl rfl (by decide) (Nat.zero_le _) (Nat.le_of_ble_eq_true rfl) ?_
  refine pw_iload (tk tkL_law17 12 rfl) rfl ?_
  refine pw_icmp_eq (tgt := 1207) (tk tkL_law17 13 rfl) (by decide) (fun c1202 => ?_) (fun c1202 => absurd z0 c1202)
  refine pw_iload (tk tkL_law17 16 rfl) rfl ?_
  refine pw_if_ne (tgt := 1224) (tk tkL_law17 17 rfl) (by decide) (fun c1209 => ?_) (fun c1209 => ?_)
  · refine pw_goto (tgt := 2093) (tk tkL_law17 27 rfl) (by decide) ?_
    exact ih _ _ _ (REL.step yc z1 zv ze (go_sumOf hx.hg _))
  · refine pw_aload_n (tk tkL_law17 18 rfl) rfl ?_
    refine pw_iconst (v := 0) (tk tkL_law17 19 rfl) (by decide) ?_
    refine al_out_e (e := 0) (tk tkL_law17 20 rfl) rfl (by first | decide | omega) ?_
    refine pw_iload (tk tkL_law17 21 rfl) rfl ?_
    refine pw_i2l (tk tkL_law17 22 rfl) rfl ?_
    refine pw_lcmp (tk tkL_law17 23 rfl) ?_
    refine pw_if_eq (tgt := 1224) (tk tkL_law17 24 rfl) (by decide) (fun c1219 => ?_) (fun c1219 => absurd (lg_z (by rw [z2]; exact y0 c1209)) c1219)
    refine pw_goto (tgt := 2093) (tk tkL_law17 27 rfl) (by decide) ?_
    exact ih _ _ _ (REL.step yc z1 zv ze (go_sumOf hx.hg _))
set_option maxRecDepth 100000 in
set_option maxHeartbeats 4000000 in
theorem law_15 {L : Nat} {xs : Nat → Int32} {nm : String} {hh : List (Nat × Nat × Nat × Nat)} (hL : L ≤ 3072) {n : Nat} (hn : 6 ≤ n) (j : Nat) (hj : 6 * j + 5 < L) (x : XW) (hx : REL x) (z5 z6 : Option Value) (ih : ∀ (x : XW) (z5 z6 : Option Value), REL x → PW (ML9 L xs nm hh) 32 (n - 6) 2093 [some (.ref 1020), some (.ref 160), some (.ref 171), some (.ref 178), some (.int (nI (6 * j))), z5, z6] [] (hp x) QL) : PW (ML9 L xs nm hh) 32 n 1227 [some (.ref 1020), some (.ref 160), some (.ref 171), some (.ref 178), some (.int (nI (6 * j))), z5, z6] [] (hp x) QL := by
  refine pw_aload_n (tk tkL_law17 28 rfl) rfl ?_
  refine pw_callV (ct_X7_ruleCount x _ hx.1 hx.hg.1) okX7_ruleCount (tk tkL_law17 29 rfl) mkL_165 imX7_ruleCount seX7_ruleCount (hp_ot _ 0) rfl rfl rfl (by decide) hn (Nat.le_of_ble_eq_true rfl) (fun r h2 q => ?_) (fun E h2 q => (cq_x q).elim)
  obtain ⟨y, rfl, hy, yc, e⟩ := q
  obtain ⟨e0, rfl⟩ := cq_l e
  have ym : y.2.1 = x.2.1 := congrArg Prod.fst hy
  refine pw_aload_n (tk tkL_law17 30 rfl) rfl ?_
  refine pw_callV (ctm_ruleCount hx ym) okX8_ruleCount (tk tkL_law17 31 rfl) mkL_168 imX8_ruleCount seX8_ruleCount (hp_ot _ 11) rfl rfl rfl (by decide) (Nat.zero_le _) (Nat.le_of_ble_eq_true rfl) (fun r h2 q => ?_) (fun E h2 q => by obtain ⟨z, _, _, _, _, e, _⟩ := q; cases e)
  obtain ⟨z, rfl, z1, z2, z0, er, zv, ze⟩ := q
  cases er
  refine pw_icmp_eq (tgt := 2093) (tk tkL_law17 32 rfl) (by decide) (fun c1235 => ?_) (fun c1235 => absurd rfl c1235)
  exact ih _ _ _ (REL.step yc z1 zv ze (go_ruleCount hx.hg))
set_option maxRecDepth 100000 in
set_option maxHeartbeats 4000000 in
theorem law_16 {L : Nat} {xs : Nat → Int32} {nm : String} {hh : List (Nat × Nat × Nat × Nat)} (hL : L ≤ 3072) {n : Nat} (hn : 6 ≤ n) (j : Nat) (hj : 6 * j + 5 < L) (x : XW) (hx : REL x) (z5 z6 : Option Value) (ih : ∀ (x : XW) (z5 z6 : Option Value), REL x → PW (ML9 L xs nm hh) 32 (n - 6) 2093 [some (.ref 1020), some (.ref 160), some (.ref 171), some (.ref 178), some (.int (nI (6 * j))), z5, z6] [] (hp x) QL) : PW (ML9 L xs nm hh) 32 n 1240 [some (.ref 1020), some (.ref 160), some (.ref 171), some (.ref 178), some (.int (nI (6 * j))), z5, z6] [] (hp x) QL := by
  refine pw_aload_n (tk tkL_law17 35 rfl) rfl ?_
  refine pw_aload_n (tk tkL_law17 36 rfl) rfl ?_
  refine pw_iload (tk tkL_law17 37 rfl) rfl ?_
  refine pw_iconst (v := 1) (tk tkL_law17 38 rfl) (by decide) ?_
  refine pw_iadd (tk tkL_law17 39 rfl) ?_
  refine pw_sld_e (e := 6 * j + 1) rfl (tk tkL_law18 0 rfl) (nI_add (6 * j) 1) (show 6 * j + 1 < L by omega) (by omega) ?_
  refine pw_aload_n (tk tkL_law18 1 rfl) rfl ?_
  refine pw_callSW (k := 3) (ct_L_actionOf x hx _) rfl (List.cons_ne_nil _ _) cwL_actionOf iiL ⟨by decide +kernel, by decide +kernel, by decide +kernel⟩ (by decide) (tk tkL_law18 2 rfl) mkL_169 stL_actionOf rfl rfl (by decide) hn (Nat.le_of_ble_eq_true rfl) (fun r h2 q => ?_)
  obtain ⟨y, rfl, ym, yc, er, y0⟩ := q
  cases er
  refine pw_ist5 (tk tkL_law18 3 rfl) rfl (show 5 < 7 by decide) ?_
  refine pw_aload_n (tk tkL_law18 4 rfl) rfl ?_
  refine pw_aload_n (tk tkL_law18 5 rfl) rfl ?_
  refine pw_iload (tk tkL_law18 6 rfl) rfl ?_
  refine pw_iconst (v := 1) (tk tkL_law18 7 rfl) (by decide) ?_
  refine pw_iadd (tk tkL_law18 8 rfl) ?_
  refine pw_sld_e (e := 6 * j + 1) rfl (tk tkL_law18 9 rfl) (nI_add (6 * j) 1) (show 6 * j + 1 < L by omega) (by omega) ?_
  refine pw_callV (ctm_actionOf hx ym _) okX8_actionOf (tk tkL_law18 10 rfl) mkL_171 imX8_actionOf seX8_actionOf (hp_ot _ 11) rfl rfl rfl (by decide) (Nat.zero_le _) (Nat.le_of_ble_eq_true rfl) (fun r h2 q => ?_) (fun E h2 q => by obtain ⟨z, _, _, _, _, e, _⟩ := q; cases e)
  obtain ⟨z, rfl, z1, z2, z0, er, zv, ze⟩ := q
  cases er
  refine pw_ist6 (tk tkL_law18 11 rfl) rfl (show 6 < 7 by decide) ?_
  refine pw_aload_n (tk tkL_law18 12 rfl) rfl ?_
  refine pw_cV (ct_X8_thrown z) okX8_thrown (tk tkL_law18 13 rfl) mkL_115 imX8_thrown seX8_thrown (hp_ot _ 11) rfl rfl rfl (by decide) (Nat.zero_le _) (Nat.le_of_ble_eq_true rfl) ?_
  refine pw_iload (tk tkL_law18 14 rfl) rfl ?_
  refine pw_icmp_eq (tgt := 1276) (tk tkL_law18 15 rfl) (by decide) (fun c1271 => ?_) (fun c1271 => absurd z0 c1271)
  refine pw_iload (tk tkL_law18 18 rfl) rfl ?_
  refine pw_if_ne (tgt := 1293) (tk tkL_law18 19 rfl) (by decide) (fun c1278 => ?_) (fun c1278 => ?_)
  · refine pw_goto (tgt := 2093) (tk tkL_law18 29 rfl) (by decide) ?_
    exact ih _ _ _ (REL.step yc z1 zv ze (go_actionOf hx.hg _))
  · refine pw_aload_n (tk tkL_law18 20 rfl) rfl ?_
    refine pw_iconst (v := 0) (tk tkL_law18 21 rfl) (by decide) ?_
    refine al_out_e (e := 0) (tk tkL_law18 22 rfl) rfl (by first | decide | omega) ?_
    refine pw_iload (tk tkL_law18 23 rfl) rfl ?_
    refine pw_i2l (tk tkL_law18 24 rfl) rfl ?_
    refine pw_lcmp (tk tkL_law18 25 rfl) ?_
    refine pw_if_eq (tgt := 1293) (tk tkL_law18 26 rfl) (by decide) (fun c1288 => ?_) (fun c1288 => absurd (lg_z (by rw [z2]; exact y0 c1278)) c1288)
    refine pw_goto (tgt := 2093) (tk tkL_law18 29 rfl) (by decide) ?_
    exact ih _ _ _ (REL.step yc z1 zv ze (go_actionOf hx.hg _))
set_option maxRecDepth 100000 in
set_option maxHeartbeats 4000000 in
theorem law_17 {L : Nat} {xs : Nat → Int32} {nm : String} {hh : List (Nat × Nat × Nat × Nat)} (hL : L ≤ 3072) {n : Nat} (hn : 6 ≤ n) (j : Nat) (hj : 6 * j + 5 < L) (x : XW) (hx : REL x) (z5 z6 : Option Value) (ih : ∀ (x : XW) (z5 z6 : Option Value), REL x → PW (ML9 L xs nm hh) 32 (n - 6) 2093 [some (.ref 1020), some (.ref 160), some (.ref 171), some (.ref 178), some (.int (nI (6 * j))), z5, z6] [] (hp x) QL) : PW (ML9 L xs nm hh) 32 n 1296 [some (.ref 1020), some (.ref 160), some (.ref 171), some (.ref 178), some (.int (nI (6 * j))), z5, z6] [] (hp x) QL := by
  refine pw_aload_n (tk tkL_law18 30 rfl) rfl ?_
  refine pw_aload_n (tk tkL_law18 31 rfl) rfl ?_
  refine pw_iload (tk tkL_law18 32 rfl) rfl ?_
  refine pw_iconst (v := 1) (tk tkL_law18 33 rfl) (by decide) ?_
  refine pw_iadd (tk tkL_law18 34 rfl) ?_
  refine pw_sld_e (e := 6 * j + 1) rfl (tk tkL_law18 35 rfl) (nI_add (6 * j) 1) (show 6 * j + 1 < L by omega) (by omega) ?_
  refine pw_aload_n (tk tkL_law18 36 rfl) rfl ?_
  refine pw_callSW (k := 3) (ct_L_isMuted x hx _) rfl (List.cons_ne_nil _ _) cwL_isMuted iiL ⟨by decide +kernel, by decide +kernel, by decide +kernel⟩ (by decide) (tk tkL_law18 37 rfl) mkL_172 stL_isMuted rfl rfl (by decide) hn (Nat.le_of_ble_eq_true rfl) (fun r h2 q => ?_)
  obtain ⟨y, rfl, ym, yc, er, y0⟩ := q
  cases er
  refine pw_ist5 (tk tkL_law18 38 rfl) rfl (show 5 < 7 by decide) ?_
  refine pw_aload_n (tk tkL_law18 39 rfl) rfl ?_
  refine pw_aload_n (tk tkL_law19 0 rfl) rfl ?_
  refine pw_iload (tk tkL_law19 1 rfl) rfl ?_
  refine pw_iconst (v := 1) (tk tkL_law19 2 rfl) (by decide) ?_
  refine pw_iadd (tk tkL_law19 3 rfl) ?_
  refine pw_sld_e (e := 6 * j + 1) rfl (tk tkL_law19 4 rfl) (nI_add (6 * j) 1) (show 6 * j + 1 < L by omega) (by omega) ?_
  refine pw_callV (ctm_isMuted hx ym _) okX8_isMuted (tk tkL_law19 5 rfl) mkL_174 imX8_isMuted seX8_isMuted (hp_ot _ 11) rfl rfl rfl (by decide) (Nat.zero_le _) (Nat.le_of_ble_eq_true rfl) (fun r h2 q => ?_) (fun E h2 q => by obtain ⟨z, _, _, _, _, e, _⟩ := q; cases e)
  obtain ⟨z, rfl, z1, z2, z0, er, zv, ze⟩ := q
  cases er
  refine pw_ist6 (tk tkL_law19 6 rfl) rfl (show 6 < 7 by decide) ?_
  refine pw_aload_n (tk tkL_law19 7 rfl) rfl ?_
  refine pw_cV (ct_X8_thrown z) okX8_thrown (tk tkL_law19 8 rfl) mkL_115 imX8_thrown seX8_thrown (hp_ot _ 11) rfl rfl rfl (by decide) (Nat.zero_le _) (Nat.le_of_ble_eq_true rfl) ?_
  refine pw_iload (tk tkL_law19 9 rfl) rfl ?_
  refine pw_icmp_eq (tgt := 1332) (tk tkL_law19 10 rfl) (by decide) (fun c1327 => ?_) (fun c1327 => absurd z0 c1327)
  refine pw_iload (tk tkL_law19 13 rfl) rfl ?_
  refine pw_if_ne (tgt := 1356) (tk tkL_law19 14 rfl) (by decide) (fun c1334 => ?_) (fun c1334 => ?_)
  · refine pw_goto (tgt := 2093) (tk tkL_law19 27 rfl) (by decide) ?_
    exact ih _ _ _ (REL.step yc z1 zv ze (go_isMuted hx.hg _))
  · refine pw_aload_n (tk tkL_law19 15 rfl) rfl ?_
    refine pw_iconst (v := 0) (tk tkL_law19 16 rfl) (by decide) ?_
    refine al_out_e (e := 0) (tk tkL_law19 17 rfl) rfl (by first | decide | omega) ?_
    refine pw_iload (tk tkL_law19 18 rfl) rfl ?_
    refine pw_if_eq (tgt := 1349) (tk tkL_law19 19 rfl) (by decide) (fun c1342 => ?_) (fun c1342 => ?_)
    · refine pw_lconst (v := 0) (tk tkL_law19 22 rfl) (by decide) ?_
      refine pw_lcmp (tk tkL_law19 23 rfl) ?_
      refine pw_if_eq (tgt := 1356) (tk tkL_law19 24 rfl) (by decide) (fun c1351 => ?_) (fun c1351 => absurd (lg_z (by rw [z2, y0 c1334]; exact WV_t0 c1342)) c1351)
      refine pw_goto (tgt := 2093) (tk tkL_law19 27 rfl) (by decide) ?_
      exact ih _ _ _ (REL.step yc z1 zv ze (go_isMuted hx.hg _))
    · refine pw_lconst (v := 1) (tk tkL_law19 20 rfl) (by decide) ?_
      refine pw_goto (tgt := 1350) (tk tkL_law19 21 rfl) (by decide) ?_
      refine pw_lcmp (tk tkL_law19 23 rfl) ?_
      refine pw_if_eq (tgt := 1356) (tk tkL_law19 24 rfl) (by decide) (fun c1351 => ?_) (fun c1351 => absurd (lg_z (by rw [z2, y0 c1334]; exact WV_t1 c1342)) c1351)
      refine pw_goto (tgt := 2093) (tk tkL_law19 27 rfl) (by decide) ?_
      exact ih _ _ _ (REL.step yc z1 zv ze (go_isMuted hx.hg _))
set_option maxRecDepth 100000 in
set_option maxHeartbeats 4000000 in
theorem law_18 {L : Nat} {xs : Nat → Int32} {nm : String} {hh : List (Nat × Nat × Nat × Nat)} (hL : L ≤ 3072) {n : Nat} (hn : 6 ≤ n) (j : Nat) (hj : 6 * j + 5 < L) (x : XW) (hx : REL x) (z5 z6 : Option Value) (ih : ∀ (x : XW) (z5 z6 : Option Value), REL x → PW (ML9 L xs nm hh) 32 (n - 6) 2093 [some (.ref 1020), some (.ref 160), some (.ref 171), some (.ref 178), some (.int (nI (6 * j))), z5, z6] [] (hp x) QL) : PW (ML9 L xs nm hh) 32 n 1359 [some (.ref 1020), some (.ref 160), some (.ref 171), some (.ref 178), some (.int (nI (6 * j))), z5, z6] [] (hp x) QL := by
  refine pw_aload_n (tk tkL_law19 28 rfl) rfl ?_
  refine pw_aload_n (tk tkL_law19 29 rfl) rfl ?_
  refine pw_iload (tk tkL_law19 30 rfl) rfl ?_
  refine pw_iconst (v := 1) (tk tkL_law19 31 rfl) (by decide) ?_
  refine pw_iadd (tk tkL_law19 32 rfl) ?_
  refine pw_sld_e (e := 6 * j + 1) rfl (tk tkL_law19 33 rfl) (nI_add (6 * j) 1) (show 6 * j + 1 < L by omega) (by omega) ?_
  refine pw_aload_n (tk tkL_law19 34 rfl) rfl ?_
  refine pw_callSW (k := 3) (ct_L_actsOf x hx _) rfl (List.cons_ne_nil _ _) cwL_actsOf iiL ⟨by decide +kernel, by decide +kernel, by decide +kernel⟩ (by decide) (tk tkL_law19 35 rfl) mkL_175 stL_actsOf rfl rfl (by decide) hn (Nat.le_of_ble_eq_true rfl) (fun r h2 q => ?_)
  obtain ⟨y, rfl, ym, yc, er, y0⟩ := q
  cases er
  refine pw_ist5 (tk tkL_law19 36 rfl) rfl (show 5 < 7 by decide) ?_
  refine pw_aload_n (tk tkL_law19 37 rfl) rfl ?_
  refine pw_aload_n (tk tkL_law19 38 rfl) rfl ?_
  refine pw_iload (tk tkL_law19 39 rfl) rfl ?_
  refine pw_iconst (v := 1) (tk tkL_law20 0 rfl) (by decide) ?_
  refine pw_iadd (tk tkL_law20 1 rfl) ?_
  refine pw_sld_e (e := 6 * j + 1) rfl (tk tkL_law20 2 rfl) (nI_add (6 * j) 1) (show 6 * j + 1 < L by omega) (by omega) ?_
  refine pw_callV (ctm_actsOf hx ym _) okX8_actsOf (tk tkL_law20 3 rfl) mkL_177 imX8_actsOf seX8_actsOf (hp_ot _ 11) rfl rfl rfl (by decide) (Nat.zero_le _) (Nat.le_of_ble_eq_true rfl) (fun r h2 q => ?_) (fun E h2 q => by obtain ⟨z, _, _, _, _, e, _⟩ := q; cases e)
  obtain ⟨z, rfl, z1, z2, z0, er, zv, ze⟩ := q
  cases er
  refine pw_ist6 (tk tkL_law20 4 rfl) rfl (show 6 < 7 by decide) ?_
  refine pw_aload_n (tk tkL_law20 5 rfl) rfl ?_
  refine pw_cV (ct_X8_thrown z) okX8_thrown (tk tkL_law20 6 rfl) mkL_115 imX8_thrown seX8_thrown (hp_ot _ 11) rfl rfl rfl (by decide) (Nat.zero_le _) (Nat.le_of_ble_eq_true rfl) ?_
  refine pw_iload (tk tkL_law20 7 rfl) rfl ?_
  refine pw_icmp_eq (tgt := 1395) (tk tkL_law20 8 rfl) (by decide) (fun c1390 => ?_) (fun c1390 => absurd z0 c1390)
  refine pw_iload (tk tkL_law20 11 rfl) rfl ?_
  refine pw_if_ne (tgt := 1412) (tk tkL_law20 12 rfl) (by decide) (fun c1397 => ?_) (fun c1397 => ?_)
  · refine pw_goto (tgt := 2093) (tk tkL_law20 22 rfl) (by decide) ?_
    exact ih _ _ _ (REL.step yc z1 zv ze (go_actsOf hx.hg _))
  · refine pw_aload_n (tk tkL_law20 13 rfl) rfl ?_
    refine pw_iconst (v := 0) (tk tkL_law20 14 rfl) (by decide) ?_
    refine al_out_e (e := 0) (tk tkL_law20 15 rfl) rfl (by first | decide | omega) ?_
    refine pw_iload (tk tkL_law20 16 rfl) rfl ?_
    refine pw_i2l (tk tkL_law20 17 rfl) rfl ?_
    refine pw_lcmp (tk tkL_law20 18 rfl) ?_
    refine pw_if_eq (tgt := 1412) (tk tkL_law20 19 rfl) (by decide) (fun c1407 => ?_) (fun c1407 => absurd (lg_z (by rw [z2]; exact y0 c1397)) c1407)
    refine pw_goto (tgt := 2093) (tk tkL_law20 22 rfl) (by decide) ?_
    exact ih _ _ _ (REL.step yc z1 zv ze (go_actsOf hx.hg _))
set_option maxRecDepth 100000 in
set_option maxHeartbeats 4000000 in
theorem law_19 {L : Nat} {xs : Nat → Int32} {nm : String} {hh : List (Nat × Nat × Nat × Nat)} (hL : L ≤ 3072) {n : Nat} (hn : 6 ≤ n) (j : Nat) (hj : 6 * j + 5 < L) (x : XW) (hx : REL x) (z5 z6 : Option Value) (ih : ∀ (x : XW) (z5 z6 : Option Value), REL x → PW (ML9 L xs nm hh) 32 (n - 6) 2093 [some (.ref 1020), some (.ref 160), some (.ref 171), some (.ref 178), some (.int (nI (6 * j))), z5, z6] [] (hp x) QL) : PW (ML9 L xs nm hh) 32 n 1415 [some (.ref 1020), some (.ref 160), some (.ref 171), some (.ref 178), some (.int (nI (6 * j))), z5, z6] [] (hp x) QL := by
  refine pw_aload_n (tk tkL_law20 23 rfl) rfl ?_
  refine pw_callV (ct_X7_eventCount x _ hx.1 hx.hg.1) okX7_eventCount (tk tkL_law20 24 rfl) mkL_178 imX7_eventCount seX7_eventCount (hp_ot _ 0) rfl rfl rfl (by decide) hn (Nat.le_of_ble_eq_true rfl) (fun r h2 q => ?_) (fun E h2 q => (cq_x q).elim)
  obtain ⟨y, rfl, hy, yc, e⟩ := q
  obtain ⟨e0, rfl⟩ := cq_l e
  have ym : y.2.1 = x.2.1 := congrArg Prod.fst hy
  refine pw_aload_n (tk tkL_law20 25 rfl) rfl ?_
  refine pw_callV (ctm_eventCount hx ym) okX8_eventCount (tk tkL_law20 26 rfl) mkL_181 imX8_eventCount seX8_eventCount (hp_ot _ 11) rfl rfl rfl (by decide) (Nat.zero_le _) (Nat.le_of_ble_eq_true rfl) (fun r h2 q => ?_) (fun E h2 q => by obtain ⟨z, _, _, _, _, e, _⟩ := q; cases e)
  obtain ⟨z, rfl, z1, z2, z0, er, zv, ze⟩ := q
  cases er
  refine pw_icmp_eq (tgt := 2093) (tk tkL_law20 27 rfl) (by decide) (fun c1423 => ?_) (fun c1423 => absurd rfl c1423)
  exact ih _ _ _ (REL.step yc z1 zv ze (go_eventCount hx.hg))
set_option maxRecDepth 100000 in
set_option maxHeartbeats 4000000 in
theorem law_20 {L : Nat} {xs : Nat → Int32} {nm : String} {hh : List (Nat × Nat × Nat × Nat)} (hL : L ≤ 3072) {n : Nat} (hn : 6 ≤ n) (j : Nat) (hj : 6 * j + 5 < L) (x : XW) (hx : REL x) (z5 z6 : Option Value) (ih : ∀ (x : XW) (z5 z6 : Option Value), REL x → PW (ML9 L xs nm hh) 32 (n - 6) 2093 [some (.ref 1020), some (.ref 160), some (.ref 171), some (.ref 178), some (.int (nI (6 * j))), z5, z6] [] (hp x) QL) : PW (ML9 L xs nm hh) 32 n 1428 [some (.ref 1020), some (.ref 160), some (.ref 171), some (.ref 178), some (.int (nI (6 * j))), z5, z6] [] (hp x) QL := by
  refine pw_aload_n (tk tkL_law20 30 rfl) rfl ?_
  refine pw_callV (ct_X7_logSize x _ hx.1 hx.hg.1) okX7_logSize (tk tkL_law20 31 rfl) mkL_182 imX7_logSize seX7_logSize (hp_ot _ 0) rfl rfl rfl (by decide) hn (Nat.le_of_ble_eq_true rfl) (fun r h2 q => ?_) (fun E h2 q => (cq_x q).elim)
  obtain ⟨y, rfl, hy, yc, e⟩ := q
  obtain ⟨e0, rfl⟩ := cq_l e
  have ym : y.2.1 = x.2.1 := congrArg Prod.fst hy
  refine pw_aload_n (tk tkL_law20 32 rfl) rfl ?_
  refine pw_callV (ctm_logSize hx ym) okX8_logSize (tk tkL_law20 33 rfl) mkL_185 imX8_logSize seX8_logSize (hp_ot _ 11) rfl rfl rfl (by decide) (Nat.zero_le _) (Nat.le_of_ble_eq_true rfl) (fun r h2 q => ?_) (fun E h2 q => by obtain ⟨z, _, _, _, _, e, _⟩ := q; cases e)
  obtain ⟨z, rfl, z1, z2, z0, er, zv, ze⟩ := q
  cases er
  refine pw_icmp_eq (tgt := 2093) (tk tkL_law20 34 rfl) (by decide) (fun c1436 => ?_) (fun c1436 => absurd rfl c1436)
  exact ih _ _ _ (REL.step yc z1 zv ze (go_logSize hx.hg))
set_option maxRecDepth 100000 in
set_option maxHeartbeats 4000000 in
theorem law_21 {L : Nat} {xs : Nat → Int32} {nm : String} {hh : List (Nat × Nat × Nat × Nat)} (hL : L ≤ 3072) {n : Nat} (hn : 6 ≤ n) (j : Nat) (hj : 6 * j + 5 < L) (x : XW) (hx : REL x) (z5 z6 : Option Value) (ih : ∀ (x : XW) (z5 z6 : Option Value), REL x → PW (ML9 L xs nm hh) 32 (n - 6) 2093 [some (.ref 1020), some (.ref 160), some (.ref 171), some (.ref 178), some (.int (nI (6 * j))), z5, z6] [] (hp x) QL) : PW (ML9 L xs nm hh) 32 n 1441 [some (.ref 1020), some (.ref 160), some (.ref 171), some (.ref 178), some (.int (nI (6 * j))), z5, z6] [] (hp x) QL := by
  refine pw_aload_n (tk tkL_law20 37 rfl) rfl ?_
  refine pw_aload_n (tk tkL_law20 38 rfl) rfl ?_
  refine pw_iload (tk tkL_law20 39 rfl) rfl ?_
  refine pw_iconst (v := 1) (tk tkL_law21 0 rfl) (by decide) ?_
  refine pw_iadd (tk tkL_law21 1 rfl) ?_
  refine pw_sld_e (e := 6 * j + 1) rfl (tk tkL_law21 2 rfl) (nI_add (6 * j) 1) (show 6 * j + 1 < L by omega) (by omega) ?_
  refine pw_aload_n (tk tkL_law21 3 rfl) rfl ?_
  refine pw_callSW (k := 3) (ct_L_loggedRule x hx _) rfl (List.cons_ne_nil _ _) cwL_loggedRule iiL ⟨by decide +kernel, by decide +kernel, by decide +kernel⟩ (by decide) (tk tkL_law21 4 rfl) mkL_186 stL_loggedRule rfl rfl (by decide) hn (Nat.le_of_ble_eq_true rfl) (fun r h2 q => ?_)
  obtain ⟨y, rfl, ym, yc, er, y0⟩ := q
  cases er
  refine pw_ist5 (tk tkL_law21 5 rfl) rfl (show 5 < 7 by decide) ?_
  refine pw_aload_n (tk tkL_law21 6 rfl) rfl ?_
  refine pw_aload_n (tk tkL_law21 7 rfl) rfl ?_
  refine pw_iload (tk tkL_law21 8 rfl) rfl ?_
  refine pw_iconst (v := 1) (tk tkL_law21 9 rfl) (by decide) ?_
  refine pw_iadd (tk tkL_law21 10 rfl) ?_
  refine pw_sld_e (e := 6 * j + 1) rfl (tk tkL_law21 11 rfl) (nI_add (6 * j) 1) (show 6 * j + 1 < L by omega) (by omega) ?_
  refine pw_callV (ctm_loggedRule hx ym _) okX8_loggedRule (tk tkL_law21 12 rfl) mkL_188 imX8_loggedRule seX8_loggedRule (hp_ot _ 11) rfl rfl rfl (by decide) (Nat.zero_le _) (Nat.le_of_ble_eq_true rfl) (fun r h2 q => ?_) (fun E h2 q => by obtain ⟨z, _, _, _, _, e, _⟩ := q; cases e)
  obtain ⟨z, rfl, z1, z2, z0, er, zv, ze⟩ := q
  cases er
  refine pw_ist6 (tk tkL_law21 13 rfl) rfl (show 6 < 7 by decide) ?_
  refine pw_aload_n (tk tkL_law21 14 rfl) rfl ?_
  refine pw_cV (ct_X8_thrown z) okX8_thrown (tk tkL_law21 15 rfl) mkL_115 imX8_thrown seX8_thrown (hp_ot _ 11) rfl rfl rfl (by decide) (Nat.zero_le _) (Nat.le_of_ble_eq_true rfl) ?_
  refine pw_iload (tk tkL_law21 16 rfl) rfl ?_
  refine pw_icmp_eq (tgt := 1477) (tk tkL_law21 17 rfl) (by decide) (fun c1472 => ?_) (fun c1472 => absurd z0 c1472)
  refine pw_iload (tk tkL_law21 20 rfl) rfl ?_
  refine pw_if_ne (tgt := 1494) (tk tkL_law21 21 rfl) (by decide) (fun c1479 => ?_) (fun c1479 => ?_)
  · refine pw_goto (tgt := 2093) (tk tkL_law21 31 rfl) (by decide) ?_
    exact ih _ _ _ (REL.step yc z1 zv ze (go_loggedRule hx.hg _))
  · refine pw_aload_n (tk tkL_law21 22 rfl) rfl ?_
    refine pw_iconst (v := 0) (tk tkL_law21 23 rfl) (by decide) ?_
    refine al_out_e (e := 0) (tk tkL_law21 24 rfl) rfl (by first | decide | omega) ?_
    refine pw_iload (tk tkL_law21 25 rfl) rfl ?_
    refine pw_i2l (tk tkL_law21 26 rfl) rfl ?_
    refine pw_lcmp (tk tkL_law21 27 rfl) ?_
    refine pw_if_eq (tgt := 1494) (tk tkL_law21 28 rfl) (by decide) (fun c1489 => ?_) (fun c1489 => absurd (lg_z (by rw [z2]; exact y0 c1479)) c1489)
    refine pw_goto (tgt := 2093) (tk tkL_law21 31 rfl) (by decide) ?_
    exact ih _ _ _ (REL.step yc z1 zv ze (go_loggedRule hx.hg _))
set_option maxRecDepth 100000 in
set_option maxHeartbeats 4000000 in
theorem law_22 {L : Nat} {xs : Nat → Int32} {nm : String} {hh : List (Nat × Nat × Nat × Nat)} (hL : L ≤ 3072) {n : Nat} (hn : 6 ≤ n) (j : Nat) (hj : 6 * j + 5 < L) (x : XW) (hx : REL x) (z5 z6 : Option Value) (ih : ∀ (x : XW) (z5 z6 : Option Value), REL x → PW (ML9 L xs nm hh) 32 (n - 6) 2093 [some (.ref 1020), some (.ref 160), some (.ref 171), some (.ref 178), some (.int (nI (6 * j))), z5, z6] [] (hp x) QL) : PW (ML9 L xs nm hh) 32 n 1497 [some (.ref 1020), some (.ref 160), some (.ref 171), some (.ref 178), some (.int (nI (6 * j))), z5, z6] [] (hp x) QL := by
  refine pw_aload_n (tk tkL_law21 32 rfl) rfl ?_
  refine pw_aload_n (tk tkL_law21 33 rfl) rfl ?_
  refine pw_iload (tk tkL_law21 34 rfl) rfl ?_
  refine pw_iconst (v := 1) (tk tkL_law21 35 rfl) (by decide) ?_
  refine pw_iadd (tk tkL_law21 36 rfl) ?_
  refine pw_sld_e (e := 6 * j + 1) rfl (tk tkL_law21 37 rfl) (nI_add (6 * j) 1) (show 6 * j + 1 < L by omega) (by omega) ?_
  refine pw_aload_n (tk tkL_law21 38 rfl) rfl ?_
  refine pw_callSW (k := 3) (ct_L_loggedDepth x hx _) rfl (List.cons_ne_nil _ _) cwL_loggedDepth iiL ⟨by decide +kernel, by decide +kernel, by decide +kernel⟩ (by decide) (tk tkL_law21 39 rfl) mkL_189 stL_loggedDepth rfl rfl (by decide) hn (Nat.le_of_ble_eq_true rfl) (fun r h2 q => ?_)
  obtain ⟨y, rfl, ym, yc, er, y0⟩ := q
  cases er
  refine pw_ist5 (tk tkL_law22 0 rfl) rfl (show 5 < 7 by decide) ?_
  refine pw_aload_n (tk tkL_law22 1 rfl) rfl ?_
  refine pw_aload_n (tk tkL_law22 2 rfl) rfl ?_
  refine pw_iload (tk tkL_law22 3 rfl) rfl ?_
  refine pw_iconst (v := 1) (tk tkL_law22 4 rfl) (by decide) ?_
  refine pw_iadd (tk tkL_law22 5 rfl) ?_
  refine pw_sld_e (e := 6 * j + 1) rfl (tk tkL_law22 6 rfl) (nI_add (6 * j) 1) (show 6 * j + 1 < L by omega) (by omega) ?_
  refine pw_callV (ctm_loggedDepth hx ym _) okX8_loggedDepth (tk tkL_law22 7 rfl) mkL_191 imX8_loggedDepth seX8_loggedDepth (hp_ot _ 11) rfl rfl rfl (by decide) (Nat.zero_le _) (Nat.le_of_ble_eq_true rfl) (fun r h2 q => ?_) (fun E h2 q => by obtain ⟨z, _, _, _, _, e, _⟩ := q; cases e)
  obtain ⟨z, rfl, z1, z2, z0, er, zv, ze⟩ := q
  cases er
  refine pw_ist6 (tk tkL_law22 8 rfl) rfl (show 6 < 7 by decide) ?_
  refine pw_aload_n (tk tkL_law22 9 rfl) rfl ?_
  refine pw_cV (ct_X8_thrown z) okX8_thrown (tk tkL_law22 10 rfl) mkL_115 imX8_thrown seX8_thrown (hp_ot _ 11) rfl rfl rfl (by decide) (Nat.zero_le _) (Nat.le_of_ble_eq_true rfl) ?_
  refine pw_iload (tk tkL_law22 11 rfl) rfl ?_
  refine pw_icmp_eq (tgt := 1533) (tk tkL_law22 12 rfl) (by decide) (fun c1528 => ?_) (fun c1528 => absurd z0 c1528)
  refine pw_iload (tk tkL_law22 15 rfl) rfl ?_
  refine pw_if_ne (tgt := 1550) (tk tkL_law22 16 rfl) (by decide) (fun c1535 => ?_) (fun c1535 => ?_)
  · refine pw_goto (tgt := 2093) (tk tkL_law22 26 rfl) (by decide) ?_
    exact ih _ _ _ (REL.step yc z1 zv ze (go_loggedDepth hx.hg _))
  · refine pw_aload_n (tk tkL_law22 17 rfl) rfl ?_
    refine pw_iconst (v := 0) (tk tkL_law22 18 rfl) (by decide) ?_
    refine al_out_e (e := 0) (tk tkL_law22 19 rfl) rfl (by first | decide | omega) ?_
    refine pw_iload (tk tkL_law22 20 rfl) rfl ?_
    refine pw_i2l (tk tkL_law22 21 rfl) rfl ?_
    refine pw_lcmp (tk tkL_law22 22 rfl) ?_
    refine pw_if_eq (tgt := 1550) (tk tkL_law22 23 rfl) (by decide) (fun c1545 => ?_) (fun c1545 => absurd (lg_z (by rw [z2]; exact y0 c1535)) c1545)
    refine pw_goto (tgt := 2093) (tk tkL_law22 26 rfl) (by decide) ?_
    exact ih _ _ _ (REL.step yc z1 zv ze (go_loggedDepth hx.hg _))
set_option maxRecDepth 100000 in
set_option maxHeartbeats 4000000 in
theorem law_23 {L : Nat} {xs : Nat → Int32} {nm : String} {hh : List (Nat × Nat × Nat × Nat)} (hL : L ≤ 3072) {n : Nat} (hn : 6 ≤ n) (j : Nat) (hj : 6 * j + 5 < L) (x : XW) (hx : REL x) (z5 z6 : Option Value) (ih : ∀ (x : XW) (z5 z6 : Option Value), REL x → PW (ML9 L xs nm hh) 32 (n - 6) 2093 [some (.ref 1020), some (.ref 160), some (.ref 171), some (.ref 178), some (.int (nI (6 * j))), z5, z6] [] (hp x) QL) : PW (ML9 L xs nm hh) 32 n 1553 [some (.ref 1020), some (.ref 160), some (.ref 171), some (.ref 178), some (.int (nI (6 * j))), z5, z6] [] (hp x) QL := by
  refine pw_aload_n (tk tkL_law22 27 rfl) rfl ?_
  refine pw_aload_n (tk tkL_law22 28 rfl) rfl ?_
  refine pw_iload (tk tkL_law22 29 rfl) rfl ?_
  refine pw_iconst (v := 1) (tk tkL_law22 30 rfl) (by decide) ?_
  refine pw_iadd (tk tkL_law22 31 rfl) ?_
  refine pw_sld_e (e := 6 * j + 1) rfl (tk tkL_law22 32 rfl) (nI_add (6 * j) 1) (show 6 * j + 1 < L by omega) (by omega) ?_
  refine pw_aload_n (tk tkL_law22 33 rfl) rfl ?_
  refine pw_iload (tk tkL_law22 34 rfl) rfl ?_
  refine pw_iconst (v := 2) (tk tkL_law22 35 rfl) (by decide) ?_
  refine pw_iadd (tk tkL_law22 36 rfl) ?_
  refine pw_sld_e (e := 6 * j + 2) rfl (tk tkL_law22 37 rfl) (nI_add (6 * j) 2) (show 6 * j + 2 < L by omega) (by omega) ?_
  refine pw_aload_n (tk tkL_law22 38 rfl) rfl ?_
  refine pw_callSW (k := 4) (ct_L_canSetOff x hx _ _) rfl (List.cons_ne_nil _ _) cwL_canSetOff iiL ⟨by decide +kernel, by decide +kernel, by decide +kernel⟩ (by decide) (tk tkL_law22 39 rfl) mkL_192 stL_canSetOff rfl rfl (by decide) hn (Nat.le_of_ble_eq_true rfl) (fun r h2 q => ?_)
  obtain ⟨y, rfl, ym, yc, er, y0⟩ := q
  cases er
  refine pw_ist5 (tk tkL_law23 0 rfl) rfl (show 5 < 7 by decide) ?_
  refine pw_aload_n (tk tkL_law23 1 rfl) rfl ?_
  refine pw_aload_n (tk tkL_law23 2 rfl) rfl ?_
  refine pw_iload (tk tkL_law23 3 rfl) rfl ?_
  refine pw_iconst (v := 1) (tk tkL_law23 4 rfl) (by decide) ?_
  refine pw_iadd (tk tkL_law23 5 rfl) ?_
  refine pw_sld_e (e := 6 * j + 1) rfl (tk tkL_law23 6 rfl) (nI_add (6 * j) 1) (show 6 * j + 1 < L by omega) (by omega) ?_
  refine pw_aload_n (tk tkL_law23 7 rfl) rfl ?_
  refine pw_iload (tk tkL_law23 8 rfl) rfl ?_
  refine pw_iconst (v := 2) (tk tkL_law23 9 rfl) (by decide) ?_
  refine pw_iadd (tk tkL_law23 10 rfl) ?_
  refine pw_sld_e (e := 6 * j + 2) rfl (tk tkL_law23 11 rfl) (nI_add (6 * j) 2) (show 6 * j + 2 < L by omega) (by omega) ?_
  refine pw_callV (ctm_canSetOff hx ym _ _) okX8_canSetOff (tk tkL_law23 12 rfl) mkL_194 imX8_canSetOff seX8_canSetOff (hp_ot _ 11) rfl rfl rfl (by decide) (Nat.zero_le _) (Nat.le_of_ble_eq_true rfl) (fun r h2 q => ?_) (fun E h2 q => by obtain ⟨z, _, _, _, _, e, _⟩ := q; cases e)
  obtain ⟨z, rfl, z1, z2, z0, er, zv, ze⟩ := q
  cases er
  refine pw_ist6 (tk tkL_law23 13 rfl) rfl (show 6 < 7 by decide) ?_
  refine pw_aload_n (tk tkL_law23 14 rfl) rfl ?_
  refine pw_cV (ct_X8_thrown z) okX8_thrown (tk tkL_law23 15 rfl) mkL_115 imX8_thrown seX8_thrown (hp_ot _ 11) rfl rfl rfl (by decide) (Nat.zero_le _) (Nat.le_of_ble_eq_true rfl) ?_
  refine pw_iload (tk tkL_law23 16 rfl) rfl ?_
  refine pw_icmp_eq (tgt := 1601) (tk tkL_law23 17 rfl) (by decide) (fun c1596 => ?_) (fun c1596 => absurd z0 c1596)
  refine pw_iload (tk tkL_law23 20 rfl) rfl ?_
  refine pw_if_ne (tgt := 1625) (tk tkL_law23 21 rfl) (by decide) (fun c1603 => ?_) (fun c1603 => ?_)
  · refine pw_goto (tgt := 2093) (tk tkL_law23 34 rfl) (by decide) ?_
    exact ih _ _ _ (REL.step yc z1 zv ze (go_canSetOff hx.hg _ _))
  · refine pw_aload_n (tk tkL_law23 22 rfl) rfl ?_
    refine pw_iconst (v := 0) (tk tkL_law23 23 rfl) (by decide) ?_
    refine al_out_e (e := 0) (tk tkL_law23 24 rfl) rfl (by first | decide | omega) ?_
    refine pw_iload (tk tkL_law23 25 rfl) rfl ?_
    refine pw_if_eq (tgt := 1618) (tk tkL_law23 26 rfl) (by decide) (fun c1611 => ?_) (fun c1611 => ?_)
    · refine pw_lconst (v := 0) (tk tkL_law23 29 rfl) (by decide) ?_
      refine pw_lcmp (tk tkL_law23 30 rfl) ?_
      refine pw_if_eq (tgt := 1625) (tk tkL_law23 31 rfl) (by decide) (fun c1620 => ?_) (fun c1620 => absurd (lg_z (by rw [z2, y0 c1603]; exact WV_t0 c1611)) c1620)
      refine pw_goto (tgt := 2093) (tk tkL_law23 34 rfl) (by decide) ?_
      exact ih _ _ _ (REL.step yc z1 zv ze (go_canSetOff hx.hg _ _))
    · refine pw_lconst (v := 1) (tk tkL_law23 27 rfl) (by decide) ?_
      refine pw_goto (tgt := 1619) (tk tkL_law23 28 rfl) (by decide) ?_
      refine pw_lcmp (tk tkL_law23 30 rfl) ?_
      refine pw_if_eq (tgt := 1625) (tk tkL_law23 31 rfl) (by decide) (fun c1620 => ?_) (fun c1620 => absurd (lg_z (by rw [z2, y0 c1603]; exact WV_t1 c1611)) c1620)
      refine pw_goto (tgt := 2093) (tk tkL_law23 34 rfl) (by decide) ?_
      exact ih _ _ _ (REL.step yc z1 zv ze (go_canSetOff hx.hg _ _))
set_option maxRecDepth 100000 in
set_option maxHeartbeats 4000000 in
theorem law_24 {L : Nat} {xs : Nat → Int32} {nm : String} {hh : List (Nat × Nat × Nat × Nat)} (hL : L ≤ 3072) {n : Nat} (hn : 6 ≤ n) (j : Nat) (hj : 6 * j + 5 < L) (x : XW) (hx : REL x) (z5 z6 : Option Value) (ih : ∀ (x : XW) (z5 z6 : Option Value), REL x → PW (ML9 L xs nm hh) 32 (n - 6) 2093 [some (.ref 1020), some (.ref 160), some (.ref 171), some (.ref 178), some (.int (nI (6 * j))), z5, z6] [] (hp x) QL) : PW (ML9 L xs nm hh) 32 n 1628 [some (.ref 1020), some (.ref 160), some (.ref 171), some (.ref 178), some (.int (nI (6 * j))), z5, z6] [] (hp x) QL := by
  refine pw_aload_n (tk tkL_law23 35 rfl) rfl ?_
  refine pw_aload_n (tk tkL_law23 36 rfl) rfl ?_
  refine pw_iload (tk tkL_law23 37 rfl) rfl ?_
  refine pw_iconst (v := 1) (tk tkL_law23 38 rfl) (by decide) ?_
  refine pw_iadd (tk tkL_law23 39 rfl) ?_
  refine pw_sld_e (e := 6 * j + 1) rfl (tk tkL_law24 0 rfl) (nI_add (6 * j) 1) (show 6 * j + 1 < L by omega) (by omega) ?_
  refine pw_aload_n (tk tkL_law24 1 rfl) rfl ?_
  refine pw_callSW (k := 3) (ct_L_reachOf x hx _) rfl (List.cons_ne_nil _ _) cwL_reachOf iiL ⟨by decide +kernel, by decide +kernel, by decide +kernel⟩ (by decide) (tk tkL_law24 2 rfl) mkL_195 stL_reachOf rfl rfl (by decide) hn (Nat.le_of_ble_eq_true rfl) (fun r h2 q => ?_)
  obtain ⟨y, rfl, ym, yc, er, y0⟩ := q
  cases er
  refine pw_ist5 (tk tkL_law24 3 rfl) rfl (show 5 < 7 by decide) ?_
  refine pw_aload_n (tk tkL_law24 4 rfl) rfl ?_
  refine pw_aload_n (tk tkL_law24 5 rfl) rfl ?_
  refine pw_iload (tk tkL_law24 6 rfl) rfl ?_
  refine pw_iconst (v := 1) (tk tkL_law24 7 rfl) (by decide) ?_
  refine pw_iadd (tk tkL_law24 8 rfl) ?_
  refine pw_sld_e (e := 6 * j + 1) rfl (tk tkL_law24 9 rfl) (nI_add (6 * j) 1) (show 6 * j + 1 < L by omega) (by omega) ?_
  refine pw_callV (ctm_reachOf hx ym _) okX8_reachOf (tk tkL_law24 10 rfl) mkL_197 imX8_reachOf seX8_reachOf (hp_ot _ 11) rfl rfl rfl (by decide) (Nat.zero_le _) (Nat.le_of_ble_eq_true rfl) (fun r h2 q => ?_) (fun E h2 q => by obtain ⟨z, _, _, _, _, e, _⟩ := q; cases e)
  obtain ⟨z, rfl, z1, z2, z0, er, zv, ze⟩ := q
  cases er
  refine pw_ist6 (tk tkL_law24 11 rfl) rfl (show 6 < 7 by decide) ?_
  refine pw_aload_n (tk tkL_law24 12 rfl) rfl ?_
  refine pw_cV (ct_X8_thrown z) okX8_thrown (tk tkL_law24 13 rfl) mkL_115 imX8_thrown seX8_thrown (hp_ot _ 11) rfl rfl rfl (by decide) (Nat.zero_le _) (Nat.le_of_ble_eq_true rfl) ?_
  refine pw_iload (tk tkL_law24 14 rfl) rfl ?_
  refine pw_icmp_eq (tgt := 1664) (tk tkL_law24 15 rfl) (by decide) (fun c1659 => ?_) (fun c1659 => absurd z0 c1659)
  refine pw_iload (tk tkL_law24 18 rfl) rfl ?_
  refine pw_if_ne (tgt := 1681) (tk tkL_law24 19 rfl) (by decide) (fun c1666 => ?_) (fun c1666 => ?_)
  · refine pw_goto (tgt := 2093) (tk tkL_law24 29 rfl) (by decide) ?_
    exact ih _ _ _ (REL.step yc z1 zv ze (go_reachOf hx.hg _))
  · refine pw_aload_n (tk tkL_law24 20 rfl) rfl ?_
    refine pw_iconst (v := 0) (tk tkL_law24 21 rfl) (by decide) ?_
    refine al_out_e (e := 0) (tk tkL_law24 22 rfl) rfl (by first | decide | omega) ?_
    refine pw_iload (tk tkL_law24 23 rfl) rfl ?_
    refine pw_i2l (tk tkL_law24 24 rfl) rfl ?_
    refine pw_lcmp (tk tkL_law24 25 rfl) ?_
    refine pw_if_eq (tgt := 1681) (tk tkL_law24 26 rfl) (by decide) (fun c1676 => ?_) (fun c1676 => absurd (lg_z (by rw [z2]; exact y0 c1666)) c1676)
    refine pw_goto (tgt := 2093) (tk tkL_law24 29 rfl) (by decide) ?_
    exact ih _ _ _ (REL.step yc z1 zv ze (go_reachOf hx.hg _))
set_option maxRecDepth 100000 in
set_option maxHeartbeats 4000000 in
theorem law_25 {L : Nat} {xs : Nat → Int32} {nm : String} {hh : List (Nat × Nat × Nat × Nat)} (hL : L ≤ 3072) {n : Nat} (hn : 6 ≤ n) (j : Nat) (hj : 6 * j + 5 < L) (x : XW) (hx : REL x) (z5 z6 : Option Value) (ih : ∀ (x : XW) (z5 z6 : Option Value), REL x → PW (ML9 L xs nm hh) 32 (n - 6) 2093 [some (.ref 1020), some (.ref 160), some (.ref 171), some (.ref 178), some (.int (nI (6 * j))), z5, z6] [] (hp x) QL) : PW (ML9 L xs nm hh) 32 n 1684 [some (.ref 1020), some (.ref 160), some (.ref 171), some (.ref 178), some (.int (nI (6 * j))), z5, z6] [] (hp x) QL := by
  refine pw_aload_n (tk tkL_law24 30 rfl) rfl ?_
  refine pw_aload_n (tk tkL_law24 31 rfl) rfl ?_
  refine pw_iload (tk tkL_law24 32 rfl) rfl ?_
  refine pw_iconst (v := 1) (tk tkL_law24 33 rfl) (by decide) ?_
  refine pw_iadd (tk tkL_law24 34 rfl) ?_
  refine pw_sld_e (e := 6 * j + 1) rfl (tk tkL_law24 35 rfl) (nI_add (6 * j) 1) (show 6 * j + 1 < L by omega) (by omega) ?_
  refine pw_aload_n (tk tkL_law24 36 rfl) rfl ?_
  refine pw_callSW (k := 3) (ct_L_reachByTable x hx _) rfl (List.cons_ne_nil _ _) cwL_reachByTable iiL ⟨by decide +kernel, by decide +kernel, by decide +kernel⟩ (by decide) (tk tkL_law24 37 rfl) mkL_198 stL_reachByTable rfl rfl (by decide) hn (Nat.le_of_ble_eq_true rfl) (fun r h2 q => ?_)
  obtain ⟨y, rfl, ym, yc, er, y0⟩ := q
  cases er
  refine pw_ist5 (tk tkL_law24 38 rfl) rfl (show 5 < 7 by decide) ?_
  refine pw_aload_n (tk tkL_law24 39 rfl) rfl ?_
  refine pw_aload_n (tk tkL_law25 0 rfl) rfl ?_
  refine pw_iload (tk tkL_law25 1 rfl) rfl ?_
  refine pw_iconst (v := 1) (tk tkL_law25 2 rfl) (by decide) ?_
  refine pw_iadd (tk tkL_law25 3 rfl) ?_
  refine pw_sld_e (e := 6 * j + 1) rfl (tk tkL_law25 4 rfl) (nI_add (6 * j) 1) (show 6 * j + 1 < L by omega) (by omega) ?_
  refine pw_callV (ctm_reachByTable hx ym _) okX8_reachByTable (tk tkL_law25 5 rfl) mkL_200 imX8_reachByTable seX8_reachByTable (hp_ot _ 11) rfl rfl rfl (by decide) (Nat.zero_le _) (Nat.le_of_ble_eq_true rfl) (fun r h2 q => ?_) (fun E h2 q => by obtain ⟨z, _, _, _, _, e, _⟩ := q; cases e)
  obtain ⟨z, rfl, z1, z2, z0, er, zv, ze⟩ := q
  cases er
  refine pw_ist6 (tk tkL_law25 6 rfl) rfl (show 6 < 7 by decide) ?_
  refine pw_aload_n (tk tkL_law25 7 rfl) rfl ?_
  refine pw_cV (ct_X8_thrown z) okX8_thrown (tk tkL_law25 8 rfl) mkL_115 imX8_thrown seX8_thrown (hp_ot _ 11) rfl rfl rfl (by decide) (Nat.zero_le _) (Nat.le_of_ble_eq_true rfl) ?_
  refine pw_iload (tk tkL_law25 9 rfl) rfl ?_
  refine pw_icmp_eq (tgt := 1720) (tk tkL_law25 10 rfl) (by decide) (fun c1715 => ?_) (fun c1715 => absurd z0 c1715)
  refine pw_iload (tk tkL_law25 13 rfl) rfl ?_
  refine pw_if_ne (tgt := 1737) (tk tkL_law25 14 rfl) (by decide) (fun c1722 => ?_) (fun c1722 => ?_)
  · refine pw_goto (tgt := 2093) (tk tkL_law25 24 rfl) (by decide) ?_
    exact ih _ _ _ (REL.step yc z1 zv ze (go_reachByTable hx.hg _))
  · refine pw_aload_n (tk tkL_law25 15 rfl) rfl ?_
    refine pw_iconst (v := 0) (tk tkL_law25 16 rfl) (by decide) ?_
    refine al_out_e (e := 0) (tk tkL_law25 17 rfl) rfl (by first | decide | omega) ?_
    refine pw_iload (tk tkL_law25 18 rfl) rfl ?_
    refine pw_i2l (tk tkL_law25 19 rfl) rfl ?_
    refine pw_lcmp (tk tkL_law25 20 rfl) ?_
    refine pw_if_eq (tgt := 1737) (tk tkL_law25 21 rfl) (by decide) (fun c1732 => ?_) (fun c1732 => absurd (lg_z (by rw [z2]; exact y0 c1722)) c1732)
    refine pw_goto (tgt := 2093) (tk tkL_law25 24 rfl) (by decide) ?_
    exact ih _ _ _ (REL.step yc z1 zv ze (go_reachByTable hx.hg _))
set_option maxRecDepth 100000 in
set_option maxHeartbeats 4000000 in
theorem law_26 {L : Nat} {xs : Nat → Int32} {nm : String} {hh : List (Nat × Nat × Nat × Nat)} (hL : L ≤ 3072) {n : Nat} (hn : 6 ≤ n) (j : Nat) (hj : 6 * j + 5 < L) (x : XW) (hx : REL x) (z5 z6 : Option Value) (ih : ∀ (x : XW) (z5 z6 : Option Value), REL x → PW (ML9 L xs nm hh) 32 (n - 6) 2093 [some (.ref 1020), some (.ref 160), some (.ref 171), some (.ref 178), some (.int (nI (6 * j))), z5, z6] [] (hp x) QL) : PW (ML9 L xs nm hh) 32 n 1740 [some (.ref 1020), some (.ref 160), some (.ref 171), some (.ref 178), some (.int (nI (6 * j))), z5, z6] [] (hp x) QL := by
  refine pw_aload_n (tk tkL_law25 25 rfl) rfl ?_
  refine pw_callV (ct_X7_circularRules x _ hx.1 hx.hg.1) okX7_circularRules (tk tkL_law25 26 rfl) mkL_201 imX7_circularRules seX7_circularRules (hp_ot _ 0) rfl rfl rfl (by decide) hn (Nat.le_of_ble_eq_true rfl) (fun r h2 q => ?_) (fun E h2 q => (cq_x q).elim)
  obtain ⟨y, rfl, hy, yc, e⟩ := q
  obtain ⟨e0, rfl⟩ := cq_l e
  have ym : y.2.1 = x.2.1 := congrArg Prod.fst hy
  refine pw_aload_n (tk tkL_law25 27 rfl) rfl ?_
  refine pw_callV (ctm_circularRules hx ym) okX8_circularRules (tk tkL_law25 28 rfl) mkL_204 imX8_circularRules seX8_circularRules (hp_ot _ 11) rfl rfl rfl (by decide) (Nat.zero_le _) (Nat.le_of_ble_eq_true rfl) (fun r h2 q => ?_) (fun E h2 q => by obtain ⟨z, _, _, _, _, e, _⟩ := q; cases e)
  obtain ⟨z, rfl, z1, z2, z0, er, zv, ze⟩ := q
  cases er
  refine pw_icmp_eq (tgt := 2093) (tk tkL_law25 29 rfl) (by decide) (fun c1748 => ?_) (fun c1748 => absurd rfl c1748)
  exact ih _ _ _ (REL.step yc z1 zv ze (go_circularRules hx.hg))
set_option maxRecDepth 100000 in
set_option maxHeartbeats 4000000 in
theorem law_27 {L : Nat} {xs : Nat → Int32} {nm : String} {hh : List (Nat × Nat × Nat × Nat)} (hL : L ≤ 3072) {n : Nat} (hn : 6 ≤ n) (j : Nat) (hj : 6 * j + 5 < L) (x : XW) (hx : REL x) (z5 z6 : Option Value) (ih : ∀ (x : XW) (z5 z6 : Option Value), REL x → PW (ML9 L xs nm hh) 32 (n - 6) 2093 [some (.ref 1020), some (.ref 160), some (.ref 171), some (.ref 178), some (.int (nI (6 * j))), z5, z6] [] (hp x) QL) : PW (ML9 L xs nm hh) 32 n 1753 [some (.ref 1020), some (.ref 160), some (.ref 171), some (.ref 178), some (.int (nI (6 * j))), z5, z6] [] (hp x) QL := by
  refine pw_aload_n (tk tkL_law25 32 rfl) rfl ?_
  refine pw_aload_n (tk tkL_law25 33 rfl) rfl ?_
  refine pw_iload (tk tkL_law25 34 rfl) rfl ?_
  refine pw_iconst (v := 1) (tk tkL_law25 35 rfl) (by decide) ?_
  refine pw_iadd (tk tkL_law25 36 rfl) ?_
  refine pw_sld_e (e := 6 * j + 1) rfl (tk tkL_law25 37 rfl) (nI_add (6 * j) 1) (show 6 * j + 1 < L by omega) (by omega) ?_
  refine pw_i2l (tk tkL_law25 38 rfl) rfl ?_
  refine pw_bipush (v := 32) (tk tkL_law25 39 rfl) (by decide) ?_
  refine pw_lshl (tk tkL_law26 0 rfl) rfl ?_
  refine pw_aload_n (tk tkL_law26 1 rfl) rfl ?_
  refine pw_iload (tk tkL_law26 2 rfl) rfl ?_
  refine pw_iconst (v := 2) (tk tkL_law26 3 rfl) (by decide) ?_
  refine pw_iadd (tk tkL_law26 4 rfl) ?_
  refine pw_sld_e (e := 6 * j + 2) rfl (tk tkL_law26 5 rfl) (nI_add (6 * j) 2) (show 6 * j + 2 < L by omega) (by omega) ?_
  refine pw_i2l (tk tkL_law26 6 rfl) rfl ?_
  refine pw_ldc2 (tk tkL_law26 7 rfl) lkL_205 ?_
  refine pw_land (tk tkL_law26 8 rfl) ?_
  refine pw_lor (tk tkL_law26 9 rfl) ?_
  refine pw_aload_n (tk tkL_law26 10 rfl) rfl ?_
  refine pw_callSW (k := 3) (ct_L_appendText x hx _) rfl (List.cons_ne_nil _ _) cwL_appendText iiL ⟨by decide +kernel, by decide +kernel, by decide +kernel⟩ (by decide) (tk tkL_law26 11 rfl) mkL_207 stL_appendText rfl rfl (by decide) hn (Nat.le_of_ble_eq_true rfl) (fun r h2 q => ?_)
  obtain ⟨y, rfl, ym, yc, er, y0⟩ := q
  cases er
  refine pw_ist5 (tk tkL_law26 12 rfl) rfl (show 5 < 7 by decide) ?_
  refine pw_aload_n (tk tkL_law26 13 rfl) rfl ?_
  refine pw_aload_n (tk tkL_law26 14 rfl) rfl ?_
  refine pw_iload (tk tkL_law26 15 rfl) rfl ?_
  refine pw_iconst (v := 1) (tk tkL_law26 16 rfl) (by decide) ?_
  refine pw_iadd (tk tkL_law26 17 rfl) ?_
  refine pw_sld_e (e := 6 * j + 1) rfl (tk tkL_law26 18 rfl) (nI_add (6 * j) 1) (show 6 * j + 1 < L by omega) (by omega) ?_
  refine pw_i2l (tk tkL_law26 19 rfl) rfl ?_
  refine pw_bipush (v := 32) (tk tkL_law26 20 rfl) (by decide) ?_
  refine pw_lshl (tk tkL_law26 21 rfl) rfl ?_
  refine pw_aload_n (tk tkL_law26 22 rfl) rfl ?_
  refine pw_iload (tk tkL_law26 23 rfl) rfl ?_
  refine pw_iconst (v := 2) (tk tkL_law26 24 rfl) (by decide) ?_
  refine pw_iadd (tk tkL_law26 25 rfl) ?_
  refine pw_sld_e (e := 6 * j + 2) rfl (tk tkL_law26 26 rfl) (nI_add (6 * j) 2) (show 6 * j + 2 < L by omega) (by omega) ?_
  refine pw_i2l (tk tkL_law26 27 rfl) rfl ?_
  refine pw_ldc2 (tk tkL_law26 28 rfl) lkL_205 ?_
  refine pw_land (tk tkL_law26 29 rfl) ?_
  refine pw_lor (tk tkL_law26 30 rfl) ?_
  refine pw_callV (ctm_appendText hx ym _) okX8_appendText (tk tkL_law26 31 rfl) mkL_210 imX8_appendText seX8_appendText (hp_ot _ 11) rfl rfl rfl (by decide) (Nat.zero_le _) (Nat.le_of_ble_eq_true rfl) (fun r h2 q => ?_) (fun E h2 q => by obtain ⟨z, _, _, _, _, e, _⟩ := q; cases e)
  obtain ⟨z, rfl, z1, z2, z0, er, zv, ze⟩ := q
  cases er
  refine pw_ist6 (tk tkL_law26 32 rfl) rfl (show 6 < 7 by decide) ?_
  refine pw_aload_n (tk tkL_law26 33 rfl) rfl ?_
  refine pw_cV (ct_X8_thrown z) okX8_thrown (tk tkL_law26 34 rfl) mkL_115 imX8_thrown seX8_thrown (hp_ot _ 11) rfl rfl rfl (by decide) (Nat.zero_le _) (Nat.le_of_ble_eq_true rfl) ?_
  refine pw_iload (tk tkL_law26 35 rfl) rfl ?_
  refine pw_icmp_eq (tgt := 1821) (tk tkL_law26 36 rfl) (by decide) (fun c1816 => ?_) (fun c1816 => absurd z0 c1816)
  refine pw_iload (tk tkL_law26 39 rfl) rfl ?_
  refine pw_if_ne (tgt := 1838) (tk tkL_law27 0 rfl) (by decide) (fun c1823 => ?_) (fun c1823 => ?_)
  · refine pw_goto (tgt := 2093) (tk tkL_law27 10 rfl) (by decide) ?_
    exact ih _ _ _ (REL.step yc z1 zv ze (go_appendText hx.hg _))
  · refine pw_aload_n (tk tkL_law27 1 rfl) rfl ?_
    refine pw_iconst (v := 0) (tk tkL_law27 2 rfl) (by decide) ?_
    refine al_out_e (e := 0) (tk tkL_law27 3 rfl) rfl (by first | decide | omega) ?_
    refine pw_iload (tk tkL_law27 4 rfl) rfl ?_
    refine pw_i2l (tk tkL_law27 5 rfl) rfl ?_
    refine pw_lcmp (tk tkL_law27 6 rfl) ?_
    refine pw_if_eq (tgt := 1838) (tk tkL_law27 7 rfl) (by decide) (fun c1833 => ?_) (fun c1833 => absurd (lg_z (by rw [z2]; exact y0 c1823)) c1833)
    refine pw_goto (tgt := 2093) (tk tkL_law27 10 rfl) (by decide) ?_
    exact ih _ _ _ (REL.step yc z1 zv ze (go_appendText hx.hg _))
set_option maxRecDepth 100000 in
set_option maxHeartbeats 4000000 in
theorem law_28 {L : Nat} {xs : Nat → Int32} {nm : String} {hh : List (Nat × Nat × Nat × Nat)} (hL : L ≤ 3072) {n : Nat} (hn : 6 ≤ n) (j : Nat) (hj : 6 * j + 5 < L) (x : XW) (hx : REL x) (z5 z6 : Option Value) (ih : ∀ (x : XW) (z5 z6 : Option Value), REL x → PW (ML9 L xs nm hh) 32 (n - 6) 2093 [some (.ref 1020), some (.ref 160), some (.ref 171), some (.ref 178), some (.int (nI (6 * j))), z5, z6] [] (hp x) QL) : PW (ML9 L xs nm hh) 32 n 1841 [some (.ref 1020), some (.ref 160), some (.ref 171), some (.ref 178), some (.int (nI (6 * j))), z5, z6] [] (hp x) QL := by
  refine pw_aload_n (tk tkL_law27 11 rfl) rfl ?_
  refine pw_callV (ct_X7_clearText x _ hx.1 hx.hg.1) okX7_clearText (tk tkL_law27 12 rfl) mkL_211 imX7_clearText seX7_clearText (hp_ot _ 0) rfl rfl rfl (by decide) hn (Nat.le_of_ble_eq_true rfl) (fun r h2 q => ?_) (fun E h2 q => (cq_x q).elim)
  obtain ⟨y, rfl, hy, yc, e⟩ := q
  obtain ⟨e0, rfl⟩ := cq_l e
  have ym : y.2.1 = x.2.1 := congrArg Prod.fst hy
  refine pw_aload_n (tk tkL_law27 13 rfl) rfl ?_
  refine pw_callV (ctm_clearText hx ym) okX8_clearText (tk tkL_law27 14 rfl) mkL_214 imX8_clearText seX8_clearText (hp_ot _ 11) rfl rfl rfl (by decide) (Nat.zero_le _) (Nat.le_of_ble_eq_true rfl) (fun r h2 q => ?_) (fun E h2 q => by obtain ⟨z, _, _, _, _, e, _⟩ := q; cases e)
  obtain ⟨z, rfl, z1, z2, z0, er, zv, ze⟩ := q
  cases er
  refine pw_icmp_eq (tgt := 2093) (tk tkL_law27 15 rfl) (by decide) (fun c1849 => ?_) (fun c1849 => absurd rfl c1849)
  exact ih _ _ _ (REL.step yc z1 zv ze (go_clearText hx.hg))
set_option maxRecDepth 100000 in
set_option maxHeartbeats 4000000 in
theorem law_29 {L : Nat} {xs : Nat → Int32} {nm : String} {hh : List (Nat × Nat × Nat × Nat)} (hL : L ≤ 3072) {n : Nat} (hn : 6 ≤ n) (j : Nat) (hj : 6 * j + 5 < L) (x : XW) (hx : REL x) (z5 z6 : Option Value) (ih : ∀ (x : XW) (z5 z6 : Option Value), REL x → PW (ML9 L xs nm hh) 32 (n - 6) 2093 [some (.ref 1020), some (.ref 160), some (.ref 171), some (.ref 178), some (.int (nI (6 * j))), z5, z6] [] (hp x) QL) : PW (ML9 L xs nm hh) 32 n 1854 [some (.ref 1020), some (.ref 160), some (.ref 171), some (.ref 178), some (.int (nI (6 * j))), z5, z6] [] (hp x) QL := by
  refine pw_aload_n (tk tkL_law27 18 rfl) rfl ?_
  refine pw_callV (ct_X7_textLength x _ hx.1 hx.hg.1) okX7_textLength (tk tkL_law27 19 rfl) mkL_215 imX7_textLength seX7_textLength (hp_ot _ 0) rfl rfl rfl (by decide) hn (Nat.le_of_ble_eq_true rfl) (fun r h2 q => ?_) (fun E h2 q => (cq_x q).elim)
  obtain ⟨y, rfl, hy, yc, e⟩ := q
  obtain ⟨e0, rfl⟩ := cq_l e
  have ym : y.2.1 = x.2.1 := congrArg Prod.fst hy
  refine pw_aload_n (tk tkL_law27 20 rfl) rfl ?_
  refine pw_callV (ctm_textLength hx ym) okX8_textLength (tk tkL_law27 21 rfl) mkL_218 imX8_textLength seX8_textLength (hp_ot _ 11) rfl rfl rfl (by decide) (Nat.zero_le _) (Nat.le_of_ble_eq_true rfl) (fun r h2 q => ?_) (fun E h2 q => by obtain ⟨z, _, _, _, _, e, _⟩ := q; cases e)
  obtain ⟨z, rfl, z1, z2, z0, er, zv, ze⟩ := q
  cases er
  refine pw_icmp_eq (tgt := 2093) (tk tkL_law27 22 rfl) (by decide) (fun c1862 => ?_) (fun c1862 => absurd rfl c1862)
  exact ih _ _ _ (REL.step yc z1 zv ze (go_textLength hx.hg))
set_option maxRecDepth 100000 in
set_option maxHeartbeats 4000000 in
theorem law_30 {L : Nat} {xs : Nat → Int32} {nm : String} {hh : List (Nat × Nat × Nat × Nat)} (hL : L ≤ 3072) {n : Nat} (hn : 6 ≤ n) (j : Nat) (hj : 6 * j + 5 < L) (x : XW) (hx : REL x) (z5 z6 : Option Value) (ih : ∀ (x : XW) (z5 z6 : Option Value), REL x → PW (ML9 L xs nm hh) 32 (n - 6) 2093 [some (.ref 1020), some (.ref 160), some (.ref 171), some (.ref 178), some (.int (nI (6 * j))), z5, z6] [] (hp x) QL) : PW (ML9 L xs nm hh) 32 n 1867 [some (.ref 1020), some (.ref 160), some (.ref 171), some (.ref 178), some (.int (nI (6 * j))), z5, z6] [] (hp x) QL := by
  refine pw_aload_n (tk tkL_law27 25 rfl) rfl ?_
  refine pw_callV (ct_X7_textError x _ hx.1 hx.hg.1 hx.hg.2.2) okX7_textError (tk tkL_law27 26 rfl) mkL_219 imX7_textError seX7_textError (hp_ot _ 0) rfl rfl rfl (by decide) hn (Nat.le_of_ble_eq_true rfl) (fun r h2 q => ?_) (fun E h2 q => (cq_x q).elim)
  obtain ⟨y, rfl, hy, yc, e⟩ := q
  obtain ⟨e0, rfl⟩ := cq_l e
  have ym : y.2.1 = x.2.1 := congrArg Prod.fst hy
  refine pw_aload_n (tk tkL_law27 27 rfl) rfl ?_
  refine pw_callV (ctm_textError hx ym) okX8_textError (tk tkL_law27 28 rfl) mkL_222 imX8_textError seX8_textError (hp_ot _ 11) rfl rfl rfl (by decide) (Nat.zero_le _) (Nat.le_of_ble_eq_true rfl) (fun r h2 q => ?_) (fun E h2 q => by obtain ⟨z, _, _, _, _, e, _⟩ := q; cases e)
  obtain ⟨z, rfl, z1, z2, z0, er, zv, ze⟩ := q
  cases er
  refine pw_icmp_eq (tgt := 2093) (tk tkL_law27 29 rfl) (by decide) (fun c1875 => ?_) (fun c1875 => absurd rfl c1875)
  exact ih _ _ _ (REL.step yc z1 zv ze (go_textError hx.hg))
set_option maxRecDepth 100000 in
set_option maxHeartbeats 4000000 in
theorem law_31 {L : Nat} {xs : Nat → Int32} {nm : String} {hh : List (Nat × Nat × Nat × Nat)} (hL : L ≤ 3072) {n : Nat} (hn : 6 ≤ n) (j : Nat) (hj : 6 * j + 5 < L) (x : XW) (hx : REL x) (z5 z6 : Option Value) (ih : ∀ (x : XW) (z5 z6 : Option Value), REL x → PW (ML9 L xs nm hh) 32 (n - 6) 2093 [some (.ref 1020), some (.ref 160), some (.ref 171), some (.ref 178), some (.int (nI (6 * j))), z5, z6] [] (hp x) QL) : PW (ML9 L xs nm hh) 32 n 1880 [some (.ref 1020), some (.ref 160), some (.ref 171), some (.ref 178), some (.int (nI (6 * j))), z5, z6] [] (hp x) QL := by
  refine pw_aload_n (tk tkL_law27 32 rfl) rfl ?_
  refine pw_aload_n (tk tkL_law27 33 rfl) rfl ?_
  refine pw_callSW (k := 2) (ct_L_runText x hx) rfl (List.cons_ne_nil _ _) cwL_runText iiL ⟨by decide +kernel, by decide +kernel, by decide +kernel⟩ (by decide) (tk tkL_law27 34 rfl) mkL_223 stL_runText rfl rfl (by decide) hn (Nat.le_of_ble_eq_true rfl) (fun r h2 q => ?_)
  obtain ⟨y, rfl, ym, yc, er, y0⟩ := q
  cases er
  refine pw_ist5 (tk tkL_law27 35 rfl) rfl (show 5 < 7 by decide) ?_
  refine pw_aload_n (tk tkL_law27 36 rfl) rfl ?_
  refine pw_callV (ctm_runText hx ym) okX8_runText (tk tkL_law27 37 rfl) mkL_226 imX8_runText seX8_runText (hp_ot _ 11) rfl rfl rfl (by decide) (Nat.zero_le _) (Nat.le_of_ble_eq_true rfl) (fun r h2 q => ?_) (fun E h2 q => by obtain ⟨z, _, _, _, _, e, _⟩ := q; cases e)
  obtain ⟨z, rfl, z1, z2, z0, er, zv, ze⟩ := q
  cases er
  refine pw_ist6 (tk tkL_law27 38 rfl) rfl (show 6 < 7 by decide) ?_
  refine pw_aload_n (tk tkL_law27 39 rfl) rfl ?_
  refine pw_cV (ct_X8_thrown z) okX8_thrown (tk tkL_law28 0 rfl) mkL_115 imX8_thrown seX8_thrown (hp_ot _ 11) rfl rfl rfl (by decide) (Nat.zero_le _) (Nat.le_of_ble_eq_true rfl) ?_
  refine pw_iload (tk tkL_law28 1 rfl) rfl ?_
  refine pw_icmp_eq (tgt := 1904) (tk tkL_law28 2 rfl) (by decide) (fun c1899 => ?_) (fun c1899 => absurd z0 c1899)
  refine pw_iload (tk tkL_law28 5 rfl) rfl ?_
  refine pw_if_ne (tgt := 1921) (tk tkL_law28 6 rfl) (by decide) (fun c1906 => ?_) (fun c1906 => ?_)
  · refine pw_goto (tgt := 2093) (tk tkL_law28 16 rfl) (by decide) ?_
    exact ih _ _ _ (REL.step yc z1 zv ze (go_runText hx.hg))
  · refine pw_aload_n (tk tkL_law28 7 rfl) rfl ?_
    refine pw_iconst (v := 0) (tk tkL_law28 8 rfl) (by decide) ?_
    refine al_out_e (e := 0) (tk tkL_law28 9 rfl) rfl (by first | decide | omega) ?_
    refine pw_iload (tk tkL_law28 10 rfl) rfl ?_
    refine pw_i2l (tk tkL_law28 11 rfl) rfl ?_
    refine pw_lcmp (tk tkL_law28 12 rfl) ?_
    refine pw_if_eq (tgt := 1921) (tk tkL_law28 13 rfl) (by decide) (fun c1916 => ?_) (fun c1916 => absurd (lg_z (by rw [z2]; exact y0 c1906)) c1916)
    refine pw_goto (tgt := 2093) (tk tkL_law28 16 rfl) (by decide) ?_
    exact ih _ _ _ (REL.step yc z1 zv ze (go_runText hx.hg))
set_option maxRecDepth 100000 in
set_option maxHeartbeats 4000000 in
theorem law_32 {L : Nat} {xs : Nat → Int32} {nm : String} {hh : List (Nat × Nat × Nat × Nat)} (hL : L ≤ 3072) {n : Nat} (hn : 6 ≤ n) (j : Nat) (hj : 6 * j + 5 < L) (x : XW) (hx : REL x) (z5 z6 : Option Value) (ih : ∀ (x : XW) (z5 z6 : Option Value), REL x → PW (ML9 L xs nm hh) 32 (n - 6) 2093 [some (.ref 1020), some (.ref 160), some (.ref 171), some (.ref 178), some (.int (nI (6 * j))), z5, z6] [] (hp x) QL) : PW (ML9 L xs nm hh) 32 n 1924 [some (.ref 1020), some (.ref 160), some (.ref 171), some (.ref 178), some (.int (nI (6 * j))), z5, z6] [] (hp x) QL := by
  refine pw_aload_n (tk tkL_law28 17 rfl) rfl ?_
  refine pw_aload_n (tk tkL_law28 18 rfl) rfl ?_
  refine pw_callSW (k := 2) (ct_L_undo x hx) rfl (List.cons_ne_nil _ _) cwL_undo iiL ⟨by decide +kernel, by decide +kernel, by decide +kernel⟩ (by decide) (tk tkL_law28 19 rfl) mkL_227 stL_undo rfl rfl (by decide) hn (Nat.le_of_ble_eq_true rfl) (fun r h2 q => ?_)
  obtain ⟨y, rfl, ym, yc, er, y0⟩ := q
  cases er
  refine pw_ist5 (tk tkL_law28 20 rfl) rfl (show 5 < 7 by decide) ?_
  refine pw_aload_n (tk tkL_law28 21 rfl) rfl ?_
  refine pw_callV (ctm_undo hx ym) okX8_undo (tk tkL_law28 22 rfl) mkL_229 imX8_undo seX8_undo (hp_ot _ 11) rfl rfl rfl (by decide) (Nat.zero_le _) (Nat.le_of_ble_eq_true rfl) (fun r h2 q => ?_) (fun E h2 q => by obtain ⟨z, _, _, _, _, e, _⟩ := q; cases e)
  obtain ⟨z, rfl, z1, z2, z0, er, zv, ze⟩ := q
  cases er
  refine pw_ist6 (tk tkL_law28 23 rfl) rfl (show 6 < 7 by decide) ?_
  refine pw_aload_n (tk tkL_law28 24 rfl) rfl ?_
  refine pw_cV (ct_X8_thrown z) okX8_thrown (tk tkL_law28 25 rfl) mkL_115 imX8_thrown seX8_thrown (hp_ot _ 11) rfl rfl rfl (by decide) (Nat.zero_le _) (Nat.le_of_ble_eq_true rfl) ?_
  refine pw_iload (tk tkL_law28 26 rfl) rfl ?_
  refine pw_icmp_eq (tgt := 1948) (tk tkL_law28 27 rfl) (by decide) (fun c1943 => ?_) (fun c1943 => absurd z0 c1943)
  refine pw_iload (tk tkL_law28 30 rfl) rfl ?_
  refine pw_if_ne (tgt := 1965) (tk tkL_law28 31 rfl) (by decide) (fun c1950 => ?_) (fun c1950 => ?_)
  · refine pw_goto (tgt := 2093) (tk tkL_law29 1 rfl) (by decide) ?_
    exact ih _ _ _ (REL.step yc z1 zv ze (go_undo hx.hg))
  · refine pw_aload_n (tk tkL_law28 32 rfl) rfl ?_
    refine pw_iconst (v := 0) (tk tkL_law28 33 rfl) (by decide) ?_
    refine al_out_e (e := 0) (tk tkL_law28 34 rfl) rfl (by first | decide | omega) ?_
    refine pw_iload (tk tkL_law28 35 rfl) rfl ?_
    refine pw_i2l (tk tkL_law28 36 rfl) rfl ?_
    refine pw_lcmp (tk tkL_law28 37 rfl) ?_
    refine pw_if_eq (tgt := 1965) (tk tkL_law28 38 rfl) (by decide) (fun c1960 => ?_) (fun c1960 => absurd (lg_z (by rw [z2]; exact y0 c1950)) c1960)
    refine pw_goto (tgt := 2093) (tk tkL_law29 1 rfl) (by decide) ?_
    exact ih _ _ _ (REL.step yc z1 zv ze (go_undo hx.hg))
set_option maxRecDepth 100000 in
set_option maxHeartbeats 4000000 in
theorem law_33 {L : Nat} {xs : Nat → Int32} {nm : String} {hh : List (Nat × Nat × Nat × Nat)} (hL : L ≤ 3072) {n : Nat} (hn : 6 ≤ n) (j : Nat) (hj : 6 * j + 5 < L) (x : XW) (hx : REL x) (z5 z6 : Option Value) (ih : ∀ (x : XW) (z5 z6 : Option Value), REL x → PW (ML9 L xs nm hh) 32 (n - 6) 2093 [some (.ref 1020), some (.ref 160), some (.ref 171), some (.ref 178), some (.int (nI (6 * j))), z5, z6] [] (hp x) QL) : PW (ML9 L xs nm hh) 32 n 1968 [some (.ref 1020), some (.ref 160), some (.ref 171), some (.ref 178), some (.int (nI (6 * j))), z5, z6] [] (hp x) QL := by
  refine pw_aload_n (tk tkL_law29 2 rfl) rfl ?_
  refine pw_callV (ct_X7_undoCount x _ hx.1 hx.hg.1) okX7_undoCount (tk tkL_law29 3 rfl) mkL_230 imX7_undoCount seX7_undoCount (hp_ot _ 0) rfl rfl rfl (by decide) hn (Nat.le_of_ble_eq_true rfl) (fun r h2 q => ?_) (fun E h2 q => (cq_x q).elim)
  obtain ⟨y, rfl, hy, yc, e⟩ := q
  obtain ⟨e0, rfl⟩ := cq_l e
  have ym : y.2.1 = x.2.1 := congrArg Prod.fst hy
  refine pw_aload_n (tk tkL_law29 4 rfl) rfl ?_
  refine pw_callV (ctm_undoCount hx ym) okX8_undoCount (tk tkL_law29 5 rfl) mkL_233 imX8_undoCount seX8_undoCount (hp_ot _ 11) rfl rfl rfl (by decide) (Nat.zero_le _) (Nat.le_of_ble_eq_true rfl) (fun r h2 q => ?_) (fun E h2 q => by obtain ⟨z, _, _, _, _, e, _⟩ := q; cases e)
  obtain ⟨z, rfl, z1, z2, z0, er, zv, ze⟩ := q
  cases er
  refine pw_icmp_eq (tgt := 2093) (tk tkL_law29 6 rfl) (by decide) (fun c1976 => ?_) (fun c1976 => absurd rfl c1976)
  exact ih _ _ _ (REL.step yc z1 zv ze (go_undoCount hx.hg))
set_option maxRecDepth 100000 in
set_option maxHeartbeats 4000000 in
theorem law_34 {L : Nat} {xs : Nat → Int32} {nm : String} {hh : List (Nat × Nat × Nat × Nat)} (hL : L ≤ 3072) {n : Nat} (hn : 6 ≤ n) (j : Nat) (hj : 6 * j + 5 < L) (x : XW) (hx : REL x) (z5 z6 : Option Value) (ih : ∀ (x : XW) (z5 z6 : Option Value), REL x → PW (ML9 L xs nm hh) 32 (n - 6) 2093 [some (.ref 1020), some (.ref 160), some (.ref 171), some (.ref 178), some (.int (nI (6 * j))), z5, z6] [] (hp x) QL) : PW (ML9 L xs nm hh) 32 n 1981 [some (.ref 1020), some (.ref 160), some (.ref 171), some (.ref 178), some (.int (nI (6 * j))), z5, z6] [] (hp x) QL := by
  refine pw_aload_n (tk tkL_law29 9 rfl) rfl ?_
  refine pw_aload_n (tk tkL_law29 10 rfl) rfl ?_
  refine pw_iload (tk tkL_law29 11 rfl) rfl ?_
  refine pw_iconst (v := 1) (tk tkL_law29 12 rfl) (by decide) ?_
  refine pw_iadd (tk tkL_law29 13 rfl) ?_
  refine pw_sld_e (e := 6 * j + 1) rfl (tk tkL_law29 14 rfl) (nI_add (6 * j) 1) (show 6 * j + 1 < L by omega) (by omega) ?_
  refine pw_aload_n (tk tkL_law29 15 rfl) rfl ?_
  refine pw_callSW (k := 3) (ct_L_saveState x hx _) rfl (List.cons_ne_nil _ _) cwL_saveState iiL ⟨by decide +kernel, by decide +kernel, by decide +kernel⟩ (by decide) (tk tkL_law29 16 rfl) mkL_234 stL_saveState rfl rfl (by decide) hn (Nat.le_of_ble_eq_true rfl) (fun r h2 q => ?_)
  obtain ⟨y, rfl, ym, yc, er, y0⟩ := q
  cases er
  refine pw_ist5 (tk tkL_law29 17 rfl) rfl (show 5 < 7 by decide) ?_
  refine pw_aload_n (tk tkL_law29 18 rfl) rfl ?_
  refine pw_aload_n (tk tkL_law29 19 rfl) rfl ?_
  refine pw_iload (tk tkL_law29 20 rfl) rfl ?_
  refine pw_iconst (v := 1) (tk tkL_law29 21 rfl) (by decide) ?_
  refine pw_iadd (tk tkL_law29 22 rfl) ?_
  refine pw_sld_e (e := 6 * j + 1) rfl (tk tkL_law29 23 rfl) (nI_add (6 * j) 1) (show 6 * j + 1 < L by omega) (by omega) ?_
  refine pw_callV (ctm_saveState hx ym _) okX8_saveState (tk tkL_law29 24 rfl) mkL_236 imX8_saveState seX8_saveState (hp_ot _ 11) rfl rfl rfl (by decide) (Nat.zero_le _) (Nat.le_of_ble_eq_true rfl) (fun r h2 q => ?_) (fun E h2 q => by obtain ⟨z, _, _, _, _, e, _⟩ := q; cases e)
  obtain ⟨z, rfl, z1, z2, z0, er, zv, ze⟩ := q
  cases er
  refine pw_ist6 (tk tkL_law29 25 rfl) rfl (show 6 < 7 by decide) ?_
  refine pw_aload_n (tk tkL_law29 26 rfl) rfl ?_
  refine pw_cV (ct_X8_thrown z) okX8_thrown (tk tkL_law29 27 rfl) mkL_115 imX8_thrown seX8_thrown (hp_ot _ 11) rfl rfl rfl (by decide) (Nat.zero_le _) (Nat.le_of_ble_eq_true rfl) ?_
  refine pw_iload (tk tkL_law29 28 rfl) rfl ?_
  refine pw_icmp_eq (tgt := 2017) (tk tkL_law29 29 rfl) (by decide) (fun c2012 => ?_) (fun c2012 => absurd z0 c2012)
  refine pw_iload (tk tkL_law29 32 rfl) rfl ?_
  refine pw_if_ne (tgt := 2034) (tk tkL_law29 33 rfl) (by decide) (fun c2019 => ?_) (fun c2019 => ?_)
  · refine pw_goto (tgt := 2093) (tk tkL_law30 3 rfl) (by decide) ?_
    exact ih _ _ _ (REL.step yc z1 zv ze (go_saveState hx.hg _))
  · refine pw_aload_n (tk tkL_law29 34 rfl) rfl ?_
    refine pw_iconst (v := 0) (tk tkL_law29 35 rfl) (by decide) ?_
    refine al_out_e (e := 0) (tk tkL_law29 36 rfl) rfl (by first | decide | omega) ?_
    refine pw_iload (tk tkL_law29 37 rfl) rfl ?_
    refine pw_i2l (tk tkL_law29 38 rfl) rfl ?_
    refine pw_lcmp (tk tkL_law29 39 rfl) ?_
    refine pw_if_eq (tgt := 2034) (tk tkL_law30 0 rfl) (by decide) (fun c2029 => ?_) (fun c2029 => absurd (lg_z (by rw [z2]; exact y0 c2019)) c2029)
    refine pw_goto (tgt := 2093) (tk tkL_law30 3 rfl) (by decide) ?_
    exact ih _ _ _ (REL.step yc z1 zv ze (go_saveState hx.hg _))
set_option maxRecDepth 100000 in
set_option maxHeartbeats 4000000 in
theorem law_35 {L : Nat} {xs : Nat → Int32} {nm : String} {hh : List (Nat × Nat × Nat × Nat)} (hL : L ≤ 3072) {n : Nat} (hn : 6 ≤ n) (j : Nat) (hj : 6 * j + 5 < L) (x : XW) (hx : REL x) (z5 z6 : Option Value) (ih : ∀ (x : XW) (z5 z6 : Option Value), REL x → PW (ML9 L xs nm hh) 32 (n - 6) 2093 [some (.ref 1020), some (.ref 160), some (.ref 171), some (.ref 178), some (.int (nI (6 * j))), z5, z6] [] (hp x) QL) : PW (ML9 L xs nm hh) 32 n 2037 [some (.ref 1020), some (.ref 160), some (.ref 171), some (.ref 178), some (.int (nI (6 * j))), z5, z6] [] (hp x) QL := by
  refine pw_aload_n (tk tkL_law30 4 rfl) rfl ?_
  refine pw_aload_n (tk tkL_law30 5 rfl) rfl ?_
  refine pw_iload (tk tkL_law30 6 rfl) rfl ?_
  refine pw_iconst (v := 1) (tk tkL_law30 7 rfl) (by decide) ?_
  refine pw_iadd (tk tkL_law30 8 rfl) ?_
  refine pw_sld_e (e := 6 * j + 1) rfl (tk tkL_law30 9 rfl) (nI_add (6 * j) 1) (show 6 * j + 1 < L by omega) (by omega) ?_
  refine pw_aload_n (tk tkL_law30 10 rfl) rfl ?_
  refine pw_callSW (k := 3) (ct_L_loadState x hx _) rfl (List.cons_ne_nil _ _) cwL_loadState iiL ⟨by decide +kernel, by decide +kernel, by decide +kernel⟩ (by decide) (tk tkL_law30 11 rfl) mkL_237 stL_loadState rfl rfl (by decide) hn (Nat.le_of_ble_eq_true rfl) (fun r h2 q => ?_)
  obtain ⟨y, rfl, ym, yc, er, y0⟩ := q
  cases er
  refine pw_ist5 (tk tkL_law30 12 rfl) rfl (show 5 < 7 by decide) ?_
  refine pw_aload_n (tk tkL_law30 13 rfl) rfl ?_
  refine pw_aload_n (tk tkL_law30 14 rfl) rfl ?_
  refine pw_iload (tk tkL_law30 15 rfl) rfl ?_
  refine pw_iconst (v := 1) (tk tkL_law30 16 rfl) (by decide) ?_
  refine pw_iadd (tk tkL_law30 17 rfl) ?_
  refine pw_sld_e (e := 6 * j + 1) rfl (tk tkL_law30 18 rfl) (nI_add (6 * j) 1) (show 6 * j + 1 < L by omega) (by omega) ?_
  refine pw_callV (ctm_loadState hx ym _) okX8_loadState (tk tkL_law30 19 rfl) mkL_239 imX8_loadState seX8_loadState (hp_ot _ 11) rfl rfl rfl (by decide) (Nat.zero_le _) (Nat.le_of_ble_eq_true rfl) (fun r h2 q => ?_) (fun E h2 q => by obtain ⟨z, _, _, _, _, e, _⟩ := q; cases e)
  obtain ⟨z, rfl, z1, z2, z0, er, zv, ze⟩ := q
  cases er
  refine pw_ist6 (tk tkL_law30 20 rfl) rfl (show 6 < 7 by decide) ?_
  refine pw_aload_n (tk tkL_law30 21 rfl) rfl ?_
  refine pw_cV (ct_X8_thrown z) okX8_thrown (tk tkL_law30 22 rfl) mkL_115 imX8_thrown seX8_thrown (hp_ot _ 11) rfl rfl rfl (by decide) (Nat.zero_le _) (Nat.le_of_ble_eq_true rfl) ?_
  refine pw_iload (tk tkL_law30 23 rfl) rfl ?_
  refine pw_icmp_eq (tgt := 2073) (tk tkL_law30 24 rfl) (by decide) (fun c2068 => ?_) (fun c2068 => absurd z0 c2068)
  refine pw_iload (tk tkL_law30 27 rfl) rfl ?_
  refine pw_if_ne (tgt := 2090) (tk tkL_law30 28 rfl) (by decide) (fun c2075 => ?_) (fun c2075 => ?_)
  · refine pw_goto (tgt := 2093) (tk tkL_law30 38 rfl) (by decide) ?_
    exact ih _ _ _ (REL.step yc z1 zv ze (go_loadState hx.hg _))
  · refine pw_aload_n (tk tkL_law30 29 rfl) rfl ?_
    refine pw_iconst (v := 0) (tk tkL_law30 30 rfl) (by decide) ?_
    refine al_out_e (e := 0) (tk tkL_law30 31 rfl) rfl (by first | decide | omega) ?_
    refine pw_iload (tk tkL_law30 32 rfl) rfl ?_
    refine pw_i2l (tk tkL_law30 33 rfl) rfl ?_
    refine pw_lcmp (tk tkL_law30 34 rfl) ?_
    refine pw_if_eq (tgt := 2090) (tk tkL_law30 35 rfl) (by decide) (fun c2085 => ?_) (fun c2085 => absurd (lg_z (by rw [z2]; exact y0 c2075)) c2085)
    refine pw_goto (tgt := 2093) (tk tkL_law30 38 rfl) (by decide) ?_
    exact ih _ _ _ (REL.step yc z1 zv ze (go_loadState hx.hg _))
