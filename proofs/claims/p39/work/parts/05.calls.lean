theorem cats (G : PG) (st : List Value) : ((st.map (cv G)).map fun v => v.category).sum = (st.map fun v => v.category).sum := by rw [List.map_map]; exact congrArg List.sum (List.map_congr_left fun v _ => cv_cat G v)
/-- what a caller needs of a method's words: k: how many arguments its descriptor has -/
abbrev MOK (M : Mth) (k : Nat) : Prop := mH M = [] ∧ Cond.code (mY M) (mC M) (mL M) (mR M) ∈ UU ∧ Cond.initialized (mY M).cls ∈ UU ∧ ((mY M).cls ≠ "java/lang/invoke/MethodHandle" ∧ (mY M).cls ≠ "java/lang/invoke/VarHandle" ∧ (parseMethodDescriptor (mY M).desc).map (fun d => d.parameters.length) = some k) ∧ mL M ≤ 45
section PWC
variable {M : Mth} {d n pc : Nat} {ls : List (Option Value)} {st : List Value} {h : Hp} {Q : Out → Hp → Prop}
/-- E has been thrown at pc -/
def PT (M : Mth) (d n pc : Nat) (ls : List (Option Value)) (rest : List Value) (h : Hp) (Q : Out → Hp → Prop) (E : String) : Prop :=
  ∀ (p : Program) (l : Launch) (e : Env) (R : Room) (s : State) (m : MethodId) (args : Array Value) (below : List Frame) (meth : Method) (c : Code) (G : PG) (N : Nat) (H : Heap) (locs : List Loc) (cells slots : Nat) (lsA : Array Slot) (q : Addr) (ce : Cell),
    Cx M d N Q p l R s m args meth c G → cells + n ≤ N → slots + 1000 * n ≤ 1000 * N → Rp G h H → va_S (fr G) s.heap H locs → lvS G lsA (mL M) ls → H[q]? = some ce → ce.vm = .none → s.vm.findClass E = some ce.cls →
    vx_W p l e R s m args below meth c H locs cells slots (PZ M N Q below args s G) (F0 m pc lsA (rest.map (cv G))) q
theorem pt_out {rest : List Value} {E : String} (h1 : mK M = 1) (h2 : mH M = []) (hq : Q (.inr E) h) : PT M d n pc ls rest h Q E := by
  intro p l e R s m args below meth c G N H locs cells slots lsA q ce C9 hc hs hR hS hw hcell hv hcl
  obtain ⟨-, -, k3, k4, -⟩ := id C9
  rw [h2] at k4
  unfold PZ
  rw [if_neg (by omega), if_pos h1]
  exact vx_out (fun x hx => by rw [k4] at hx; cases hx) k3 hcell hv hcl (fun t ht ha => ⟨⟨h, hq, by rw [ht]; exact hR⟩, hS.F ht⟩) hS.2.2 (by omega) (by omega)
/-- caught by the row x of the table; the exception goes into the local j -/
theorem pt_catch {rest : List Value} {E : String} (hp : List (Nat × Nat × Nat × Nat)) (x : Nat × Nat × Nat × Nat) (hs0 : List (Nat × Nat × Nat × Nat)) {j w : Nat} {ls1 : List (Option Value)} (hsp : mH M = hp ++ x :: hs0) (hpass : ∀ z ∈ hp, z.2.2.2 ≠ 0 ∧ ∃ nm, Cond.classLink (mY M).cls z.2.2.2 nm ∈ UU ∧ (E, nm) ∈ ncs) (hcov : x.1 ≤ pc ∧ pc < x.2.1) (h0 : x.2.2.2 ≠ 0) (hlk : Cond.classLink (mY M).cls x.2.2.2 E ∈ UU) (hca : Cond.castable E E ∈ UN)
    (hd : (∃ k : Fin 4, (k : Nat) = j ∧ w = 1 ∧ decode (mC M) x.2.2.1 = .ok (.astore_n k, 1)) ∨ (w = 2 ∧ decode (mC M) x.2.2.1 = .ok (.astore j, 2))) (hj : j < mL M) (hnl : ∀ i, i + 1 = j → ∀ w, ls[i]? = some w → nlong w = true) (el : ls.set j none = ls1) (kk : PW M d n (x.2.2.1 + w) ls1 [] h Q) : PT M d n pc ls rest h Q E := by
  intro p l e R s m args below meth c G N H locs cells slots lsA q ce C9 hc hs hR hS hw hcell hv hcl
  obtain ⟨⟨k1, k2, k3, k4, k5, k6⟩, t1, t2, t3, t4, t5, -⟩ := id C9
  have hcast : (Cond.castable E E).before args s = true := va_Nw.use rfl (t5.2.2.1 _ hca)
  refine vx_catch k5 (tableOf hp) ⟨x.1, x.2.1, x.2.2.1, x.2.2.2⟩ (tableOf hs0) (by rw [t3, hsp]; simp [tableOf]) (fun z hz => Or.inr ?_) (by simp [covers, hcov.1, hcov.2]) h0 (t1 _ hlk) hcast hcell hv hcl ?_
  · obtain ⟨y, hy, rfl⟩ := List.mem_map.mp hz
    obtain ⟨b0, nm, b1, b2⟩ := hpass y hy
    exact ⟨b0, nm, t1 _ b1, t5.2.2.2.1 _ b2⟩
  · have key : ∀ lsB : Array Slot, lv_has lsB (mL M) ((j, Value.ref q) :: ((List.range ls.length).filterMap (fun j => (ls.getD j none).map (fun w => (j, cv G w)))).filter (fun q => !(q.1 == j) && !(q.1 + 1 == j && q.2.category == 2))) → W p l e R s m args below meth c H locs cells slots (PZ M N Q below args s G) (F0 m (x.2.2.1 + w) lsB []) := by
      intro lsB hB
      subst el
      refine kk p l e R s m args below meth c G N H locs cells slots lsB C9 hc hs hR hS ⟨hB.1, hB.2.1, fun i v hi => ?_⟩
      by_cases e1 : i = j
      · subst e1
        have hl : i < (ls.set i none).length := (List.getElem?_eq_some_iff.mp hi).1
        rw [List.length_set] at hl
        rw [List.getElem?_set_self hl] at hi
        cases hi
      · rw [List.getElem?_set_ne (Ne.symm e1)] at hi
        refine hB.2.2 (i, cv G v) (List.mem_cons_of_mem _ (List.mem_filter.mpr ⟨lvS.mem hi, ?_⟩))
        have e2 : (i == j) = false := beq_eq_false_iff_ne.mpr e1
        show (!(i == j) && !(i + 1 == j && (cv G v).category == 2)) = true
        rw [e2, cv_cat]
        by_cases e3 : i + 1 = j
        · have := nlong_cat (hnl i e3 _ hi)
          simp [this]
        · simp [e3]
    rcases hd with ⟨k, rfl, rfl, hd⟩ | ⟨rfl, hd⟩
    · exact lv_astore_n k1 k2 hd rfl hw.has hj rfl key
    · exact lv_astore k1 k2 hd hw.has hj rfl key
/-- behind a call -/
theorem pw_after {n' : Nat} {rest : List Value} {Q' : Out → Hp → Prop} {a : Array Value} {p : Program} {l : Launch} {e : Env} {R : Room} {s : State} {m : MethodId} {args : Array Value} {below : List Frame} {meth : Method} {c : Code} {G : PG} {N : Nat} {H : Heap} {locs : List Loc} {cells slots : Nat} {lsA : Array Slot} {stA : List Value}
    (C9 : Cx M d N Q p l R s m args meth c G) (hc : cells + n ≤ N) (hs : slots + 1000 * n ≤ 1000 * N) (hS : va_S (fr G) s.heap H locs) (hw : lvS G lsA (mL M) ls) (hn : n' ≤ n)
    (hr : vx_Run p l e R s m args below meth c H locs cells slots n' (1000 * n') (F0 m pc lsA stA) (rest.map (cv G)) (PQ G Q' a) (PX G Q') (fr G))
    (kr : ∀ r h', Q' (.inl r) h' → PW M d (n - n') (pc + 3) ls (r.toList ++ rest) h' Q) (kx : ∀ E h', Q' (.inr E) h' → PT M d (n - n') pc ls rest h' Q E) : W p l e R s m args below meth c H locs cells slots (PZ M N Q below args s G) (F0 m pc lsA stA) := by
  intro T hT X
  rcases hr T hT X with ⟨v, st₀, t, T', L, h0, X', hL, e1, e2, ⟨⟨r, h', hv, hq, hR'⟩, hF⟩, st⟩ | ⟨q, st₀, t, T', L, E, ce, h0, X', hL, e1, e2, ⟨⟨h', hq, hR'⟩, hF⟩, hce, hcv, hcl, st⟩
  · cases hv
    obtain ⟨k1, k2, k3⟩ := vx_keep h0 e1 hS (fun q _ h => h) (fun q h => h) hL hF
    have w := kr r h' hq p l e R s m args below meth c G N T'.heap (locs ++ L) (cells + n') (slots + 1000 * n') lsA C9 (by omega) (by omega) (by rw [e1]; exact hR') k3 hw
    rw [show (r.toList ++ rest).map (cv G) = (r.map (cv G)).toList ++ rest.map (cv G) by cases r <;> simp] at w
    obtain ⟨t2, a1, b1⟩ := w T' rfl X'
    exact ⟨t2, st t2 a1, b1⟩
  · obtain ⟨k1, k2, k3⟩ := vx_keep h0 e1 hS (fun q _ h => h) (fun q h => h) hL hF
    obtain ⟨t2, a1, b1⟩ := kx E h' hq p l e R s m args below meth c G N T'.heap (locs ++ L) (cells + n') (slots + 1000 * n') lsA q ce C9 (by omega) (by omega) (by rw [e1]; exact hR') k3 hw (by rw [e1]; exact hce) hcv hcl T' rfl X'
    exact ⟨t2, st.trans a1, b1⟩
theorem run_x {p : Program} {l : Launch} {e : Env} {R : Room} {s : State} {m : MethodId} {args : Array Value} {below : List Frame} {meth : Method} {c : Code} {H : Heap} {locs : List Loc} {cells slots mc ms : Nat} {g : JFrame} {rest : List Value} {Qa : State → Outcome → State → Prop} {XC : String → State → State → Prop} {free : Addr → Prop} (h : va_Run p l e R s m args below meth c H locs cells slots mc ms g rest Qa free) : vx_Run p l e R s m args below meth c H locs cells slots mc ms g rest Qa XC free :=
  fun T hT X => Or.inl (h T hT X)
theorem run_0 {G : PG} {Q' : Out → Hp → Prop} {a : Array Value} {p : Program} {l : Launch} {e : Env} {R : Room} {s : State} {m : MethodId} {args : Array Value} {below : List Frame} {meth : Method} {c : Code} {H : Heap} {locs : List Loc} {cells slots mc ms : Nat} {g : JFrame} {rest : List Value} {free : Addr → Prop} (h : va_Run p l e R s m args below meth c H locs cells slots mc ms g rest (PQ G Q' a) free) : vx_Run p l e R s m args below meth c H locs cells slots mc ms g rest (PQ G (fun o h' => ∃ r, o = .inl r ∧ Q' (.inl r) h') a) (PX G (fun o h' => ∃ r, o = .inl r ∧ Q' (.inl r) h')) free := by
  intro T hT X
  obtain ⟨v, st₀, t, T', L, h0, X', hL, e1, e2, ⟨⟨r, h', a1, a2, a3⟩, a4⟩, st⟩ := h T hT X
  exact Or.inl ⟨v, st₀, t, T', L, h0, X', hL, e1, e2, ⟨⟨r, h', a1, ⟨r, rfl, a2⟩, a3⟩, a4⟩, st⟩
theorem wsM_eq {M' : Mth} (h : mH M' = []) : wsM M' = .code (mY M') (mC M') (mL M') (mR M') :: UU := if_pos h
theorem good_ws {M' : Mth} {k : Nat} (ok : MOK M' k) : GoodIn UU (wsM M') := by
  rw [wsM_eq ok.1]
  intro w hw
  rcases List.mem_cons.mp hw with e | hw
  · rw [e]; exact UU_good _ ok.2.1
  · exact UU_good _ hw
theorem call_B {M' : Mth} {k d' n' idx N : Nat} {p : Program} {l : Launch} {R : Room} {s : State} {m : MethodId} {args : Array Value} {meth : Method} {c : Code} {G : PG} (C9 : Cx M d N Q p l R s m args meth c G) (ok : MOK M' k) (hlk : Cond.methodLink (mY M).cls idx (mY M') ∈ UU) (hd : d' + 1 ≤ d) : CallB R s args (mY M).cls idx (mY M') (mC M') (mL M') (mR M') (wsM M') (rmd d' n') n' (1000 * n') k := by
  obtain ⟨-, t1, -, -, -, -, -, ⟨r1, r2, r3, r4⟩, -⟩ := C9
  obtain ⟨o1, o2, o3, o4, o5⟩ := id ok
  exact callB_of k t1 (good_ws ok) (wsM_eq o1) rfl rfl (t1 _ o3) (t1 _ hlk) o4 ⟨by show d' + 1 ≤ _; omega, by show 8 + (mL M' + 11) + 64 * d' ≤ _; omega⟩
theorem pre_S {As : List Value} {G : PG} {s : State} {H : Heap} {locs : List Loc} (hR : Rp G h H) (hK : va_K G.1 vwCl (tys G) s) (hO : OW G s) (hS : va_S (fr G) s.heap H locs) : PreS s H (PP G As h) (As.map (cv G)) :=
  ⟨PP.blind, fun U hU hW => ⟨rfl, by rw [hU]; exact hR, va_K.moved hW.alike hK, hO.go hS hU hW, by rw [hU]; exact hR.2.1⟩⟩
theorem pw_callS {M' : Mth} {idx d' n' k : Nat} {As rest : List Value} {Q' : Out → Hp → Prop} (ct : CT M' d' n' As h Q') (ok : MOK M' k) (hd : decode (mC M) pc = .ok (.invokestatic idx, 3)) (hlk : Cond.methodLink (mY M).cls idx (mY M') ∈ UU) (hst : Cond.static (mY M') ∈ UU) (hk : As.length = k) (e : st = As.reverse ++ rest) (hd' : d' + 1 ≤ d) (hn : n' ≤ n) (hr : (rest.map fun v => v.category).sum ≤ 8)
    (kr : ∀ r h', Q' (.inl r) h' → PW M d (n - n') (pc + 3) ls (r.toList ++ rest) h' Q) (kx : ∀ E h', Q' (.inr E) h' → PT M d (n - n') pc ls rest h' Q E) : PW M d n pc ls st h Q := by
  subst e
  intro p l e_ R s m args below meth c G N H locs cells slots lsA C9 hc hs hR hS hw
  obtain ⟨⟨k1, k2, k3, k4, k5, k6⟩, t1, t2, t3, t4, t5, t6, ⟨r1, r2, r3, r4⟩, t8, t9⟩ := id C9
  have S : CallFix p m c (mC M) (mL M) s args UU (mY M).cls := ⟨k1, k2, k3, k5, t1⟩
  have cb : CallB R s args (mY M).cls idx (mY M') (mC M') (mL M') (mR M') (wsM M') (rmd d' n') n' (1000 * n') k ∧ (Cond.static (mY M')).before args s = true := ⟨call_B C9 ok hlk hd', t1 _ hst⟩
  have hroom : cells + n' ≤ R.cells ∧ slots + 1000 * n' ≤ R.slots := ⟨by omega, by omega⟩
  have hstk : (As.reverse ++ rest).map (cv G) = (As.map (cv G)).reverse ++ rest.map (cv G) := by rw [List.map_append, List.map_reverse]
  have hsum : 2 * (F0 m pc lsA ((As.reverse ++ rest).map (cv G))).monitorRoom + ((rest.map (cv G)).map fun v => v.category).sum ≤ 8 := by
    rw [cats]
    show 2 * 0 + _ ≤ 8
    omega
  have h9 := ct l t8 G
  by_cases m0 : mK M' = 0
  · rw [if_pos m0] at h9
    exact pw_after C9 hc hs hS hw hn (run_x (va_runS S h9 cb (pre_S hR t4 t5 hS) rfl (by rw [List.length_map]; exact hk) hw.1 hstk hsum hd hroom)) kr kx
  · rw [if_neg m0] at h9
    exact pw_after C9 hc hs hS hw hn (vx_runS S h9 cb (pre_S hR t4 t5 hS) rfl (by rw [List.length_map]; exact hk) hw.1 hstk hsum hd hroom) kr kx
/-- a static call of a method with handlers (it returns) -/
theorem pw_callSW {M' : Mth} {idx d' n' k : Nat} {As rest : List Value} {Q' : Out → Hp → Prop} (ct : CT M' d' n' As h Q') (m0 : mK M' = 0) (hne : mH M' ≠ []) (hcode : Cond.codeWith (mY M') (mC M') (mL M') (mR M') (mH M') ∈ UU) (hini : Cond.initialized (mY M').cls ∈ UU) (hcl : (mY M').cls ≠ "java/lang/invoke/MethodHandle" ∧ (mY M').cls ≠ "java/lang/invoke/VarHandle" ∧ (parseMethodDescriptor (mY M').desc).map (fun d => d.parameters.length) = some k) (hL : mL M' ≤ 45) (hd : decode (mC M) pc = .ok (.invokestatic idx, 3)) (hlk : Cond.methodLink (mY M).cls idx (mY M') ∈ UU) (hst : Cond.static (mY M') ∈ UU) (hk : As.length = k) (e : st = As.reverse ++ rest) (hd' : d' + 1 ≤ d) (hn : n' ≤ n) (hr : (rest.map fun v => v.category).sum ≤ 8)
    (kr : ∀ r h', Q' (.inl r) h' → PW M d (n - n') (pc + 3) ls (r.toList ++ rest) h' Q) : PW M d n pc ls st h Q := by
  subst e
  intro p l e_ R s m args below meth c G N H locs cells slots lsA C9 hc hs hR hS hw
  obtain ⟨⟨k1, k2, k3, k4, k5, k6⟩, t1, t2, t3, t4, t5, t6, ⟨r1, r2, r3, r4⟩, t8, t9⟩ := id C9
  have S : CallFix p m c (mC M) (mL M) s args UU (mY M).cls := ⟨k1, k2, k3, k5, t1⟩
  have ew : wsM M' = .codeWith (mY M') (mC M') (mL M') (mR M') (mH M') :: UU := if_neg hne
  have hG : GoodIn UU (va_wsS (mY M).cls idx (mY M') (wsM M')) := by
    intro w hw
    rw [ew] at hw
    unfold va_wsS at hw
    rcases List.mem_append.mp hw with hw | hw
    · rcases List.mem_cons.mp hw with e | hw
      · rw [e]; exact UU_good _ hlk
      · rcases List.mem_cons.mp hw with e | hw
        · rw [e]; exact UU_good _ hst
        · rcases List.mem_cons.mp hw with e | hw
          · rw [e]; exact UU_good _ hini
          · cases hw
    · rcases List.mem_cons.mp hw with e | hw
      · rw [e]; exact UU_good _ hcode
      · exact UU_good _ hw
  have cw := vx_cwSW (R := R) (own := (mY M).cls) (index := idx) (maxL := mL M') (mc := n') (ms := 1000 * n') (y := mY M') (bytes := mC M') (ret := mR M') (hh := mH M') (rm := rmd d' n') (args := args) (s := s) k t1 hG ew rfl rfl hcl ⟨by show d' + 1 ≤ _; omega, by show 8 + (mL M' + 11) + 64 * d' ≤ _; omega⟩
  have h9 := ct l t8 G
  rw [if_pos m0] at h9
  have hstk : (As.reverse ++ rest).map (cv G) = (As.map (cv G)).reverse ++ rest.map (cv G) := by rw [List.map_append, List.map_reverse]
  have hsum : 2 * (F0 m pc lsA ((As.reverse ++ rest).map (cv G))).monitorRoom + ((rest.map (cv G)).map fun v => v.category).sum ≤ 8 := by
    rw [cats]
    show 2 * 0 + _ ≤ 8
    omega
  exact pw_after C9 hc hs hS hw hn (run_0 (vx_runSW S h9 cw (pre_S hR t4 t5 hS) rfl (by rw [List.length_map]; exact hk) hw.1 hstk hsum hd ⟨by omega, by omega⟩)) (fun r h' ⟨r2, e2, q⟩ => by cases e2; exact kr r h' q) (fun E h' ⟨r2, e2, q⟩ => by cases e2)
/-- a static call of a nest mate's private method -/
theorem pw_callSN {M' : Mth} {idx d' n' k : Nat} {host : String} {As rest : List Value} {Q' : Out → Hp → Prop} (ct : CT M' d' n' As h Q') (m0 : mK M' = 0) (ok : MOK M' k) (hd : decode (mC M) pc = .ok (.invokestatic idx, 3)) (hlk : Cond.methodLinkNest (mY M).cls idx (mY M') host ∈ UN) (hst : Cond.static (mY M') ∈ UU) (hk : As.length = k) (e : st = As.reverse ++ rest) (hd' : d' + 1 ≤ d) (hn : n' ≤ n) (hr : (rest.map fun v => v.category).sum ≤ 8)
    (kr : ∀ r h', Q' (.inl r) h' → PW M d (n - n') (pc + 3) ls (r.toList ++ rest) h' Q) : PW M d n pc ls st h Q := by
  subst e
  intro p l e_ R s m args below meth c G N H locs cells slots lsA C9 hc hs hR hS hw
  obtain ⟨⟨k1, k2, k3, k4, k5, k6⟩, t1, t2, t3, t4, t5, t6, ⟨r1, r2, r3, r4⟩, t8, t9⟩ := id C9
  obtain ⟨o1, o2, o3, o4, o5⟩ := id ok
  have S : CallFix p m c (mC M) (mL M) s args UU (mY M).cls := ⟨k1, k2, k3, k5, t1⟩
  have cw := va_cnB (R := R) (own := (mY M).cls) (index := idx) (host := host) (mc := n') (ms := 1000 * n') (rm := rmd d' n') k t1 (good_ws ok) (wsM_eq o1) rfl rfl (t5.2.2.1 _ hlk) (t1 _ o3) o4 ⟨by show d' + 1 ≤ _; omega, by show 8 + (mL M' + 11) + 64 * d' ≤ _; omega⟩
  have h9 := ct l t8 G
  rw [if_pos m0] at h9
  have hstk : (As.reverse ++ rest).map (cv G) = (As.map (cv G)).reverse ++ rest.map (cv G) := by rw [List.map_append, List.map_reverse]
  have hsum : 2 * (F0 m pc lsA ((As.reverse ++ rest).map (cv G))).monitorRoom + ((rest.map (cv G)).map fun v => v.category).sum ≤ 8 := by
    rw [cats]
    show 2 * 0 + _ ≤ 8
    omega
  exact pw_after C9 hc hs hS hw hn (run_0 (va_runSN S h9 ⟨cw, t1 _ hst, trivial⟩ (pre_S hR t4 t5 hS) rfl (by rw [List.length_map]; exact hk) hw.1 hstk hsum hd ⟨by omega, by omega⟩)) (fun r h' ⟨r2, e2, q⟩ => by cases e2; exact kr r h' q) (fun E h' ⟨r2, e2, q⟩ => by cases e2)
/-- a virtual call; the receiver is a cell b of class ci -/
theorem pw_callV {M' : Mth} {idx d' n' k b ci N1 : Nat} {T : u_T} {fs : Nat → Value} {As rest : List Value} {Q' : Out → Hp → Prop} (ct : CT M' d' n' (.ref b :: As) h Q') (ok : MOK M' k) (hd : decode (mC M) pc = .ok (.invokevirtual idx, 3)) (hlk : Cond.methodLink (mY M).cls idx (mY M') ∈ UU) (hin : Cond.instanceMethod (mY M') ∈ UU) (hse : Cond.selects (mY M').cls (mY M') (mY M') ∈ UU) (hb : h.2 b = some (.inr (ci, fs))) (hcl : vwCl[ci]? = some ((mY M').cls, T, N1)) (hk : As.length = k) (e : st = As.reverse ++ .ref b :: rest) (hd' : d' + 1 ≤ d) (hn : n' ≤ n) (hr : (rest.map fun v => v.category).sum ≤ 8)
    (kr : ∀ r h', Q' (.inl r) h' → PW M d (n - n') (pc + 3) ls (r.toList ++ rest) h' Q) (kx : ∀ E h', Q' (.inr E) h' → PT M d (n - n') pc ls rest h' Q E) : PW M d n pc ls st h Q := by
  subst e
  intro p l e_ R s m args below meth c G N H locs cells slots lsA C9 hc hs hR hS hw
  obtain ⟨⟨k1, k2, k3, k4, k5, k6⟩, t1, t2, t3, t4, t5, t6, ⟨r1, r2, r3, r4⟩, t8, t9⟩ := id C9
  have S : CallFix p m c (mC M) (mL M) s args UU (mY M).cls := ⟨k1, k2, k3, k5, t1⟩
  have cb : CallW R s args (mY M).cls (mY M').cls idx (mY M') (mC M') (mL M') (mR M') (wsM M') (rmd d' n') n' (1000 * n') k := ⟨call_B C9 ok hlk hd', t1 _ hin, t1 _ hse⟩
  obtain ⟨r', hr', cell, g1, g2, g3, -⟩ := hR.at hb
  have hrecv : ∃ cellB : Cell, H[ad G b]? = some cellB ∧ cellB.vm.isStatics = false ∧ s.vm.findClass (mY M').cls = some cellB.cls := ⟨cell, g1, by rw [g3]; rfl, by rw [g2]; exact (t4.1 ci _ hcl).2.1⟩
  have pS := pre_S (As := .ref b :: As) hR t4 t5 hS
  have hroom : cells + n' ≤ R.cells ∧ slots + 1000 * n' ≤ R.slots := ⟨by omega, by omega⟩
  have hstk : (As.reverse ++ .ref b :: rest).map (cv G) = (As.map (cv G)).reverse ++ .ref (ad G b) :: rest.map (cv G) := by rw [List.map_append, List.map_reverse]; rfl
  have hsum : 2 * (F0 m pc lsA ((As.reverse ++ .ref b :: rest).map (cv G))).monitorRoom + ((rest.map (cv G)).map fun v => v.category).sum ≤ 8 := by
    rw [cats]
    show 2 * 0 + _ ≤ 8
    omega
  have h9 := ct l t8 G
  by_cases m0 : mK M' = 0
  · rw [if_pos m0] at h9
    exact pw_after C9 hc hs hS hw hn (run_x (va_runV S h9 cb ⟨pS.1, hrecv, pS.2⟩ rfl (by rw [List.length_map]; exact hk) hw.1 hstk hsum hd hroom)) kr kx
  · rw [if_neg m0] at h9
    exact pw_after C9 hc hs hS hw hn (vx_runV S h9 cb ⟨pS.1, hrecv, pS.2⟩ rfl (by rw [List.length_map]; exact hk) hw.1 hstk hsum hd hroom) kr kx
/-- a constructor -/
theorem pw_callI {M' : Mth} {idx d' n' k b : Nat} {As rest : List Value} {Q' : Out → Hp → Prop} (ct : CT M' d' n' (.ref b :: As) h Q') (m0 : mK M' = 0) (ok : MOK M' k) (hm : (mY M').name = "<init>") (hret : mR M' = none) (hd : decode (mC M) pc = .ok (.invokespecial idx, 3)) (hlk : Cond.methodLink (mY M).cls idx (mY M') ∈ UU) (hin : Cond.instanceMethod (mY M') ∈ UU) (hk : As.length = k) (e : st = As.reverse ++ .ref b :: rest) (hd' : d' + 1 ≤ d) (hn : n' ≤ n) (hr : (rest.map fun v => v.category).sum ≤ 8)
    (kr : ∀ r h', Q' (.inl r) h' → PW M d (n - n') (pc + 3) ls (r.toList ++ rest) h' Q) : PW M d n pc ls st h Q := by
  subst e
  intro p l e_ R s m args below meth c G N H locs cells slots lsA C9 hc hs hR hS hw
  obtain ⟨⟨k1, k2, k3, k4, k5, k6⟩, t1, t2, t3, t4, t5, t6, ⟨r1, r2, r3, r4⟩, t8, t9⟩ := id C9
  have S : CallFix p m c (mC M) (mL M) s args UU (mY M).cls := ⟨k1, k2, k3, k5, t1⟩
  have cb := call_B (n' := n') C9 ok hlk hd'
  rw [hret] at cb
  have h9 := ct l t8 G
  rw [if_pos m0] at h9
  have hstk : (As.reverse ++ .ref b :: rest).map (cv G) = (As.map (cv G)).reverse ++ .ref (ad G b) :: rest.map (cv G) := by rw [List.map_append, List.map_reverse]; rfl
  have hsum : 2 * (F0 m pc lsA ((As.reverse ++ .ref b :: rest).map (cv G))).monitorRoom + ((rest.map (cv G)).map fun v => v.category).sum ≤ 8 := by
    rw [cats]
    show 2 * 0 + _ ≤ 8
    omega
  exact pw_after C9 hc hs hS hw hn (run_0 (va_runI S h9 ⟨cb, hm, t1 _ hin⟩ (pre_S (As := .ref b :: As) hR t4 t5 hS) rfl (by rw [List.length_map]; exact hk) hw.1 hstk hsum hd ⟨by omega, by omega⟩)) (fun r h' ⟨r2, e2, q⟩ => by cases e2; exact kr r h' q) (fun E h' ⟨r2, e2, q⟩ => by cases e2)
theorem pw_callIN {M' : Mth} {idx d' n' k b : Nat} {host : String} {As rest : List Value} {Q' : Out → Hp → Prop} (ct : CT M' d' n' (.ref b :: As) h Q') (m0 : mK M' = 0) (ok : MOK M' k) (hm : (mY M').name = "<init>") (hret : mR M' = none) (hd : decode (mC M) pc = .ok (.invokespecial idx, 3)) (hlk : Cond.methodLinkNest (mY M).cls idx (mY M') host ∈ UN) (hin : Cond.instanceMethod (mY M') ∈ UU) (hk : As.length = k) (e : st = As.reverse ++ .ref b :: rest) (hd' : d' + 1 ≤ d) (hn : n' ≤ n) (hr : (rest.map fun v => v.category).sum ≤ 8)
    (kr : ∀ r h', Q' (.inl r) h' → PW M d (n - n') (pc + 3) ls (r.toList ++ rest) h' Q) : PW M d n pc ls st h Q := by
  subst e
  intro p l e_ R s m args below meth c G N H locs cells slots lsA C9 hc hs hR hS hw
  obtain ⟨⟨k1, k2, k3, k4, k5, k6⟩, t1, t2, t3, t4, t5, t6, ⟨r1, r2, r3, r4⟩, t8, t9⟩ := id C9
  obtain ⟨o1, o2, o3, o4, o5⟩ := id ok
  have S : CallFix p m c (mC M) (mL M) s args UU (mY M).cls := ⟨k1, k2, k3, k5, t1⟩
  have cw := va_cnB (R := R) (own := (mY M).cls) (index := idx) (host := host) (mc := n') (ms := 1000 * n') (rm := rmd d' n') k t1 (good_ws ok) (wsM_eq o1) rfl rfl (t5.2.2.1 _ hlk) (t1 _ o3) o4 ⟨by show d' + 1 ≤ _; omega, by show 8 + (mL M' + 11) + 64 * d' ≤ _; omega⟩
  rw [hret] at cw
  have h9 := ct l t8 G
  rw [if_pos m0] at h9
  have hstk : (As.reverse ++ .ref b :: rest).map (cv G) = (As.map (cv G)).reverse ++ .ref (ad G b) :: rest.map (cv G) := by rw [List.map_append, List.map_reverse]; rfl
  have hsum : 2 * (F0 m pc lsA ((As.reverse ++ .ref b :: rest).map (cv G))).monitorRoom + ((rest.map (cv G)).map fun v => v.category).sum ≤ 8 := by
    rw [cats]
    show 2 * 0 + _ ≤ 8
    omega
  exact pw_after C9 hc hs hS hw hn (run_0 (va_runIN S h9 ⟨cw, hm, t1 _ hin⟩ (pre_S (As := .ref b :: As) hR t4 t5 hS) rfl (by rw [List.length_map]; exact hk) hw.1 hstk hsum hd ⟨by omega, by omega⟩)) (fun r h' ⟨r2, e2, q⟩ => by cases e2; exact kr r h' q) (fun E h' ⟨r2, e2, q⟩ => by cases e2)
theorem pw_max {idx : Nat} {x y : Int32} (hd : decode (mC M) pc = .ok (.invokestatic idx, 3)) (hlk : Cond.methodLink (mY M).cls idx Lib.Math.max.name ∈ UU) (hst : Cond.static Lib.Math.max.name ∈ UU) (hini : Cond.initialized "java/lang/Math" ∈ UU) (hcode : Cond.code Lib.Math.max.name Lib.Math.max.code 2 (some .int) ∈ UU) (hd1 : 1 ≤ d) (hr : (st.map fun v => v.category).sum ≤ 8) (kk : PW M d n (pc + 3) ls (.int (if x < y then y else x) :: st) h Q) : PW M d n pc ls (.int y :: .int x :: st) h Q := by
  intro p l e_ R s m args below meth c G N H locs cells slots lsA C9 hc hs hR hS hw
  obtain ⟨⟨k1, k2, k3, k4, k5, k6⟩, t1, t2, t3, t4, t5, t6, ⟨r1, r2, r3, r4⟩, t8, t9⟩ := id C9
  exact va_mmax k1 k2 (k3.trans hw.1.symm) k5 (t1 _ hlk) (t1 _ hst) (t1 _ hini) (t1 _ hcode) (by omega) (by rw [cats]; omega) (by omega) (by omega) hd (kk p l e_ R s m args below meth c G N H locs cells slots lsA C9 hc hs hR hS hw)
theorem pw_min {idx : Nat} {x y : Int32} (hd : decode (mC M) pc = .ok (.invokestatic idx, 3)) (hlk : Cond.methodLink (mY M).cls idx Lib.Math.min.name ∈ UU) (hst : Cond.static Lib.Math.min.name ∈ UU) (hini : Cond.initialized "java/lang/Math" ∈ UU) (hcode : Cond.code Lib.Math.min.name Lib.Math.min.code 2 (some .int) ∈ UU) (hd1 : 1 ≤ d) (hr : (st.map fun v => v.category).sum ≤ 8) (kk : PW M d n (pc + 3) ls (.int (if y < x then y else x) :: st) h Q) : PW M d n pc ls (.int y :: .int x :: st) h Q := by
  intro p l e_ R s m args below meth c G N H locs cells slots lsA C9 hc hs hR hS hw
  obtain ⟨⟨k1, k2, k3, k4, k5, k6⟩, t1, t2, t3, t4, t5, t6, ⟨r1, r2, r3, r4⟩, t8, t9⟩ := id C9
  exact va_mmin k1 k2 (k3.trans hw.1.symm) k5 (t1 _ hlk) (t1 _ hst) (t1 _ hini) (t1 _ hcode) (by omega) (by rw [cats]; omega) (by omega) (by omega) hd (kk p l e_ R s m args below meth c G N H locs cells slots lsA C9 hc hs hR hS hw)
theorem pw_ireturn {ty : FieldType} {v : Int32} (hd : decode (mC M) pc = .ok (.ireturn, 1)) (hret : mR M = some ty) (hk : mK M ≤ 1) (hn : narrow ty (.int v) = .int v) (hq : Q (.inl (some (.int v))) h) : PW M d n pc ls [.int v] h Q := by
  intro p l e_ R s m args below meth c G N H locs cells slots lsA C9 hc hs hR hS hw
  obtain ⟨⟨k1, k2, k3, k4, k5, k6⟩, t1, t2, t3, t4, t5, t6, ⟨r1, r2, r3, r4⟩, t8, t9⟩ := id C9
  have hq' : ∀ t : State, t.heap = H → s.WarmedH t.vm → PQ G Q args s (.returned (some (.int v))) t := fun t ht hW => ⟨⟨some (.int v), h, rfl, hq, by rw [ht]; exact hR⟩, hS.F ht⟩
  unfold PZ
  by_cases m0 : mK M = 0
  · rw [if_pos m0]
    exact W.widen (k := N) (n := 1000 * N) (by omega) (by omega) (W.zret k1 k2 (k4.trans hret) hn hq' hS.2.2 hd t2)
  · rw [if_neg m0, if_pos (show mK M = 1 by omega)]
    exact W.widen (k := N) (n := 1000 * N) (by omega) (by omega) (vx_ret (W.zret k1 k2 (k4.trans hret) hn hq' hS.2.2 hd t2))
/-- the law's own end -/
theorem pw_lawret (hC : mC M = code) (hret : mR M = ret) (hm : mK M = 2) (hd : decode (mC M) pc = .ok (.ireturn, 1)) : PW M d n pc ls [.int 1] h Q := by
  intro p l e_ R s m args below meth c G N H locs cells slots lsA C9 hc hs hR hS hw
  obtain ⟨⟨k1, k2, k3, k4, k5, k6⟩, t1, t2, t3, t4, t5, t6, ⟨r1, r2, r3, r4⟩, t8, t9⟩ := id C9
  obtain ⟨u1, u2, u4, u5, u6, b, u7⟩ := t9 hm
  subst u5; subst u7
  unfold PZ
  rw [if_neg (by omega), if_neg (by omega)]
  refine va_forget (fun q hq => by rw [← u4]; exact hS.2.2 q hq) ?_
  refine W.widen (k := 600086) (n := 7301442) (by omega) (by omega) ?_
  exact lw_ret k1 (k2.trans hC) (k4.trans hret) t2 (by rw [← hC]; exact hd)
theorem pw_return (hd : decode (mC M) pc = .ok (.return_, 1)) (hret : mR M = none) (hk : mK M ≤ 1) (hq : Q (.inl none) h) : PW M d n pc ls [] h Q := by
  intro p l e_ R s m args below meth c G N H locs cells slots lsA C9 hc hs hR hS hw
  obtain ⟨⟨k1, k2, k3, k4, k5, k6⟩, t1, t2, t3, t4, t5, t6, ⟨r1, r2, r3, r4⟩, t8, t9⟩ := id C9
  have hq' : ∀ t : State, t.heap = H → s.WarmedH t.vm → PQ G Q args s (.returned none) t := fun t ht hW => ⟨⟨none, h, rfl, hq, by rw [ht]; exact hR⟩, hS.F ht⟩
  unfold PZ
  by_cases m0 : mK M = 0
  · rw [if_pos m0]
    exact W.widen (k := N) (n := 1000 * N) (by omega) (by omega) (W.vret k1 k2 (k4.trans hret) hq' hS.2.2 hd t2)
  · rw [if_neg m0, if_pos (show mK M = 1 by omega)]
    exact W.widen (k := N) (n := 1000 * N) (by omega) (by omega) (vx_ret (W.vret k1 k2 (k4.trans hret) hq' hS.2.2 hd t2))
theorem pw_areturn {a : Nat} {E : String} (hd : decode (mC M) pc = .ok (.areturn, 1)) (hret : mR M = some (.object E)) (hk : mK M ≤ 1) (hq : Q (.inl (some (.ref a))) h) : PW M d n pc ls [.ref a] h Q := by
  intro p l e_ R s m args below meth c G N H locs cells slots lsA C9 hc hs hR hS hw
  obtain ⟨⟨k1, k2, k3, k4, k5, k6⟩, t1, t2, t3, t4, t5, t6, ⟨r1, r2, r3, r4⟩, t8, t9⟩ := id C9
  have hq' : ∀ t : State, t.heap = H → s.WarmedH t.vm → PQ G Q args s (.returned (some (.ref (ad G a)))) t := fun t ht hW => ⟨⟨some (.ref a), h, rfl, hq, by rw [ht]; exact hR⟩, hS.F ht⟩
  unfold PZ
  by_cases m0 : mK M = 0
  · rw [if_pos m0]
    exact W.widen (k := N) (n := 1000 * N) (by omega) (by omega) (W.aret k1 k2 (k4.trans hret) (Or.inl ⟨E, rfl⟩) (Or.inr ⟨_, rfl⟩) hq' hS.2.2 hd t2)
  · rw [if_neg m0, if_pos (show mK M = 1 by omega)]
    exact W.widen (k := N) (n := 1000 * N) (by omega) (by omega) (vx_ret (W.aret k1 k2 (k4.trans hret) (Or.inl ⟨E, rfl⟩) (Or.inr ⟨_, rfl⟩) hq' hS.2.2 hd t2))
end PWC
