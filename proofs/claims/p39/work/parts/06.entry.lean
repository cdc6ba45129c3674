/-- entry locals -/
theorem els_args (G : PG) : ∀ (args : List Value) (off i : Nat) (v : Value), (els args)[i]? = some (some v) → (off + i, cv G v) ∈ lv_args off (args.map (cv G)) := by
  intro args
  induction args with
  | nil => intro off i v h; simp [els] at h
  | cons a t ih =>
    have one : a.category = 1 → els (a :: t) = some a :: els t → ∀ (off i : Nat) (v : Value), (els (a :: t))[i]? = some (some v) → (off + i, cv G v) ∈ lv_args off ((a :: t).map (cv G)) := by
      intro hc he off i v h
      rw [he] at h
      show _ ∈ (off, cv G a) :: lv_args (if (cv G a).category = 2 then off + 2 else off + 1) (t.map (cv G))
      rw [cv_cat, hc, if_neg (by decide)]
      cases i with
      | zero =>
        rw [List.getElem?_cons_zero] at h
        cases h
        exact List.mem_cons_self
      | succ i =>
        rw [List.getElem?_cons_succ] at h
        have := ih (off + 1) i v h
        rw [show off + 1 + i = off + (i + 1) by omega] at this
        exact List.mem_cons_of_mem _ this
    intro off i v h
    cases a with
    | long x =>
      simp only [els] at h
      show _ ∈ (off, Value.long x) :: lv_args (if (Value.long x).category = 2 then off + 2 else off + 1) (t.map (cv G))
      rw [if_pos (show (Value.long x).category = 2 from rfl)]
      match i, h with
      | 0, h =>
        rw [List.getElem?_cons_zero] at h
        cases h
        exact List.mem_cons_self
      | 1, h =>
        rw [List.getElem?_cons_succ, List.getElem?_cons_zero] at h
        cases h
      | i + 2, h =>
        rw [List.getElem?_cons_succ, List.getElem?_cons_succ] at h
        have := ih (off + 2) i v h
        rw [show off + 2 + i = off + (i + 2) by omega] at this
        exact List.mem_cons_of_mem _ this
    | double x =>
      simp only [els] at h
      show _ ∈ (off, Value.double x) :: lv_args (if (Value.double x).category = 2 then off + 2 else off + 1) (t.map (cv G))
      rw [if_pos (show (Value.double x).category = 2 from rfl)]
      match i, h with
      | 0, h =>
        rw [List.getElem?_cons_zero] at h
        cases h
        exact List.mem_cons_self
      | 1, h =>
        rw [List.getElem?_cons_succ, List.getElem?_cons_zero] at h
        cases h
      | i + 2, h =>
        rw [List.getElem?_cons_succ, List.getElem?_cons_succ] at h
        have := ih (off + 2) i v h
        rw [show off + 2 + i = off + (i + 2) by omega] at this
        exact List.mem_cons_of_mem _ this
    | int x => exact one rfl rfl off i v h
    | float x => exact one rfl rfl off i v h
    | null => exact one rfl rfl off i v h
    | ref x => exact one rfl rfl off i v h
    | retAddr x => exact one rfl rfl off i v h
theorem lvS_entry {G : PG} {args : List Value} {k L : Nat} {ls : List (Option Value)} (e : els args ++ List.replicate k none = ls) (hn : (lg_sl (args.map (cv G))).length ≤ L) : lvS G ((lg_sl (args.map (cv G)) ++ List.replicate (L - (lg_sl (args.map (cv G))).length) Slot.unset).toArray) L ls := by
  have h := lv_entry (args.map (cv G)) hn
  refine ⟨h.1, h.2.1, fun i v hi => ?_⟩
  rw [← e] at hi
  by_cases hl : i < (els args).length
  · rw [List.getElem?_append_left hl] at hi
    have := els_args G args 0 i v hi
    rw [Nat.zero_add] at this
    exact h.2.2 (i, cv G v) this
  · rw [List.getElem?_append_right (by omega)] at hi
    have := List.eq_of_mem_replicate (List.mem_of_getElem? hi)
    cases this
theorem lg_len (G : PG) (args : List Value) : (lg_sl (args.map (cv G))).length = (lg_sl args).length := by
  induction args with
  | nil => rfl
  | cons a t ih =>
    simp only [lg_sl, List.map_cons, List.flatMap_cons, List.length_append] at ih ⊢
    rw [ih]
    congr 1
    rw [cv_cat]
    by_cases h : a.category = 2 <;> simp [h]
theorem Met_ofWH {l : Launch} {y : MethodName} {ws ws' : List Cond} {rm : Room} {Pc : Array Value → State → Prop} {Qc : Array Value → State → Outcome → State → Prop} {mc ms : Nat} {free : Addr → Prop} {cc : ByteArray} {maxL : Nat} {ret : Option FieldType} {hh : List (Nat × Nat × Nat × Nat)}
    (hy : plainName y.cls = true) (hw : ws = Cond.codeWith y cc maxL ret hh :: ws')
    (body : ∀ p e s m args below meth c s₁, BodyLoose p l y (headSpec ws rm) cc maxL ret e s m args below meth c s₁ → c.maxLocals = maxL → Pc args s →
      W p l e (headSpec ws rm).room s m args below meth c s.heap [] 0 0 (MQ below Qc args s mc ms free) (entryFrame m args maxL)) : Met l y ws rm Pc Qc mc ms free := by
  refine MetFree.of_bodyS (code := cc) (maxLocals := maxL) (ret := ret) hy ?_ ?_
  · intro args s m h hn
    obtain ⟨m9, meth, c, hn9, h1, h2, h3, h4, -, h5, h6, -⟩ := Cond.codeWith_spec (atoms_spec (ws := ws) h _ (by rw [hw]; exact List.mem_cons_self))
    cases hn.symm.trans hn9
    exact ⟨meth, c, h1, h2, h3, h4, h5, h6⟩
  · intro p e s m args below meth c s₁ B hml hP _
    have hh0 : s₁.heap = s.heap := by rw [B.state]; rfl
    obtain ⟨t, a1, o, b1, b2, b3⟩ := body p e s m args below meth c s₁ B hml hP s₁ hh0 (Stand.of_body B)
    exact ⟨t, o, a1, b1, b2, b3⟩
section ENT
variable {M : Mth} {d n : Nat} {args : List Value} {h : Hp} {Q : Out → Hp → Prop}
theorem ent_cx {l : Launch} {G : PG} {p : Program} {e : Env} {s : State} {m : MethodId} {va : Array Value} {below : List Frame} {meth : Method} {c : Code} {s₁ : State} (hl : l.stackTraces = false) (hm : mK M ≤ 1) (B : BodyLoose p l (mY M) (headSpec (wsM M) (rmd d n)) (mC M) (mL M) (mR M) e s m va below meth c s₁) (hml : c.maxLocals = mL M) (ht : c.exceptionTable.toList = tableOf (mH M)) (hP : PP G args h va s) : Cx M d n Q p l (headSpec (wsM M) (rmd d n)).room s m va meth c G := by
  obtain ⟨-, -, q3, q4, q5⟩ := hP
  have hts := atoms_spec (ws := wsM M) B.pre
  refine ⟨⟨B.exec, B.bytes, hml, B.returns, findClass_of_methodNamed B.named, (name_of_methodNamed B.named B.method).1⟩, fun w hw => hts w ?_, B.notSynchronized, ht, q3, q4, q5, ⟨Nat.le_refl d, Nat.le_refl _, Nat.le_refl n, Nat.le_refl _⟩, hl, fun z => absurd z (by omega)⟩
  unfold wsM
  by_cases e : mH M = []
  · rw [if_pos e]; exact List.mem_cons_of_mem _ hw
  · rw [if_neg e]; exact List.mem_cons_of_mem _ hw
theorem ent_go {l : Launch} {G : PG} {p : Program} {e : Env} {s : State} {m : MethodId} {va : Array Value} {below : List Frame} {meth : Method} {c : Code} {R : Room} {k : Nat} {ls : List (Option Value)} (e1 : els args ++ List.replicate k none = ls) (hn : (lg_sl args).length ≤ mL M) (C9 : Cx M d n Q p l R s m va meth c G) (hP : PP G args h va s) (body : PW M d n 0 ls [] h Q) : W p l e R s m va below meth c s.heap [] 0 0 (PZ M n Q below va s G) (entryFrame m va (mL M)) := by
  obtain ⟨q1, q2, q3, q4, q5⟩ := hP
  subst q1
  rw [lg_entry_eq]
  exact body p l e R s m _ below meth c G n s.heap [] 0 0 _ C9 (by omega) (by omega) q2 va_S.rf (lvS_entry e1 (by rw [lg_len]; exact hn))
theorem ct_of (hp : plainName (mY M).cls = true) (hm : mK M ≤ 1) (hh : mH M = []) {k : Nat} {ls : List (Option Value)} (e1 : els args ++ List.replicate k none = ls) (hn : (lg_sl args).length ≤ mL M) (body : PW M d n 0 ls [] h Q) : CT M d n args h Q := by
  intro l hl G
  have ew : wsM M = .code (mY M) (mC M) (mL M) (mR M) :: UU := wsM_eq hh
  by_cases m0 : mK M = 0
  · rw [if_pos m0]
    refine Met.ofW (cc := mC M) (maxL := mL M) (ret := mR M) hp ew fun p e s m va below meth c s₁ B hml hP => ?_
    have ht : c.exceptionTable.toList = tableOf (mH M) := by
      obtain ⟨meth9, c9, h1, h2, -, -, -, -, h7, -⟩ := Cond.code_spec B.named (atoms_spec (ws := wsM M) B.pre _ (by rw [ew]; exact List.mem_cons_self))
      cases Option.some.inj (h1.symm.trans B.method)
      cases Option.some.inj (h2.symm.trans (Stand.of_body B).code)
      rw [hh, Array.isEmpty_iff.mp h7]
      rfl
    have w := ent_go (e := e) (below := below) e1 hn (ent_cx (Q := Q) hl hm B hml ht hP) hP body
    unfold PZ at w
    rw [if_pos m0] at w
    exact w
  · rw [if_neg m0]
    refine vx_ofW (cc := mC M) (maxL := mL M) (ret := mR M) hp ew fun p e s m va below meth c s₁ B hml hx hP => ?_
    have ht : c.exceptionTable.toList = tableOf (mH M) := by
      rw [hh]
      exact List.eq_nil_iff_forall_not_mem.mpr fun x h => hx x h
    have w := ent_go (e := e) (below := below) e1 hn (ent_cx (Q := Q) hl hm B hml ht hP) hP body
    unfold PZ at w
    rw [if_neg m0, if_pos (show mK M = 1 by omega)] at w
    exact w
theorem ct_ofH (hp : plainName (mY M).cls = true) (m0 : mK M = 0) (hh : mH M ≠ []) {k : Nat} {ls : List (Option Value)} (e1 : els args ++ List.replicate k none = ls) (hn : (lg_sl args).length ≤ mL M) (body : PW M d n 0 ls [] h Q) : CT M d n args h Q := by
  intro l hl G
  have ew : wsM M = .codeWith (mY M) (mC M) (mL M) (mR M) (mH M) :: UU := if_neg hh
  rw [if_pos m0]
  refine Met_ofWH (cc := mC M) (maxL := mL M) (ret := mR M) hp ew fun p e s m va below meth c s₁ B hml hP => ?_
  have ht : c.exceptionTable.toList = tableOf (mH M) := vx_table (x := mY M) B (atoms_spec (ws := wsM M) B.pre _ (by rw [ew]; exact List.mem_cons_self))
  have w := ent_go (e := e) (below := below) e1 hn (ent_cx (Q := Q) hl (by omega) B hml ht hP) hP body
  unfold PZ at w
  rw [if_pos m0] at w
  exact w
end ENT
theorem thr_ot {w : Cond} (h : w ∈ UU ∨ w ∈ UN) : vx_ot w = true := by
  rcases h with h | h
  · have := (List.mem_filter.mp h).2
    unfold vx_ot
    rw [this, Bool.or_true]
  · have := (List.mem_filter.mp h).2
    cases w <;> first | rfl | cases this
abbrev exN : List String := ["java/lang/RuntimeException", "java/lang/Exception"]
abbrev TW (ic : Nat) (E : String) : Prop := Bundle.fit E = true ∧ Cond.initialized E ∈ UU ∧ ∀ w ∈ vx_atS "RowTriggers" ic E exN, w ∈ UU ∨ w ∈ UN
section THR
variable {M : Mth} {d n pc : Nat} {ls : List (Option Value)} {st : List Value} {h : Hp} {Q : Out → Hp → Prop}
theorem pw_throw {ik is ic : Nat} {E tx : String} (tw : TW ic E) (hm : mK M = 1) (hh : mH M = []) (hown : (mY M).cls = "RowTriggers") (hk : Cond.classLink "RowTriggers" ik E ∈ UU) (hs : (is, tx) ∈ strs) (d0 : decode (mC M) pc = .ok (.new ik, 3)) (d3 : decode (mC M) (pc + 3) = .ok (.dup, 1)) (d4 : decode (mC M) (pc + 4) = .ok (.ldc is, 2)) (d6 : decode (mC M) (pc + 6) = .ok (.invokespecial ic, 3)) (d9 : decode (mC M) (pc + 9) = .ok (.athrow, 1)) (hd : 6 ≤ d) (hn : 1 ≤ n) (hq : Q (.inr E) (none, h.2)) : PW M d n pc ls [] h Q := by
  intro p l e_ R s m args below meth c G N H locs cells slots lsA C9 hc hs9 hR hS hw
  obtain ⟨⟨k1, k2, k3, k4, k5, k6⟩, t1, t2, t3, t4, t5, t6, ⟨r1, r2, r3, r4⟩, t8, t9⟩ := id C9
  obtain ⟨w1, w2, w3⟩ := tw
  obtain ⟨sa, hsa⟩ := t5.2.1 _ hs
  rw [hown] at k5
  rw [hh] at t3
  unfold PZ
  rw [if_neg (by omega), if_pos hm]
  exact vx_throwS (A := fr G) (names := exN) (cls := E) (text := tx) k1 k2 t8 k5 w1 (by decide) (t1 _ hk) (t1 _ w2) hsa (fun w hw => (w3 w hw).elim (fun h => t1 _ h) (fun h => va_Nw.use (by have := (List.mem_filter.mp h).2; cases w <;> first | rfl | cases this) (t5.2.2.1 _ h))) (fun w hw => by
      rcases List.mem_cons.mp hw with e | hw
      · rw [e]; exact thr_ot (Or.inl hk)
      · rcases List.mem_cons.mp hw with e | hw
        · rw [e]; exact thr_ot (Or.inl w2)
        · exact thr_ot (w3 w hw)) t5.1.1 t5.1.2 hS (hw.1.trans k3.symm) d0 d3 d4 d6 d9 (fun x hx => by rw [t3] at hx; cases hx) (by show 2 + 3 < _; omega) (by show 0 + (13 * (2 + 1) + 43) ≤ _; omega) (by omega) (by omega) t2
    (fun t ha hz hq9 => ⟨⟨(none, h.2), hq, hR.grow hz hq9⟩, ⟨Nat.le_trans hS.1 hz, fun q g1 g2 => by rw [hq9 q (Nat.lt_of_lt_of_le g1 hS.1)]; exact hS.2.1 q g1 g2⟩⟩) hS.2.2 (by omega) (by omega)
theorem pw_throwW {ik is ic : Nat} {E tx : String} (tw : TW ic E) (hm : mK M = 1) (hh : mH M = []) (hown : (mY M).cls = "RowTriggers") (hk : Cond.classLink "RowTriggers" ik E ∈ UU) (hs : (is, tx) ∈ strs) (d0 : decode (mC M) pc = .ok (.new ik, 3)) (d3 : decode (mC M) (pc + 3) = .ok (.dup, 1)) (d4 : decode (mC M) (pc + 4) = .ok (.ldc_w is, 3)) (d7 : decode (mC M) (pc + 7) = .ok (.invokespecial ic, 3)) (d10 : decode (mC M) (pc + 10) = .ok (.athrow, 1)) (hd : 6 ≤ d) (hn : 1 ≤ n) (hq : Q (.inr E) (none, h.2)) : PW M d n pc ls [] h Q := by
  intro p l e_ R s m args below meth c G N H locs cells slots lsA C9 hc hs9 hR hS hw
  obtain ⟨⟨k1, k2, k3, k4, k5, k6⟩, t1, t2, t3, t4, t5, t6, ⟨r1, r2, r3, r4⟩, t8, t9⟩ := id C9
  obtain ⟨w1, w2, w3⟩ := tw
  obtain ⟨sa, hsa⟩ := t5.2.1 _ hs
  rw [hown] at k5
  rw [hh] at t3
  unfold PZ
  rw [if_neg (by omega), if_pos hm]
  exact vx_throwSW (A := fr G) (names := exN) (cls := E) (text := tx) k1 k2 t8 k5 w1 (by decide) (t1 _ hk) (t1 _ w2) hsa (fun w hw => (w3 w hw).elim (fun h => t1 _ h) (fun h => va_Nw.use (by have := (List.mem_filter.mp h).2; cases w <;> first | rfl | cases this) (t5.2.2.1 _ h))) (fun w hw => by
      rcases List.mem_cons.mp hw with e | hw
      · rw [e]; exact thr_ot (Or.inl hk)
      · rcases List.mem_cons.mp hw with e | hw
        · rw [e]; exact thr_ot (Or.inl w2)
        · exact thr_ot (w3 w hw)) t5.1.1 t5.1.2 hS (hw.1.trans k3.symm) d0 d3 d4 d7 d10 (fun x hx => by rw [t3] at hx; cases hx) (by show 2 + 3 < _; omega) (by show 0 + (13 * (2 + 1) + 43) ≤ _; omega) (by omega) (by omega) t2
    (fun t ha hz hq9 => ⟨⟨(none, h.2), hq, hR.grow hz hq9⟩, ⟨Nat.le_trans hS.1 hz, fun q g1 g2 => by rw [hq9 q (Nat.lt_of_lt_of_le g1 hS.1)]; exact hS.2.1 q g1 g2⟩⟩) hS.2.2 (by omega) (by omega)
/-- System.arraycopy between two rows of ints -/
theorem pw_copy {idx a b n0 n1 : Nat} {f g : Nat → Value} {sp dp x : Int32} (hd : decode (mC M) pc = .ok (.invokestatic idx, 3)) (hlk : Cond.methodLink (mY M).cls idx arraycopyName ∈ UU) (hnat : Cond.native arraycopyName ∈ UU) (hst : Cond.static arraycopyName ∈ UU) (hini : Cond.initialized "java/lang/System" ∈ UU) (ha : h.2 a = some (.inl (.int, n0, f))) (hb : h.2 b = some (.inl (.int, n1, g))) (h1 : ¬ sp < 0) (h2 : ¬ dp < 0) (h3 : ¬ x < 0) (h4 : sp.toNatClampNeg + x.toNatClampNeg ≤ n0) (h5 : dp.toNatClampNeg + x.toNatClampNeg ≤ n1) (hf : ∀ i, ∃ y : Int32, f i = .int y) (hd1 : 1 ≤ d) (hr : (st.map fun v => v.category).sum ≤ 8)
    (kk : PW M d n (pc + 3) ls st (upH h b (.inl (.int, n1, va_cpy f g sp.toNatClampNeg dp.toNatClampNeg x.toNatClampNeg))) Q) : PW M d n pc ls (.int x :: .int dp :: .ref b :: .int sp :: .ref a :: st) h Q := by
  have nn : ∀ z : Int32, ¬ z < 0 → z.toInt = (z.toNatClampNeg : Int) := by
    intro z hz
    have hz0 : (0 : Int) ≤ z.toInt := by
      have := Int32.not_lt.mp hz
      simpa using Int32.le_iff_toInt_le.mp this
    show z.toInt = ((z.toInt.toNat : Nat) : Int)
    omega
  intro p l e_ R s m args below meth c G N H locs cells slots lsA C9 hc hs9 hR hS hw
  obtain ⟨⟨k1, k2, k3, k4, k5, k6⟩, t1, t2, t3, t4, t5, t6, ⟨r1, r2, r3, r4⟩, t8, t9⟩ := id C9
  intro T hT X
  have hc0 : H[ad G a]? = some (arrV (G.2.1 .int) n0 (fun j => cv G (f j))) := hR.at ha
  have hc1 : H[ad G b]? = some (arrV (G.2.1 .int) n1 (fun j => cv G (g j))) := hR.at hb
  obtain ⟨-, k0, hk0, cm0, hkk0⟩ := (t4.2 0 _ rfl).1 n0 (fun j => cv G (f j))
  obtain ⟨vm', X', step⟩ := X.arraycopy k1 k5 (t1 _ hlk) (t1 _ hnat) (t1 _ hst) (t1 _ hini) (src := ad G a) (dst := ad G b) (cs := arrV (G.2.1 .int) n0 (fun j => cv G (f j))) (cd := arrV (G.2.1 .int) n1 (fun j => cv G (g j))) (srcPos := sp) (destPos := dp) (n := x) (by rw [hT]; exact hc0) (by rw [hT]; exact hc1)
    (fun _ h => by cases h) (fun _ h => by cases h) (fun h => by cases h) (fun h => by cases h) hk0 hk0 hkk0 hkk0 (by simp [refKind]) h1 h2 h3
    (by rw [nn sp h1, nn x h3, arrV_size]; omega)
    (by rw [nn dp h2, nn x h3, arrV_size]; omega)
    (fun vm₁ _ i hi => by
      have e : (arrV (G.2.1 .int) n0 (fun j => cv G (f j))).slots.getD (sp.toNatClampNeg + i) .null = cv G (f (sp.toNatClampNeg + i)) := by
        rw [Array.getD_eq_getD_getElem?, arrV_read _ _ (by omega)]
        rfl
      obtain ⟨y, hy⟩ := hf (sp.toNatClampNeg + i)
      rw [hy] at e
      refine ⟨?_, ?_⟩
      · rw [e]
        rfl
      · rw [e]
        exact trivial)
    (g := F0 m pc lsA ((Value.int x :: .int dp :: .ref b :: .int sp :: .ref a :: st).map (cv G))) rfl (by rw [k3]; exact hw.1) (rest := st.map (cv G)) rfl (by rw [k2]; exact hd) (by omega) (by rw [cats]; show 2 * 0 + _ + (7 + 11) ≤ _; omega)
  have e1 : copied (arrV (G.2.1 .int) n0 (fun j => cv G (f j))) (arrV (G.2.1 .int) n1 (fun j => cv G (g j))) sp dp x = arrV (G.2.1 .int) n1 (fun j => cv G (va_cpy f g sp.toNatClampNeg dp.toNatClampNeg x.toNatClampNeg j)) := va_copied (cv G) _ _ f g h4
  rw [e1] at X' step
  have hl : ad G b < H.size := (Array.getElem?_eq_some_iff.mp hc1).1
  generalize hY : arrV (G.2.1 .int) n1 (fun j => cv G (va_cpy f g sp.toNatClampNeg dp.toNatClampNeg x.toNatClampNeg j)) = Y at X' step
  have hheap : ((T.setVm vm').setCell (ad G b) Y).heap = H.setIfInBounds (ad G b) Y := by rw [← hT]; rfl
  have oq : ∀ q : Nat, q ≠ ad G b → (H.setIfInBounds (ad G b) Y)[q]? = H[q]? := fun q hq => by simp [Array.getElem?_setIfInBounds, Ne.symm hq]
  obtain ⟨t, a1, b1⟩ := kk p l e_ R s m args below meth c G N _ _ cells slots lsA C9 hc hs9 (hR.put hb (by simp) oq (by
      show (H.setIfInBounds (ad G b) Y)[ad G b]? = some (arrV _ _ _)
      rw [← hY]
      simp [Array.getElem?_setIfInBounds, hl])) ⟨by simp; exact hS.1, fun q g1 g2 => by
      rw [oq q (fun e => g2 (by rw [e]; exact hR.fr hb))]
      exact hS.2.1 q g1 g2, fun q hq => by
      rcases List.mem_append.mp hq with h | h
      · exact hS.2.2 q h
      · obtain ⟨z, -, hz⟩ := List.mem_map.mp h
        rw [← hz]
        exact hR.fr hb⟩ hw _ hheap X'
  exact ⟨t, step t a1, b1⟩
end THR
theorem clX0 : Cls 0 RX0 TX0 1 tyX0 := by
  refine ⟨rfl, fun w hw => ?_, tyX0_ok, nmX0⟩
  obtain ⟨k, hk, rfl⟩ := List.mem_map.mp hw
  rw [List.mem_range] at hk
  match k, hk with
  | 0, _ => exact UU_in 186 (by decide +kernel) rfl
  | k + 1, h => exact absurd h (by omega)
theorem clX1 : Cls 1 RX1 TX1 3 tyX1 := by
  refine ⟨rfl, fun w hw => ?_, tyX1_ok, nmX1⟩
  obtain ⟨k, hk, rfl⟩ := List.mem_map.mp hw
  rw [List.mem_range] at hk
  match k, hk with
  | 0, _ => exact UU_in 222 (by decide +kernel) rfl
  | 1, _ => exact UU_in 224 (by decide +kernel) rfl
  | 2, _ => exact UU_in 226 (by decide +kernel) rfl
  | k + 3, h => exact absurd h (by omega)
theorem clX2 : Cls 2 RX2 TX2 4 tyX2 := by
  refine ⟨rfl, fun w hw => ?_, tyX2_ok, nmX2⟩
  obtain ⟨k, hk, rfl⟩ := List.mem_map.mp hw
  rw [List.mem_range] at hk
  match k, hk with
  | 0, _ => exact UU_in 57 (by decide +kernel) rfl
  | 1, _ => exact UU_in 59 (by decide +kernel) rfl
  | 2, _ => exact UU_in 61 (by decide +kernel) rfl
  | 3, _ => exact UU_in 63 (by decide +kernel) rfl
  | k + 4, h => exact absurd h (by omega)
theorem clX3 : Cls 3 RX3 TX3 9 tyX3 := by
  refine ⟨rfl, fun w hw => ?_, tyX3_ok, nmX3⟩
  obtain ⟨k, hk, rfl⟩ := List.mem_map.mp hw
  rw [List.mem_range] at hk
  match k, hk with
  | 0, _ => exact UU_in 97 (by decide +kernel) rfl
  | 1, _ => exact UU_in 99 (by decide +kernel) rfl
  | 2, _ => exact UU_in 101 (by decide +kernel) rfl
  | 3, _ => exact UU_in 103 (by decide +kernel) rfl
  | 4, _ => exact UU_in 105 (by decide +kernel) rfl
  | 5, _ => exact UU_in 107 (by decide +kernel) rfl
  | 6, _ => exact UU_in 109 (by decide +kernel) rfl
  | 7, _ => exact UU_in 111 (by decide +kernel) rfl
  | 8, _ => exact UU_in 113 (by decide +kernel) rfl
  | k + 9, h => exact absurd h (by omega)
theorem clX4 : Cls 4 RX4 TX4 7 tyX4 := by
  refine ⟨rfl, fun w hw => ?_, tyX4_ok, nmX4⟩
  obtain ⟨k, hk, rfl⟩ := List.mem_map.mp hw
  rw [List.mem_range] at hk
  match k, hk with
  | 0, _ => exact UU_in 138 (by decide +kernel) rfl
  | 1, _ => exact UU_in 140 (by decide +kernel) rfl
  | 2, _ => exact UU_in 142 (by decide +kernel) rfl
  | 3, _ => exact UU_in 144 (by decide +kernel) rfl
  | 4, _ => exact UU_in 146 (by decide +kernel) rfl
  | 5, _ => exact UU_in 148 (by decide +kernel) rfl
  | 6, _ => exact UU_in 150 (by decide +kernel) rfl
  | k + 7, h => exact absurd h (by omega)
theorem clX5 : Cls 5 RX5 TX5 4 tyX5 := by
  refine ⟨rfl, fun w hw => ?_, tyX5_ok, nmX5⟩
  obtain ⟨k, hk, rfl⟩ := List.mem_map.mp hw
  rw [List.mem_range] at hk
  match k, hk with
  | 0, _ => exact UU_in 169 (by decide +kernel) rfl
  | 1, _ => exact UU_in 171 (by decide +kernel) rfl
  | 2, _ => exact UU_in 173 (by decide +kernel) rfl
  | 3, _ => exact UU_in 175 (by decide +kernel) rfl
  | k + 4, h => exact absurd h (by omega)
theorem clX6 : Cls 6 RX6 TX6 5 tyX6 := by
  refine ⟨rfl, fun w hw => ?_, tyX6_ok, nmX6⟩
  obtain ⟨k, hk, rfl⟩ := List.mem_map.mp hw
  rw [List.mem_range] at hk
  match k, hk with
  | 0, _ => exact UU_in 197 (by decide +kernel) rfl
  | 1, _ => exact UU_in 199 (by decide +kernel) rfl
  | 2, _ => exact UU_in 201 (by decide +kernel) rfl
  | 3, _ => exact UU_in 203 (by decide +kernel) rfl
  | 4, _ => exact UU_in 205 (by decide +kernel) rfl
  | k + 5, h => exact absurd h (by omega)
theorem clX7 : Cls 7 RX7 TX7 7 tyX7 := by
  refine ⟨rfl, fun w hw => ?_, tyX7_ok, nmX7⟩
  obtain ⟨k, hk, rfl⟩ := List.mem_map.mp hw
  rw [List.mem_range] at hk
  match k, hk with
  | 0, _ => exact UU_in 236 (by decide +kernel) rfl
  | 1, _ => exact UU_in 238 (by decide +kernel) rfl
  | 2, _ => exact UU_in 240 (by decide +kernel) rfl
  | 3, _ => exact UU_in 242 (by decide +kernel) rfl
  | 4, _ => exact UU_in 244 (by decide +kernel) rfl
  | 5, _ => exact UU_in 246 (by decide +kernel) rfl
  | 6, _ => exact UU_in 248 (by decide +kernel) rfl
  | k + 7, h => exact absurd h (by omega)
