theorem OW.nar {G G2 : PG} {U : State} (h : OW G U) (hA : ∀ q, fr G2 q → fr G q) (e4 : ∀ k, k < 1020 → G2.2.2.2 k = G.2.2.2 k) : OW G2 U := by
  obtain ⟨⟨a1, a2⟩, a3, a4, a5, a6, a7, a8, a9, b1, b2⟩ := h
  refine ⟨⟨a1.narrow hA, a2.narrow hA⟩, a3, a4, a5, fun i hi => by rw [e4 _ (by omega)]; exact a6 i hi, ⟨fun i hi => ?_, fun i j hi hj e => ?_⟩, a8.narrow hA, a9.narrow hA, b1, b2⟩
  · have q := (a7.narrow hA).1 i hi
    dsimp only at q ⊢
    rw [e4 _ (by omega), e4 _ (by omega)]; exact q
  · dsimp only at e
    rw [e4 _ (by omega), e4 _ (by omega)] at e
    exact a7.2 i j hi hj e
section PWT
variable {M : Mth} {d n pc : Nat} {ls : List (Option Value)} {st : List Value} {h : Hp} {Q : Out → Hp → Prop}
theorem Cx.ow {N : Nat} {p : Program} {l : Launch} {R : Room} {s : State} {m : MethodId} {args : Array Value} {meth : Method} {c : Code} {G : PG} (C9 : Cx M d N Q p l R s m args meth c G) : OW G s := C9.2.2.2.2.2.1
theorem pw_ldcS {i idx : Nat} (hi : i < 4) (hown : (mY M).cls = "RowTriggers$Text") (hx : (tix i).1 = idx) (hd : decode (mC M) pc = .ok (.ldc idx, 2)) (kk : PW M d n (pc + 2) ls (.ref (1000 + i) :: st) h Q) : PW M d n pc ls st h Q := by
  subst hx
  intro p l e_ R s m args below meth c G N H locs cells slots lsA C9 hc hs hR hS hw
  have k5 := C9.1.2.2.2.2.1
  rw [hown] at k5
  have w := kk p l e_ R s m args below meth c G N H locs cells slots lsA C9 hc hs hR hS hw
  have e1 : (Value.ref (1000 + i) :: st).map (cv G) = .ref (G.2.2.2 (1000 + i)) :: st.map (cv G) := by
    show Value.ref (ad G (1000 + i)) :: _ = _
    rw [ad_hi (by omega)]
  rw [e1] at w
  exact va_ldcS C9.1.1 C9.1.2.1 k5 (C9.ow.2.2.2.2.1 i hi) hd w
theorem pw_sval {i idx : Nat} (hi : i < 4) (hd : decode (mC M) pc = .ok (.getfield idx, 3)) (hlk : Cond.fieldLink (mY M).cls idx "java/lang/String" "value" "[B" ∈ UU) (kk : PW M d n (pc + 3) ls (.ref (1010 + i) :: st) h Q) : PW M d n pc ls (.ref (1000 + i) :: st) h Q := by
  intro p l e_ R s m args below meth c G N H locs cells slots lsA C9 hc hs hR hS hw
  have w := kk p l e_ R s m args below meth c G N H locs cells slots lsA C9 hc hs hR hS hw
  have e1 : (Value.ref (1010 + i) :: st).map (cv G) = .ref (G.2.2.2 (1010 + i)) :: st.map (cv G) := by
    show Value.ref (ad G (1010 + i)) :: _ = _
    rw [ad_hi (by omega)]
  have e2 : (Value.ref (1000 + i) :: st).map (cv G) = .ref (G.2.2.2 (1000 + i)) :: st.map (cv G) := by
    show Value.ref (ad G (1000 + i)) :: _ = _
    rw [ad_hi (by omega)]
  rw [e1] at w
  rw [e2]
  exact vk_getf C9.1.1 C9.1.2.1 ((C9.ow.2.2.2.2.2.1.1 i hi).2.2.1) hS C9.1.2.2.2.2.1 (C9.2.1 _ hlk) (fun _ q => q) hd w
theorem pw_scod {i idx : Nat} (hi : i < 4) (hd : decode (mC M) pc = .ok (.getfield idx, 3)) (hlk : Cond.fieldLink (mY M).cls idx "java/lang/String" "coder" "B" ∈ UU) (kk : PW M d n (pc + 3) ls (.int 0 :: st) h Q) : PW M d n pc ls (.ref (1000 + i) :: st) h Q := by
  intro p l e_ R s m args below meth c G N H locs cells slots lsA C9 hc hs hR hS hw
  have w := kk p l e_ R s m args below meth c G N H locs cells slots lsA C9 hc hs hR hS hw
  have e2 : (Value.ref (1000 + i) :: st).map (cv G) = .ref (G.2.2.2 (1000 + i)) :: st.map (cv G) := by
    show Value.ref (ad G (1000 + i)) :: _ = _
    rw [ad_hi (by omega)]
  rw [e2]
  exact vk_getf C9.1.1 C9.1.2.1 ((C9.ow.2.2.2.2.2.1.1 i hi).2.1) hS C9.1.2.2.2.2.1 (C9.2.1 _ hlk) (fun _ q => q) hd w
theorem pw_slen {i : Nat} (hi : i < 4) (hd : decode (mC M) pc = .ok (.arraylength, 1)) (kk : PW M d n (pc + 1) ls (.int (nI (tlen.getD i 0)) :: st) h Q) : PW M d n pc ls (.ref (1010 + i) :: st) h Q := by
  intro p l e_ R s m args below meth c G N H locs cells slots lsA C9 hc hs hR hS hw
  have w := kk p l e_ R s m args below meth c G N H locs cells slots lsA C9 hc hs hR hS hw
  have e2 : (Value.ref (1010 + i) :: st).map (cv G) = .ref (G.2.2.2 (1010 + i)) :: st.map (cv G) := by
    show Value.ref (ad G (1010 + i)) :: _ = _
    rw [ad_hi (by omega)]
  rw [e2]
  exact va_tlen C9.1.1 C9.1.2.1 ((C9.ow.2.2.2.2.2.1.1 i hi).2.2.2) hS rfl hd w
theorem pw_sbyt {i k : Nat} (hi : i < 4) (hk : k < tlen.getD i 0) (h31 : k < 2 ^ 31) (hd : decode (mC M) pc = .ok (.baload, 1)) (kk : PW M d n (pc + 1) ls (.int ((tbyt.getD i []).getD k 0) :: st) h Q) : PW M d n pc ls (.int (nI k) :: .ref (1010 + i) :: st) h Q := by
  intro p l e_ R s m args below meth c G N H locs cells slots lsA C9 hc hs hR hS hw
  have w := kk p l e_ R s m args below meth c G N H locs cells slots lsA C9 hc hs hR hS hw
  have e2 : (Value.int (nI k) :: Value.ref (1010 + i) :: st).map (cv G) = .int (nI k) :: .ref (G.2.2.2 (1010 + i)) :: st.map (cv G) := by
    show Value.int (nI k) :: Value.ref (ad G (1010 + i)) :: _ = _
    rw [ad_hi (by omega)]
  rw [e2]
  refine va_tb C9.1.1 C9.1.2.1 ((C9.ow.2.2.2.2.2.1.1 i hi).2.2.2) hS (fun q => q.elim (nI_pos h31) (fun q => by rw [nI_clamp h31] at q; omega)) (v := .int ((tbyt.getD i []).getD k 0)) ?_ hd w
  rw [nI_clamp h31]
theorem pw_scomp {idx : Nat} (hd : decode (mC M) pc = .ok (.getstatic idx, 3)) (hlk : Cond.fieldLink (mY M).cls idx "java/lang/String" "COMPACT_STRINGS" "Z" ∈ UU) (kk : PW M d n (pc + 3) ls (.int 1 :: st) h Q) : PW M d n pc ls st h Q := by
  intro p l e_ R s m args below meth c G N H locs cells slots lsA C9 hc hs hR hS hw
  exact va_gets C9.1.1 C9.1.2.1 C9.ow.2.2.2.2.2.2.1 hS C9.1.2.2.2.2.1 (C9.2.1 _ hlk) (fun _ q => q) hd (kk p l e_ R s m args below meth c G N H locs cells slots lsA C9 hc hs hR hS hw)
/-- a virtual call on a string -/
theorem pw_callVS {M' : Mth} {idx d' n' k i : Nat} {As rest : List Value} {o : Out} {h1 : Hp} (hi : i < 4) (ct : CT M' d' n' (.ref (1000 + i) :: As) h (Det (.inl o.getLeft?.join) h1)) (m0 : mK M' = 0) (hcls : (mY M').cls = "java/lang/String") (ok : MOK M' k) (hd : decode (mC M) pc = .ok (.invokevirtual idx, 3)) (hlk : Cond.methodLink (mY M).cls idx (mY M') ∈ UU) (hin : Cond.instanceMethod (mY M') ∈ UU) (hse : Cond.selects (mY M').cls (mY M') (mY M') ∈ UU) (hk : As.length = k) (e : st = As.reverse ++ .ref (1000 + i) :: rest) (hd' : d' + 1 ≤ d) (hn : n' ≤ n) (hr : (rest.map fun v => v.category).sum ≤ 8)
    (kr : PW M d (n - n') (pc + 3) ls (o.getLeft?.join.toList ++ rest) h1 Q) : PW M d n pc ls st h Q := by
  subst e
  intro p l e_ R s m args below meth c G N H locs cells slots lsA C9 hc hs hR hS hw
  obtain ⟨⟨k1, k2, k3, k4, k5, k6⟩, t1, t2, t3, t4, t5, t6, ⟨r1, r2, r3, r4⟩, t8, t9⟩ := id C9
  have S : CallFix p m c (mC M) (mL M) s args UU (mY M).cls := ⟨k1, k2, k3, k5, t1⟩
  have cb : CallW R s args (mY M).cls (mY M').cls idx (mY M') (mC M') (mL M') (mR M') (wsM M') (rmd d' n') n' (1000 * n') k := ⟨call_B C9 ok hlk hd', t1 _ hin, t1 _ hse⟩
  have ea : ad G (1000 + i) = G.2.2.2 (1000 + i) := ad_hi (by omega)
  have hrecv : ∃ cellB : Cell, H[ad G (1000 + i)]? = some cellB ∧ cellB.vm.isStatics = false ∧ s.vm.findClass (mY M').cls = some cellB.cls := by
    rw [ea, hcls]
    exact vk_recv (adK := fun i => G.2.2.2 (1000 + i)) (i := i) t5.2.2.2.2.2.1 hi hS
  have pS := pre_S (As := .ref (1000 + i) :: As) hR t4 t5 hS
  have hroom : cells + n' ≤ R.cells ∧ slots + 1000 * n' ≤ R.slots := ⟨by omega, by omega⟩
  have hstk : (As.reverse ++ .ref (1000 + i) :: rest).map (cv G) = (As.map (cv G)).reverse ++ .ref (ad G (1000 + i)) :: rest.map (cv G) := by rw [List.map_append, List.map_reverse]; rfl
  have hsum : 2 * (F0 m pc lsA ((As.reverse ++ .ref (1000 + i) :: rest).map (cv G))).monitorRoom + ((rest.map (cv G)).map fun v => v.category).sum ≤ 8 := by
    rw [cats]
    show 2 * 0 + _ ≤ 8
    omega
  have h9 := ct l t8 G
  rw [if_pos m0] at h9
  exact pw_after C9 hc hs hS hw hn (run_x (va_runV S h9 cb ⟨pS.1, hrecv, pS.2⟩ rfl (by rw [List.length_map]; exact hk) hw.1 hstk hsum hd hroom)) (fun r h2 q => by obtain ⟨q1, rfl⟩ := q; cases q1; exact kr) (fun E h2 q => by cases q.1)
end PWT
set_option maxRecDepth 100000 in
set_option maxHeartbeats 4000000 in
theorem ct_J3_checkIndexN (h : Hp) (i n0 : Int32) (h1 : ¬ i < 0) (h2 : i < n0) : CT MJ3_checkIndex_8e157 0 0 [.int i, .int n0, .null] h (Det (.inl (some (.int i))) h) := by
  refine ct_of (by decide +kernel) (by decide) rfl (k := 0) (ls := [some (.int i), some (.int n0), some (.null)]) rfl (Nat.le_of_ble_eq_true rfl) ?_
  refine pw_iload_n (tk tkJ3_checkIndex_8e157 0 rfl) rfl ?_
  refine pw_if_lt (tgt := 9) (tk tkJ3_checkIndex_8e157 1 rfl) (by decide) (fun c1 => absurd c1 h1) (fun c1 => ?_)
  refine pw_iload_n (tk tkJ3_checkIndex_8e157 2 rfl) rfl ?_
  refine pw_iload_n (tk tkJ3_checkIndex_8e157 3 rfl) rfl ?_
  refine pw_icmp_lt (tgt := 16) (tk tkJ3_checkIndex_8e157 4 rfl) (by decide) (fun c6 => ?_) (fun c6 => absurd h2 c6)
  refine pw_iload_n (tk tkJ3_checkIndex_8e157 10 rfl) rfl ?_
  exact pw_ireturn (tk tkJ3_checkIndex_8e157 11 rfl) rfl (by decide) rfl ⟨rfl, rfl⟩
set_option maxRecDepth 100000 in
set_option maxHeartbeats 4000000 in
theorem ct_J3_checkIndexR (h : Hp) (i n0 : Int32) (h1 : ¬ i < 0) (h2 : i < n0) : CT MJ3_checkIndex_8e157 0 0 [.int i, .int n0, .ref 1030] h (Det (.inl (some (.int i))) h) := by
  refine ct_of (by decide +kernel) (by decide) rfl (k := 0) (ls := [some (.int i), some (.int n0), some (.ref 1030)]) rfl (Nat.le_of_ble_eq_true rfl) ?_
  refine pw_iload_n (tk tkJ3_checkIndex_8e157 0 rfl) rfl ?_
  refine pw_if_lt (tgt := 9) (tk tkJ3_checkIndex_8e157 1 rfl) (by decide) (fun c1 => absurd c1 h1) (fun c1 => ?_)
  refine pw_iload_n (tk tkJ3_checkIndex_8e157 2 rfl) rfl ?_
  refine pw_iload_n (tk tkJ3_checkIndex_8e157 3 rfl) rfl ?_
  refine pw_icmp_lt (tgt := 16) (tk tkJ3_checkIndex_8e157 4 rfl) (by decide) (fun c6 => ?_) (fun c6 => absurd h2 c6)
  refine pw_iload_n (tk tkJ3_checkIndex_8e157 10 rfl) rfl ?_
  exact pw_ireturn (tk tkJ3_checkIndex_8e157 11 rfl) rfl (by decide) rfl ⟨rfl, rfl⟩
section PWU
variable {M : Mth} {d n pc : Nat} {ls : List (Option Value)} {st : List Value} {h : Hp} {Q : Out → Hp → Prop}
theorem pw_sio {idx idx2 : Nat} {i n0 : Int32} (hz : h.1 = none) (h1 : ¬ i < 0) (h2 : i < n0) (d0 : decode (mC M) pc = .ok (.getstatic idx, 3)) (hf : Cond.fieldLink (mY M).cls idx "jdk/internal/util/Preconditions" "SIOOBE_FORMATTER" "Ljava/util/function/BiFunction;" ∈ UU) (d3 : decode (mC M) (pc + 3) = .ok (.invokestatic idx2, 3)) (hlk : Cond.methodLink (mY M).cls idx2 yJ3_checkIndex_8e157 ∈ UU) (hd : 1 ≤ d) (hr : (st.map fun v => v.category).sum ≤ 8)
    (kk : PW M d n (pc + 3 + 3) ls (.int i :: st) h Q) : PW M d n pc ls (.int n0 :: .int i :: st) h Q := by
  intro p l e_ R s m args below meth c G N H locs cells slots lsA C9 hc hs hR hS hw
  obtain ⟨⟨k1, k2, k3, k4, k5, k6⟩, t1, t2, t3, t4, t5, t6, ⟨r1, r2, r3, r4⟩, t8, t9⟩ := id C9
  have hB : G.2.2.1 ≤ H.size := hR.2.1
  have go : ∀ (V : Value) (w : Value) (G2 : PG), cv G2 w = V → G2.1 = G.1 → G2.2.1 = G.2.1 → G2.2.2.1 = H.size → (∀ k, k < 1020 → G2.2.2.2 k = G.2.2.2 k) → (CT MJ3_checkIndex_8e157 0 0 [.int i, .int n0, w] (none, fun _ => none) (Det (.inl (some (.int i))) (none, fun _ => none))) → W p l e_ R s m args below meth c H locs cells slots (PZ M N Q below args s G) (F0 m (pc + 3) lsA (V :: .int n0 :: .int i :: st.map (cv G))) := by
    intro V w G2 hw2 g1 g2 g3 g4 ct
    have S : CallFix p m c (mC M) (mL M) s args UU (mY M).cls := ⟨k1, k2, k3, k5, t1⟩
    have cb : CallB R s args (mY M).cls idx2 yJ3_checkIndex_8e157 cJ3_checkIndex_8e157 3 (some .int) (wsM MJ3_checkIndex_8e157) (rmd 0 0) 0 (1000 * 0) 3 ∧ (Cond.static yJ3_checkIndex_8e157).before args s = true := ⟨call_B (M' := MJ3_checkIndex_8e157) C9 okJ3_checkIndex_8e157 hlk (by omega), t1 _ stJ3_checkIndex_8e157⟩
    have h9 := ct l t8 G2
    rw [if_pos rfl] at h9
    have sub : ∀ q, fr G2 q → fr G q := fun q hq => Nat.le_trans hB (by rw [← g3]; exact hq)
    have pS : PreS s H (PP G2 [.int i, .int n0, w] (none, fun _ => none)) ([Value.int i, .int n0, w].map (cv G2)) :=
      ⟨PP.blind, fun U hU hW => ⟨rfl, ⟨(fun z hz => by cases hz), by rw [hU, g3]; exact Nat.le_refl _, (fun k c hk => by cases hk)⟩, by rw [g1, show tys G2 = tys G from by unfold tys; rw [g2]]; exact va_K.moved hW.alike t4, (t5.go hS hU hW).nar sub g4, by rw [hU, g3]; exact Nat.le_refl _⟩⟩
    have hstk : (V :: .int n0 :: .int i :: st.map (cv G)) = ([Value.int i, .int n0, w].map (cv G2)).reverse ++ st.map (cv G) := by rw [← hw2]; rfl
    have hsum : 2 * (F0 m (pc + 3) lsA (V :: .int n0 :: .int i :: st.map (cv G))).monitorRoom + ((st.map (cv G)).map fun v => v.category).sum ≤ 8 := by
      rw [cats]
      show 2 * 0 + _ ≤ 8
      omega
    have run := va_runS (e := e_) (below := below) (meth := meth) (locs := locs) S h9 cb pS rfl rfl hw.1 hstk hsum d3 (⟨by omega, by omega⟩ : cells + 0 ≤ R.cells ∧ slots + 1000 * 0 ≤ R.slots)
    intro T hT X
    obtain ⟨v, st₀, t, T', L, h0, X', hL, e1, e2, ⟨⟨r, h', hv, hq, hR'⟩, hF⟩, stp⟩ := run T hT X
    obtain ⟨q1, rfl⟩ := hq
    cases q1
    cases hv
    obtain ⟨f1, f2, f3⟩ := vx_keep h0 e1 hS (A1 := fr G2) (fun q h1 h2 => sub q h2) sub hL hF
    have hR2 : Rp G h T'.heap := by
      have q := hR.grow f1 (fun q hq => f2 q hq (fun z => absurd (show H.size ≤ q from by rw [← g3]; exact z) (by omega)))
      rw [← hz] at q; exact q
    obtain ⟨t2, a1, b1⟩ := kk p l e_ R s m args below meth c G N T'.heap (locs ++ L) (cells + 0) (slots + 1000 * 0) lsA C9 (by omega) (by omega) hR2 f3 hw T' rfl X'
    exact ⟨t2, stp t2 a1, b1⟩
  have z9 := t5.2.2.2.2.2.2.2.1
  rcases z9 with z9 | ⟨t, z9⟩
  · exact va_gets k1 k2 z9 hS k5 (t1 _ hf) (fun _ q => q) d0 (go .null .null (G.1, G.2.1, H.size, G.2.2.2) rfl rfl rfl rfl (fun _ _ => rfl) (ct_J3_checkIndexN _ _ _ h1 h2))
  · refine va_gets k1 k2 z9 hS k5 (t1 _ hf) (fun _ q => q) d0 (go (.ref t) (.ref 1030) (G.1, G.2.1, H.size, fun k => if k = 1030 then t else G.2.2.2 k) ?_ rfl rfl rfl (fun k hk => if_neg (by omega)) (ct_J3_checkIndexR _ _ _ h1 h2))
    show Value.ref (ad _ 1030) = _
    rw [ad_hi (by omega)]
    rfl
end PWU
set_option maxRecDepth 100000 in
set_option maxHeartbeats 4000000 in
theorem ct_J0_coder (h : Hp) (i : Nat) (hi : i < 4) : CT MJ0_coder_7d493 0 0 [.ref (1000 + i)] h (Det (.inl (some (.int 0))) h) := by
  refine ct_of (by decide +kernel) (by decide) rfl (k := 0) (ls := [some (.ref (1000 + i))]) rfl (Nat.le_of_ble_eq_true rfl) ?_
  refine pw_scomp (tk tkJ0_coder_7d493 0 rfl) fkJ0_38 ?_
  refine pw_if_eq (tgt := 13) (tk tkJ0_coder_7d493 1 rfl) (by decide) (fun c => absurd c (by decide)) (fun c => ?_)
  refine pw_aload_n (tk tkJ0_coder_7d493 2 rfl) rfl ?_
  refine pw_scod hi (tk tkJ0_coder_7d493 3 rfl) fkJ0_15 ?_
  refine pw_goto (tgt := 14) (tk tkJ0_coder_7d493 4 rfl) (by decide) ?_
  exact pw_ireturn (tk tkJ0_coder_7d493 6 rfl) rfl (by decide) rfl ⟨rfl, rfl⟩
theorem tlen_sh : ∀ i : Fin 4, nI (tlen.getD i.val 0) >>> ((0 : Int32) &&& 31) = nI (tlen.getD i.val 0) := by decide +kernel
set_option maxRecDepth 100000 in
set_option maxHeartbeats 4000000 in
theorem ct_J0_length (h : Hp) (i : Nat) (hi : i < 4) : CT MJ0_length_8abf5 1 0 [.ref (1000 + i)] h (Det (.inl (some (.int (nI (tlen.getD i 0))))) h) := by
  refine ct_of (by decide +kernel) (by decide) rfl (k := 0) (ls := [some (.ref (1000 + i))]) rfl (Nat.le_of_ble_eq_true rfl) ?_
  refine pw_aload_n (tk tkJ0_length_8abf5 0 rfl) rfl ?_
  refine pw_sval hi (tk tkJ0_length_8abf5 1 rfl) fkJ0_9 ?_
  refine pw_slen hi (tk tkJ0_length_8abf5 2 rfl) ?_
  refine pw_aload_n (tk tkJ0_length_8abf5 3 rfl) rfl ?_
  refine pw_callVS (o := .inl (some (.int 0))) hi (ct_J0_coder h i hi) rfl rfl okJ0_coder_7d493 (tk tkJ0_length_8abf5 4 rfl) mkJ0_335 imJ0_coder_7d493 seJ0_coder_7d493 rfl rfl (by decide) (by decide) (Nat.le_of_ble_eq_true rfl) ?_
  refine pw_ishr (tk tkJ0_length_8abf5 5 rfl) ?_
  exact pw_ireturn (tk tkJ0_length_8abf5 6 rfl) rfl (by decide) rfl ⟨by rw [tlen_sh ⟨i, hi⟩], rfl⟩
theorem tlen_e : ∀ i : Fin 4, (nI (tlen.getD i.val 0) = 0 → decide (i.val = 3) = true) ∧ (¬ nI (tlen.getD i.val 0) = 0 → decide (i.val = 3) = false) := by decide +kernel
set_option maxRecDepth 100000 in
set_option maxHeartbeats 4000000 in
theorem ct_J0_isEmpty (h : Hp) (i : Nat) (hi : i < 4) : CT MJ0_isEmpty_aae02 0 0 [.ref (1000 + i)] h (Det (.inl (some (.int (bI (decide (i = 3)))))) h) := by
  refine ct_of (by decide +kernel) (by decide) rfl (k := 0) (ls := [some (.ref (1000 + i))]) rfl (Nat.le_of_ble_eq_true rfl) ?_
  refine pw_aload_n (tk tkJ0_isEmpty_aae02 0 rfl) rfl ?_
  refine pw_sval hi (tk tkJ0_isEmpty_aae02 1 rfl) fkJ0_9 ?_
  refine pw_slen hi (tk tkJ0_isEmpty_aae02 2 rfl) ?_
  refine pw_if_ne (tgt := 12) (tk tkJ0_isEmpty_aae02 3 rfl) (by decide) (fun c => ?_) (fun c => ?_)
  · refine pw_iconst (v := 0) (tk tkJ0_isEmpty_aae02 6 rfl) (by decide) ?_
    exact pw_ireturn (tk tkJ0_isEmpty_aae02 7 rfl) rfl (by decide) rfl ⟨by rw [(tlen_e ⟨i, hi⟩).2 c]; rfl, rfl⟩
  · refine pw_iconst (v := 1) (tk tkJ0_isEmpty_aae02 4 rfl) (by decide) ?_
    refine pw_goto (tgt := 13) (tk tkJ0_isEmpty_aae02 5 rfl) (by decide) ?_
    exact pw_ireturn (tk tkJ0_isEmpty_aae02 7 rfl) rfl (by decide) rfl ⟨by rw [(tlen_e ⟨i, hi⟩).1 c]; rfl, rfl⟩
set_option maxRecDepth 100000 in
set_option maxHeartbeats 4000000 in
theorem ct_J0_isLatin1 (h : Hp) (i : Nat) (hi : i < 4) : CT MJ0_isLatin1_aae02 0 0 [.ref (1000 + i)] h (Det (.inl (some (.int 1))) h) := by
  refine ct_of (by decide +kernel) (by decide) rfl (k := 0) (ls := [some (.ref (1000 + i))]) rfl (Nat.le_of_ble_eq_true rfl) ?_
  refine pw_scomp (tk tkJ0_isLatin1_aae02 0 rfl) fkJ0_38 ?_
  refine pw_if_eq (tgt := 17) (tk tkJ0_isLatin1_aae02 1 rfl) (by decide) (fun c => absurd c (by decide)) (fun c => ?_)
  refine pw_aload_n (tk tkJ0_isLatin1_aae02 2 rfl) rfl ?_
  refine pw_scod hi (tk tkJ0_isLatin1_aae02 3 rfl) fkJ0_15 ?_
  refine pw_if_ne (tgt := 17) (tk tkJ0_isLatin1_aae02 4 rfl) (by decide) (fun c => (c rfl).elim) (fun c => ?_)
  refine pw_iconst (v := 1) (tk tkJ0_isLatin1_aae02 5 rfl) (by decide) ?_
  refine pw_goto (tgt := 18) (tk tkJ0_isLatin1_aae02 6 rfl) (by decide) ?_
  exact pw_ireturn (tk tkJ0_isLatin1_aae02 8 rfl) rfl (by decide) rfl ⟨rfl, rfl⟩
set_option maxRecDepth 100000 in
set_option maxHeartbeats 4000000 in
theorem ct_J0_checkIndex (x : XW) (i n0 : Int32) (h1 : ¬ i < 0) (h2 : i < n0) : CT MJ0_checkIndex_df160 1 0 [.int i, .int n0] (hp x) (Det (.inl none) (hp x)) := by
  refine ct_of (by decide +kernel) (by decide) rfl (k := 0) (ls := [some (.int i), some (.int n0)]) rfl (Nat.le_of_ble_eq_true rfl) ?_
  refine pw_iload_n (tk tkJ0_checkIndex_df160 0 rfl) rfl ?_
  refine pw_iload_n (tk tkJ0_checkIndex_df160 1 rfl) rfl ?_
  refine pw_sio rfl h1 h2 (tk tkJ0_checkIndex_df160 2 rfl) fkJ0_1053 (tk tkJ0_checkIndex_df160 3 rfl) mkJ0_1059 (by decide) (Nat.le_of_ble_eq_true rfl) ?_
  refine pw_pop (tk tkJ0_checkIndex_df160 4 rfl) rfl ?_
  exact pw_return (tk tkJ0_checkIndex_df160 5 rfl) rfl (by decide) ⟨rfl, rfl⟩
theorem tbyt_a : ∀ i : Fin 4, ∀ k : Fin 7, ((((tbyt.getD i.val []).getD k.val 0) &&& 255).toUInt32 % 65536).toInt32 = (tbyt.getD i.val []).getD k.val 0 := by decide +kernel
theorem tbyt_b : ∀ i : Fin 4, ∀ k : Fin 7, ∃ c : Fin 128, (tbyt.getD i.val []).getD k.val 0 = nI c.val := by decide +kernel
theorem tbyt_c (i : Fin 4) (k : Fin 7) : ((((tbyt.getD i.val []).getD k.val 0) &&& 255).toUInt32 % 65536).toInt32 = (tbyt.getD i.val []).getD k.val 0 ∧ narrow .char (.int ((tbyt.getD i.val []).getD k.val 0)) = .int ((tbyt.getD i.val []).getD k.val 0) := by
  refine ⟨tbyt_a i k, ?_⟩
  obtain ⟨c, ec⟩ := tbyt_b i k
  rw [ec]; exact (pk_charN (by have := c.isLt; omega)).1
theorem tlen_7 : ∀ i : Fin 4, tlen.getD i.val 0 ≤ 7 := by decide +kernel
set_option maxRecDepth 100000 in
set_option maxHeartbeats 4000000 in
theorem ct_J1_charAt (x : XW) (i k : Nat) (hi : i < 4) (hk : k < tlen.getD i 0) : CT MJ1_charAt_3b067 2 0 [.ref (1010 + i), .int (nI k)] (hp x) (Det (.inl (some (.int ((tbyt.getD i []).getD k 0)))) (hp x)) := by
  refine ct_of (by decide +kernel) (by decide) rfl (k := 0) (ls := [some (.ref (1010 + i)), some (.int (nI k))]) rfl (Nat.le_of_ble_eq_true rfl) ?_
  have h7 := tlen_7 ⟨i, hi⟩
  have h9 : k < 7 := Nat.lt_of_lt_of_le hk h7
  obtain ⟨e1, e2⟩ := tbyt_c ⟨i, hi⟩ ⟨k, h9⟩
  refine pw_iload_n (tk tkJ1_charAt_3b067 0 rfl) rfl ?_
  refine pw_aload_n (tk tkJ1_charAt_3b067 1 rfl) rfl ?_
  refine pw_slen hi (tk tkJ1_charAt_3b067 2 rfl) ?_
  refine pw_cS0 (ct_J0_checkIndex x (nI k) (nI (tlen.getD i 0)) (nI_pos (by omega)) (nI_lt hk (Nat.lt_of_le_of_lt h7 (by decide)))) okJ0_checkIndex_df160 (tk tkJ1_charAt_3b067 3 rfl) mkJ1_9 stJ0_checkIndex_df160 rfl rfl (by decide) (by decide) (Nat.le_of_ble_eq_true rfl) ?_
  refine pw_aload_n (tk tkJ1_charAt_3b067 4 rfl) rfl ?_
  refine pw_iload_n (tk tkJ1_charAt_3b067 5 rfl) rfl ?_
  refine pw_sbyt hi hk (by omega) (tk tkJ1_charAt_3b067 6 rfl) ?_
  refine pw_sipush (v := 255) (tk tkJ1_charAt_3b067 7 rfl) (by decide) ?_
  refine pw_iand (tk tkJ1_charAt_3b067 8 rfl) ?_
  refine pw_i2c (tk tkJ1_charAt_3b067 9 rfl) e1 ?_
  exact pw_ireturn (tk tkJ1_charAt_3b067 10 rfl) rfl (by decide) e2 ⟨rfl, rfl⟩
set_option maxRecDepth 100000 in
set_option maxHeartbeats 4000000 in
theorem ct_J0_charAt (x : XW) (i k : Nat) (hi : i < 4) (hk : k < tlen.getD i 0) : CT MJ0_charAt_5068e 3 0 [.ref (1000 + i), .int (nI k)] (hp x) (Det (.inl (some (.int ((tbyt.getD i []).getD k 0)))) (hp x)) := by
  refine ct_of (by decide +kernel) (by decide) rfl (k := 0) (ls := [some (.ref (1000 + i)), some (.int (nI k))]) rfl (Nat.le_of_ble_eq_true rfl) ?_
  have h7 := tlen_7 ⟨i, hi⟩
  have h9 : k < 7 := Nat.lt_of_lt_of_le hk h7
  obtain ⟨e1, e2⟩ := tbyt_c ⟨i, hi⟩ ⟨k, h9⟩
  refine pw_aload_n (tk tkJ0_charAt_5068e 0 rfl) rfl ?_
  refine pw_callVS (o := .inl (some (.int 1))) hi (ct_J0_isLatin1 (hp x) i hi) rfl rfl okJ0_isLatin1_aae02 (tk tkJ0_charAt_5068e 1 rfl) mkJ0_492 imJ0_isLatin1_aae02 seJ0_isLatin1_aae02 rfl rfl (by decide) (by decide) (Nat.le_of_ble_eq_true rfl) ?_
  refine pw_if_eq (tgt := 16) (tk tkJ0_charAt_5068e 2 rfl) (by decide) (fun c => absurd c (by decide)) (fun c => ?_)
  refine pw_aload_n (tk tkJ0_charAt_5068e 3 rfl) rfl ?_
  refine pw_sval hi (tk tkJ0_charAt_5068e 4 rfl) fkJ0_9 ?_
  refine pw_iload_n (tk tkJ0_charAt_5068e 5 rfl) rfl ?_
  refine pw_cS (ct_J1_charAt x i k hi hk) okJ1_charAt_3b067 (tk tkJ0_charAt_5068e 6 rfl) mkJ0_495 stJ1_charAt_3b067 rfl rfl (by decide) (by decide) (Nat.le_of_ble_eq_true rfl) ?_
  exact pw_ireturn (tk tkJ0_charAt_5068e 7 rfl) rfl (by decide) e2 ⟨rfl, rfl⟩
