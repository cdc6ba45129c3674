/-! ===== THE LAW FROM ITS BEGINNING: two objects, out, the loop ===== -/
theorem swG_z {G : PG} {z : Nat} {F : Nat → Option Cel} {H : Heap} (hG : LG G) (R : Rp G (some (161 + z), F) H) : Rp (swG G 161) (some z, swF F) H := by
  refine ⟨fun y hy => ?_, R.2.1, swG_cells (f := swF F) (by rw [swF_swF]; exact R.2.2.1), swG_inj R.2.2.2⟩
  cases hy
  have h1 : H.size = G.2.2.1 + G.2.2.2 5000 + (161 + z) := (R.1 _ rfl).1
  rw [hG.1] at h1
  refine ⟨?_, fun k hk => ?_⟩
  · rw [swG_5]
    show H.size = G.2.2.1 + 161 + z
    omega
  · rw [swG_lo G 161 (by omega), swG_5, hG.2 _ (swp_lt (by omega)), show swp k = k + 256 from if_pos hk]
    unfold layL
    rw [if_neg (by omega), if_pos ⟨by omega, by omega⟩, Nat.add_sub_cancel]
theorem swG_z2 {G : PG} {z : Nat} {F : Nat → Option Cel} {H : Heap} (hG : LG G) (R : Rp (swG G 161) (some z, F) H) : Rp G (some (161 + z), swF F) H := by
  refine ⟨fun y hy => ?_, R.2.1, swG_cells2 R.2.2.1, swG_inj2 R.2.2.2⟩
  cases hy
  have h1 : H.size = G.2.2.1 + (swG G 161).2.2.2 5000 + z := (R.1 _ rfl).1
  rw [swG_5] at h1
  refine ⟨by rw [hG.1]; omega, fun k hk => ?_⟩
  rw [hG.2 k (by omega), hG.1, Nat.zero_add]
  exact if_pos hk
theorem met_init2 (l : Launch) (hl : l.stackTraces = false) (G : PG) (hG : LG G) (f : FM) : Met l (mY MX7_init) (wsM MX7_init) (rmd 4 160) (PP G [.ref 416] (some 162, swF (ud f 160 (.inr (7, dF7))))) (PQ G (Det (.inl none) (some 322, swF (f7 f)))) 160 (1000 * 160) (fr G) := by
  have h9 := ct_X7_init f l hl (swG G 161)
  rw [if_pos (show mK MX7_init = 0 from rfl)] at h9
  refine met_mono h9 (fun a U q => ?_) (fun a s o t q => ?_)
  · obtain ⟨q1, q2, q3, q4, q5⟩ := q
    refine ⟨?_, ?_, q3, swG_OW q4, q5⟩
    · rw [q1]
      exact congrArg List.toArray (map_swG G 161 [.ref 160])
    · have w := swG_z (z := 1) hG q2
      rw [swF_swF] at w
      exact w
  · obtain ⟨⟨r, h', e1, ⟨e2, e3⟩, q2⟩, hF⟩ := q
    cases e2
    subst e3
    exact ⟨⟨none, _, e1, ⟨rfl, rfl⟩, swG_z2 (z := 161) hG q2⟩, hF⟩
theorem pw_init2 {M : Mth} {d n pc idx : Nat} {ls : List (Option Value)} {rest : List Value} {Q : Out → Hp → Prop} (f : FM) (hm : mK M = 2) (hd : decode (mC M) pc = .ok (.invokespecial idx, 3)) (hlk : Cond.methodLink (mY M).cls idx (mY MX7_init) ∈ UU) (hd' : 5 ≤ d) (hn : 160 ≤ n) (hr : (rest.map fun v => v.category).sum ≤ 8)
    (kk : PW M d (n - 160) (pc + 3) ls rest (some 322, swF (f7 f)) Q) : PW M d n pc ls (.ref 416 :: rest) (some 162, swF (ud f 160 (.inr (7, dF7)))) Q := by
  intro p l e_ R s m args below meth c G N H locs cells slots lsA C9 hc hs hR hS hw
  obtain ⟨⟨k1, k2, k3, k4, k5, k6⟩, t1, t2, t3, t4, t5, t6, ⟨r1, r2, r3, r4⟩, t8, t9⟩ := id C9
  have S : CallFix p m c (mC M) (mL M) s args UU (mY M).cls := ⟨k1, k2, k3, k5, t1⟩
  have cb := call_B (n' := 160) C9 okX7_init hlk hd'
  rw [show mR MX7_init = none from rfl] at cb
  have h9 := met_init2 l t8 G (t9 hm).2.1 f
  have hstk : (.ref 416 :: rest : List Value).map (cv G) = ([] : List Value).reverse ++ .ref (ad G 416) :: rest.map (cv G) := rfl
  have hsum : 2 * (F0 m pc lsA ((.ref 416 :: rest : List Value).map (cv G))).monitorRoom + ((rest.map (cv G)).map fun v => v.category).sum ≤ 8 := by
    rw [cats]
    show 2 * 0 + _ ≤ 8
    omega
  exact pw_after C9 hc hs hS hw hn (run_0 (va_runI S h9 ⟨cb, rfl, t1 _ imX7_init⟩ (pre_S (As := [.ref 416]) hR t4 t5 hS) rfl rfl hw.1 hstk hsum hd ⟨by omega, by omega⟩)) (fun r h' ⟨r2, e2, q⟩ => by cases e2; obtain ⟨q1, rfl⟩ := q; cases q1; exact kk) (fun E h' ⟨r2, e2, q⟩ => by cases e2)
theorem swF_ud (g : FM) : ud (f7 g) 416 (.inr (7, dF7)) = swF (ud (swF (f7 g)) 160 (.inr (7, dF7))) := by
  funext k
  by_cases e : k = 416
  · subst e
    rfl
  · have e2 : ¬ swp k = 160 := fun q => e (by rw [← swp_swp k, q]; rfl)
    show (if k = 416 then _ else f7 g k) = (if swp k = 160 then _ else (f7 g (swp (swp k))).map rn_c).map rn_c
    rw [if_neg e, if_neg e2, swp_swp]
    cases f7 g k with
    | none => rfl
    | some c => exact congrArg some (rn_cc c).symm
/-- all that is made before the loop: the world -/
theorem x0_weak {k : Nat} {c' : Cel} (hk : (hp x0).2 k = some c') : ∃ c, ud (swF (f7 (swF (f7 (fun _ => none))))) 171 (.inl (.int, 1, fun _ => .int 0)) k = some c ∧ cEq c c' := by
  by_cases e : k = 171
  · subst e
    have h9 : some (Sum.inl (FieldType.int, 1, iA (fun _ => 0))) = some c' := hk
    cases h9
    exact ⟨_, rfl, cEq.rf _⟩
  · rw [ud_o e]
    refine ⟨c', ?_, cEq.rf c'⟩
    by_cases h : k < 171
    · rw [hp_1 x0 h] at hk
      show (f7 (swF (f7 fun _ => none)) (swp k)).map rn_c = _
      rw [show swp k = k + 256 from if_pos h, show f7 (swF (f7 fun _ => none)) (k + 256) = swF (f7 fun _ => none) (k + 256) from if_neg (by omega)]
      show ((f7 (fun _ => none) (swp (k + 256))).map rn_c).map rn_c = _
      rw [show swp (k + 256) = k from by rw [← show swp k = k + 256 from if_pos h, swp_swp], show f7 (fun _ => none) k = clw w0 k from if_pos h, show clw w0 k = some c' from hk]
      exact congrArg some (rn_cc c')
    · by_cases h2 : 256 ≤ k ∧ k < 427
      · rw [hp_2 x0 h2.1 h2.2] at hk
        show (f7 (swF (f7 fun _ => none)) (swp k)).map rn_c = _
        rw [show swp k = k - 256 from (if_neg h).trans (if_pos h2), show f7 (swF (f7 fun _ => none)) (k - 256) = clw w0 (k - 256) from if_pos (by omega)]
        exact hk
      · rw [hp_4 x0 (by omega) h2] at hk
        cases hk
/-- the numbers of the start -/
def s0 : ST := fun k => if k = 24 then 3 else 0
def a0 : AM := (s0, (0, fun _ _ => 0), ((fun _ => false), fun _ _ => 0), (0, fun _ => 0))
theorem s0_0 {k : Nat} (h : k ≠ 24) : s0 k = 0 := if_neg h
theorem uN_s0 : uN s0 = 0 := by unfold uN; rw [s0_0 (by decide)]; rfl
theorem LM_s0 : LM s0 [] := ⟨by simp, s0_0 (by decide), fun k p hk => by simp at hk⟩
theorem RC_0 : RC a0 w0 := by
  refine ⟨⟨fun j hj => (s0_0 (by omega)).symm, fun j hj => (s0_0 (by omega)).symm, (show (0 : Int32) = s0 25 from (s0_0 (by decide)).symm), (show (3 : Int32) = s0 24 from rfl), (show (0 : Int32) = s0 98 from (s0_0 (by decide)).symm), fun i k hi _ => ?_, [], ?_, LM_s0⟩, ⟨0, by omega, rfl, rfl, Nat.zero_le _, fun i hi => absurd hi (Nat.not_lt_zero i)⟩, fun i hi => ⟨rfl, fun q => by cases q⟩, rfl, Nat.zero_le _, fun i hi => absurd hi (Nat.not_lt_zero i)⟩
  · have hi2 : i < uN s0 := hi
    rw [uN_s0] at hi2; omega
  · exact ⟨by simp, rfl, 0, by omega, rfl, fun k p hk => by simp at hk⟩
theorem VS_0 : VS 0 s0 := ⟨by omega, s0_0 (by decide), ⟨3, by omega, rfl⟩, ⟨0, by omega, s0_0 (by decide)⟩, fun j hj => .inl (s0_0 (by omega)), fun i hi => absurd hi (Nat.not_lt_zero i)⟩
theorem LV_0 : LV 0 a0 a0 := by
  have hv : VS (uN (aS a0)) (aS a0) := by rw [show uN (aS a0) = 0 from uN_s0]; exact VS_0
  have hg : HGA a0 := ⟨hv, fun i hi => absurd hi (Nat.not_lt_zero i), fun i hi q => by cases q⟩
  refine ⟨rfl, hg, hg, IV.of (u := 0) ⟨VS_0, fun r hr q => ?_, [], LM_s0, (fun p hp => nomatch hp), fun i hi => absurd hi (Nat.not_lt_zero i)⟩⟩
  have q2 : s0 r = 1 := q
  rw [s0_0 (by omega)] at q2
  exact absurd q2 (by decide)
theorem lay_160 : lay 160 = 0 := by decide +kernel
set_option maxRecDepth 100000 in
set_option maxHeartbeats 4000000 in
theorem law_all {nm : String} {hh : List (Nat × Nat × Nat × Nat)} : PW (ML9 nm hh) 40 7000 0 [some (.ref 1020), none, none, none, none, none, none, none, none, none] [] (some 0, fun _ => none) QL := by
  refine pw_new (z := 0) (k := 160) (fs := dF7) clX7 (tk tkL_law 0 rfl) (by omega) rfl (fun G hg _ => by rw [(hg rfl).2 160 (by omega), (hg rfl).1]; show layL 160 = 0 + 0; unfold layL; rw [if_pos (by omega), lay_160]) ckL_9 itX7 iiX7 dF7_ok (by decide) (by decide) ?_
  refine pw_dup (tk tkL_law 1 rfl) rfl ?_
  refine pw_cI0 (ct_X7_init (fun _ => none)) rfl okX7_init rfl rfl (tk tkL_law 2 rfl) mkL_128 imX7_init rfl rfl (by decide) (by decide) (Nat.le_of_ble_eq_true rfl) ?_
  refine pw_ast1 (tk tkL_law 3 rfl) rfl (show 1 < 10 by decide) ?_
  refine pw_new (z := 161) (k := 416) (fs := dF7) clX7 (tk tkL_law 4 rfl) (by omega) rfl (fun G hg _ => by rw [(hg rfl).2 416 (by omega), (hg rfl).1]; show layL 416 = 0 + 161; unfold layL; rw [if_neg (by omega), if_pos ⟨by omega, by omega⟩, show 416 - 256 = 160 from rfl, lay_160]) ckL_9 itX7 iiX7 dF7_ok (by decide) (by decide) ?_
  refine pw_dup (tk tkL_law 5 rfl) rfl ?_
  rw [show ((some (161 + 1), (upH (some 161, f7 fun _ => none) 416 (.inr (7, dF7))).2) : Hp) = (some 162, swF (ud (swF (f7 fun _ => none)) 160 (.inr (7, dF7)))) from congrArg (fun z => ((some 162, z) : Hp)) (swF_ud (fun _ => none))]
  refine pw_init2 (swF (f7 fun _ => none)) rfl (tk tkL_law 6 rfl) mkL_128 (by decide) (by decide) (Nat.le_of_ble_eq_true rfl) ?_
  refine pw_ast2 (tk tkL_law 7 rfl) rfl (show 2 < 10 by decide) ?_
  refine pw_iconst (v := 1) (tk tkL_law 8 rfl) (by decide) ?_
  refine pw_newarray (z := 322) (t0 := 0) (k := 171) (N := 1) (v0 := .int 0) (tk tkL_law 9 rfl) rfl rfl ra_int (by omega) rfl (fun G hg _ => by rw [(hg rfl).2 171 (by omega), (hg rfl).1]; show layL 171 = 0 + 322; unfold layL; rw [if_neg (by omega), if_neg (by omega), if_pos rfl]) ac_int (by decide) (by decide) (by decide) (by decide) (fun _ => rfl) (by decide) ?_
  refine pw_ast3 (tk tkL_law 10 rfl) rfl (show 3 < 10 by decide) ?_
  refine pw_iconst (v := 0) (tk tkL_law 11 rfl) (by decide) ?_
  refine pw_ist4 (tk tkL_law 12 rfl) rfl (show 4 < 10 by decide) ?_
  refine pw_weak (h' := hp x0) (Or.inl rfl) (fun k c' hk => x0_weak hk) ?_
  exact law_loop 64 0 a0 a0 0 x0 none none none none none _ rfl ⟨RC_0, RC_0, rfl⟩ LV_0 (by decide)
