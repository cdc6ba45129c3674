/-! ===== THE START: what the Statement gives ===== -/
def TG1 : Cond := Jvm.Cond.and given_1 narrow_1
theorem gv_strs : ∀ q ∈ strs, Cond.exactly (.string "RowTriggers" q.1) "java/lang/String" ∈ flatC TG1 := by decide +kernel
theorem tb_strs : ∀ q ∈ strs, Cond.stringRef "RowTriggers" q.1 q.2 ∈ lw_tbl := by decide +kernel
theorem gv_ncs : ∀ q ∈ ncs, Cond.not (.castable q.1 q.2) ∈ flatC TG1 := by decide +kernel
theorem un_tabs {w : Cond} (h : un_ok w = true) : w.onTables = true := by
  cases w <;> first | rfl | cases h
theorem ke_cls {s : State} {args : Array Value} (hU : ∀ w ∈ UU, w.before args s = true) : ∀ k : Nat, ∃ c : ClassId × (Nat → Nat), ∀ q : vw_C, vwCl[k]? = some q → u_Kn s q.1 q.2.1 q.2.2 c.1 c.2 := fun k => match k with
  | 0 => by obtain ⟨cC, iS, h⟩ := u_known hU clX0.2.1 (hU _ itX0); exact ⟨(cC, iS), fun q hq => by cases hq; exact h⟩
  | 1 => by obtain ⟨cC, iS, h⟩ := u_known hU clX1.2.1 (hU _ itX1); exact ⟨(cC, iS), fun q hq => by cases hq; exact h⟩
  | 2 => by obtain ⟨cC, iS, h⟩ := u_known hU clX2.2.1 (hU _ itX2); exact ⟨(cC, iS), fun q hq => by cases hq; exact h⟩
  | 3 => by obtain ⟨cC, iS, h⟩ := u_known hU clX3.2.1 (hU _ itX3); exact ⟨(cC, iS), fun q hq => by cases hq; exact h⟩
  | 4 => by obtain ⟨cC, iS, h⟩ := u_known hU clX4.2.1 (hU _ itX4); exact ⟨(cC, iS), fun q hq => by cases hq; exact h⟩
  | 5 => by obtain ⟨cC, iS, h⟩ := u_known hU clX5.2.1 (hU _ itX5); exact ⟨(cC, iS), fun q hq => by cases hq; exact h⟩
  | 6 => by obtain ⟨cC, iS, h⟩ := u_known hU clX6.2.1 (hU _ itX6); exact ⟨(cC, iS), fun q hq => by cases hq; exact h⟩
  | 7 => by obtain ⟨cC, iS, h⟩ := u_known hU clX7.2.1 (hU _ itX7); exact ⟨(cC, iS), fun q hq => by cases hq; exact h⟩
  | k + 8 => ⟨(0, fun _ => 0), fun q hq => by
      rw [List.getElem?_eq_none (show vwCl.length ≤ k + 8 from Nat.le_add_left 8 k)] at hq
      cases hq⟩
theorem ke_prim {s : State} {args : Array Value} {t : FieldType} (h : (Cond.arrayClass t).before args s = true) (hr : ∀ c, s.vm.findClass ("[" ++ t.toString) = some c → va_RA s c t) : ∃ c, ArrOfT s c t ∧ va_RA s c t := by
  obtain ⟨c, k, comp, h1, h2, h3⟩ := Cond.arrayClass_spec (args := args) (first := s) (o := none) (s := s) (idx := []) h
  exact ⟨c, fun n z => ⟨fun k h => (by cases h), k, h2, comp, h3⟩, hr c h1⟩
theorem ke_obj {s : State} {args : Array Value} {C : String} (h : (Cond.arrayOver (.object C)).before args s = true) : ∃ c, ArrOfT s c (.object C) ∧ va_RA s c (.object C) := by
  obtain ⟨comp, c, k, h1, -, h2, h3, h4⟩ := Cond.arrayOver_spec (args := args) (first := s) (o := none) (s := s) (idx := []) h
  exact ⟨c, fun n z => ⟨fun k h => (by cases h), k, h2, comp, h3⟩, ⟨k, comp, h2, h3, h1, h4⟩⟩
theorem ke_arr {s : State} {args : Array Value} (hts : ∀ w ∈ lw_tbl, w.before args s = true) : ∀ t : FieldType, ∃ c : ClassId, t ∈ tyl → ArrOfT s c t ∧ va_RA s c t := by
  have hU : ∀ w ∈ UU, w.before args s = true := fun w hw => hts w (List.mem_filter.mp hw).1
  intro t
  by_cases ht : t ∈ tyl
  · have key : ∃ c, ArrOfT s c t ∧ va_RA s c t := by
      rcases List.mem_cons.mp ht with rfl | ht
      · exact ke_prim (hU _ ac_int) (fun c h => h)
      rcases List.mem_cons.mp ht with rfl | ht
      · exact ke_prim (hU _ ac_boolean) (fun c h => h)
      rcases List.mem_cons.mp ht with rfl | ht
      · exact ke_prim (hU _ ac_char) (fun c h => h)
      rcases List.mem_cons.mp ht with rfl | ht
      · exact ke_prim (hU _ ac_int) (fun c h => h)
      rcases List.mem_cons.mp ht with rfl | ht
      · exact ke_obj (hts (.arrayOver (.object "RowTriggers$Rule")) (by decide +kernel))
      rcases List.mem_cons.mp ht with rfl | ht
      · exact ke_obj (hts (.arrayOver (.object "RowTriggers$State")) (by decide +kernel))
      cases ht
    obtain ⟨c, h⟩ := key
    exact ⟨c, fun _ => h⟩
  · exact ⟨0, fun h => absurd h ht⟩
theorem ke_str {s : State} {args : Array Value} {t : Term} (h : (Cond.exactly t "java/lang/String").before args s = true) : ∃ a, t.eval args s none [] s = some (.ref a) := by
  obtain ⟨a, c, cA, kA, q1, -⟩ := Cond.exactly_spec (args := args) (first := s) (o := none) (s := s) (idx := []) (t := t) (cls := "java/lang/String") h
  exact ⟨a, q1⟩
theorem tableOf_all (t : List ExceptionTableEntry) : ∃ hh, t = tableOf hh := by
  refine ⟨t.map fun e => (e.startPc, e.endPc, e.handlerPc, e.catchType), ?_⟩
  unfold tableOf
  rw [List.map_map]
  conv => lhs; rw [← List.map_id t]
  exact List.map_congr_left fun e _ => rfl
set_option maxHeartbeats 4000000 in
theorem ke_OW {s : State} {args : Array Value} {G : PG} (hts : ∀ w ∈ lw_tbl, w.before args s = true) (hgv : TG1.before args s = true) (hz : G.2.2.1 = s.heap.size)
    (hx : ∃ xn xs, va_X (G.2.2.2 1020) xn xs s s.heap ∧ xn ≤ 260 ∧ G.2.2.2 1020 < G.2.2.1 ∧ G.2.2.2 1020 < s.heap.size) : OW G s := by
  have hfl := flat_of_before _ hgv
  have hA : ∀ a : Nat, a < s.heap.size → ¬ fr G a := fun a h q => by
    have q2 : G.2.2.1 ≤ a := q
    omega
  refine ⟨⟨?_, ?_⟩, fun q hq => ?_, fun w hw => ?_, fun q hq => ?_, hx, ?_, ?_⟩
  · exact vx_Zqof (hts (.laysStatic "java/lang/Throwable" "UNASSIGNED_STACK" "[Ljava/lang/StackTraceElement;") (by decide +kernel)) (hts (.initialized "java/lang/Throwable") (by decide +kernel)) (hfl (.isRef (.static "java/lang/Throwable" "UNASSIGNED_STACK" "[Ljava/lang/StackTraceElement;")) (by decide +kernel)) hA
  · exact vx_Zqof (hts (.laysStatic "java/lang/Throwable" "SUPPRESSED_SENTINEL" "Ljava/util/List;") (by decide +kernel)) (hts (.initialized "java/lang/Throwable") (by decide +kernel)) (hfl (.isRef (.static "java/lang/Throwable" "SUPPRESSED_SENTINEL" "Ljava/util/List;")) (by decide +kernel)) hA
  · obtain ⟨a, ha⟩ := ke_str (hfl _ (gv_strs q hq))
    exact ⟨a, vk_R.of (hts _ (tb_strs q hq)) ha⟩
  · obtain ⟨h1, h2⟩ := List.mem_filter.mp hw
    exact va_Nw.of (un_tabs h2) (hts w h1)
  · exact va_Nc.of (hfl _ (gv_ncs q hq))
  · exact va_AO.of (hts (.arrayOver (.object "RowTriggers$Rule")) (by decide +kernel))
  · exact va_AO.of (hts (.arrayOver (.object "RowTriggers$State")) (by decide +kernel))
