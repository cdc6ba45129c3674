/-! ===== THE PURE MACHINE: a method's walk, told over cells that have logical addresses (k < 1000: made by the run, at B + lay k; the others lie below B and stay as they are) ===== -/
theorem tk {cc : ByteArray} {tb : List (Nat × Instr × Nat)} (h : ∀ e ∈ tb, decode cc e.1 = .ok e.2) (i : Nat) {pc : Nat} {ins : Instr} {n : Nat} (hi : tb[i]? = some (pc, ins, n)) : decode cc pc = .ok (ins, n) := by
  have h1 := h (pc, ins, n) (List.mem_of_getElem? hi)
  dsimp only at h1
  exact h1
def UU : List Cond := lw_tbl.filter goodWord
theorem UU_in (i : Nat) {w : Cond} (h : lw_tbl[i]? = some w) (g : goodWord w = true) : w ∈ UU := List.mem_filter.mpr ⟨List.mem_of_getElem? h, g⟩
theorem UU_good : GoodIn UU UU := fun w h => ⟨h, good_of_word (List.mem_filter.mp h).2⟩
def un_ok : Cond → Bool
  | .declares _ => true
  | .castable .. => true
  | .methodLinkNest .. => true
  | _ => false
def UN : List Cond := lw_tbl.filter un_ok
theorem UN_in (i : Nat) {w : Cond} (h : lw_tbl[i]? = some w) (g : un_ok w = true) : w ∈ UN := List.mem_filter.mpr ⟨List.mem_of_getElem? h, g⟩
def layT : List Nat := [1, 2, 3, 4, 5, 6, 7, 8, 9, 10, 11, 12, 13, 14, 15, 500, 17, 18, 19, 20, 21, 22, 23, 24, 25, 26, 27, 28, 29, 30, 31, 501, 39, 40, 41, 42, 43, 44, 45, 46, 47, 48, 49, 50, 51, 52, 53, 502, 54, 55, 56, 57, 58, 59, 60, 61, 62, 63, 64, 65, 66, 67, 68, 503, 69, 70, 71, 72, 73, 74, 75, 76, 77, 78, 79, 80, 81, 82, 83, 504, 84, 85, 86, 87, 88, 89, 90, 91, 92, 93, 94, 95, 96, 97, 98, 505, 99, 100, 101, 102, 103, 104, 105, 106, 107, 108, 109, 110, 111, 112, 113, 506, 114, 115, 116, 117, 118, 119, 120, 121, 122, 123, 124, 125, 126, 127, 128, 507, 131, 132, 133, 134, 135, 136, 137, 138, 139, 140, 141, 142, 143, 144, 145, 508, 146, 147, 148, 149, 150, 151, 152, 153, 154, 155, 156, 157, 158, 159, 160, 509, 0, 16, 32, 33, 34, 35, 36, 37, 38, 129, 130]
def lay (k : Nat) : Nat := layT.getD k 0
theorem lay_lt : ∀ i, i < 171 → layT.getD i 0 < 161 ∨ (500 ≤ layT.getD i 0 ∧ layT.getD i 0 < 510) := by decide +kernel
theorem lay_ne : ∀ i, i < 171 → ∀ j, j < 171 → layT.getD i 0 = layT.getD j 0 → i = j := by decide +kernel
/-- the other object's place -/
def swp (k : Nat) : Nat := if k < 171 then k + 256 else if 256 ≤ k ∧ k < 427 then k - 256 else k
theorem swp_swp (k : Nat) : swp (swp k) = k := by
  unfold swp
  by_cases h : k < 171
  · rw [if_pos h, if_neg (by omega), if_pos (by omega)]; omega
  · rw [if_neg h]
    by_cases h2 : 256 ≤ k ∧ k < 427
    · rw [if_pos h2, if_pos (by omega)]; omega
    · rw [if_neg h2, if_neg h, if_neg h2]
theorem swp_lt {k : Nat} (h : k < 1000) : swp k < 1000 := by unfold swp; split <;> (try split) <;> omega
/-- the law's places: one object, the other, out -/
def layL (k : Nat) : Nat := if k < 171 then lay k else if 256 ≤ k ∧ k < 427 then 161 + lay (k - 256) else if k = 171 then 322 else 2000 + k
theorem layL_inj {i j : Nat} (h : layL i = layL j) : i = j := by
  unfold layL lay at h
  by_cases a : i < 171
  · have a2 := lay_lt i a
    rw [if_pos a] at h
    by_cases b : j < 171
    · rw [if_pos b] at h; exact lay_ne i a j b h
    · rw [if_neg b] at h
      by_cases c : 256 ≤ j ∧ j < 427
      · have c2 := lay_lt (j - 256) (by omega)
        rw [if_pos c] at h; omega
      · rw [if_neg c] at h; split at h <;> omega
  · rw [if_neg a] at h
    by_cases c : 256 ≤ i ∧ i < 427
    · have c2 := lay_lt (i - 256) (by omega)
      rw [if_pos c] at h
      by_cases b : j < 171
      · have b2 := lay_lt j b
        rw [if_pos b] at h; omega
      · rw [if_neg b] at h
        by_cases e : 256 ≤ j ∧ j < 427
        · rw [if_pos e] at h
          have := lay_ne (i - 256) (by omega) (j - 256) (by omega) (by omega)
          omega
        · rw [if_neg e] at h; split at h <;> omega
    · rw [if_neg c] at h
      by_cases b : j < 171
      · have b2 := lay_lt j b
        rw [if_pos b] at h; split at h <;> omega
      · rw [if_neg b] at h
        by_cases e : 256 ≤ j ∧ j < 427
        · have e2 := lay_lt (j - 256) (by omega)
          rw [if_pos e] at h; split at h <;> omega
        · rw [if_neg e] at h; split at h <;> split at h <;> omega
/-- the machine's side of a run: classes' numbers and slots, array classes, the first address of its own, the cells' addresses (below 1000: places behind the first; 1020: the script; 5000: the place where the object in hand begins) -/
abbrev PG : Type := va_G × (FieldType → ClassId) × Nat × (Nat → Nat)
def ad (G : PG) (k : Nat) : Nat := if k < 1000 then G.2.2.1 + G.2.2.2 k else G.2.2.2 1020
theorem ad_lo {G : PG} {k : Nat} (h : k < 1000) : ad G k = G.2.2.1 + G.2.2.2 k := if_pos h
def LG (G : PG) : Prop := G.2.2.2 5000 = 0 ∧ ∀ k, k < 1000 → G.2.2.2 k = layL k
theorem ad_hi {G : PG} {k : Nat} (h : 1000 ≤ k) : ad G k = G.2.2.2 1020 := if_neg (by omega)
def cv (G : PG) : Value → Value
  | .ref k => .ref (ad G k)
  | .int x => .int x
  | .long x => .long x
  | .float x => .float x
  | .double x => .double x
  | .null => .null
  | .retAddr x => .retAddr x
theorem cv_cat (G : PG) (v : Value) : (cv G v).category = v.category := by cases v <;> rfl
abbrev Cel : Type := (FieldType × Nat × (Nat → Value)) ⊕ (Nat × (Nat → Value))
abbrev Hp : Type := Option Nat × (Nat → Option Cel)
abbrev Out : Type := Option Value ⊕ String
def upH (h : Hp) (k : Nat) (c : Cel) : Hp := (h.1, fun j => if j = k then some c else h.2 j)
theorem upH_same (h : Hp) (k : Nat) (c : Cel) : (upH h k c).2 k = some c := if_pos rfl
theorem upH_ne (h : Hp) {k j : Nat} (c : Cel) (n : j ≠ k) : (upH h k c).2 j = h.2 j := if_neg n
abbrev tyl : List FieldType := [.int, .boolean, .char, .int, .object "RowTriggers$Rule", .object "RowTriggers$State"]
def tys (G : PG) : List (ClassId × FieldType) := tyl.map fun t => (G.2.1 t, t)
def at_c (G : PG) (a : Nat) (c : Cel) (H : Heap) : Prop := match c with
  | .inl x => H[a]? = some (arrV (G.2.1 x.1) x.2.1 (fun j => cv G (x.2.2 j)))
  | .inr o => ∃ r : vw_C, vwCl[o.1]? = some r ∧ t_OB a (G.1.1 o.1) r.2.2 (G.1.2 o.1) H (fun k => cv G (o.2 k))
theorem at_c.kept {G : PG} {a : Nat} {c : Cel} {H H1 : Heap} (h : at_c G a c H) (hq : H1[a]? = H[a]?) : at_c G a c H1 := by
  cases c with
  | inl x => exact hq.trans h
  | inr o =>
    obtain ⟨r, h1, h2⟩ := h
    exact ⟨r, h1, h2.kept hq⟩
theorem at_c.lt {G : PG} {a : Nat} {c : Cel} {H : Heap} (h : at_c G a c H) : a < H.size := by
  cases c with
  | inl x => exact (Array.getElem?_eq_some_iff.mp h).1
  | inr o =>
    obtain ⟨r, h1, cell, h2, -⟩ := h
    exact (Array.getElem?_eq_some_iff.mp h2).1
/-- the heap H holds the cells h -/
def Rp (G : PG) (h : Hp) (H : Heap) : Prop := (∀ z, h.1 = some z → H.size = G.2.2.1 + G.2.2.2 5000 + z ∧ ∀ k, k < 171 → G.2.2.2 k = G.2.2.2 5000 + lay k) ∧ G.2.2.1 ≤ H.size ∧ (∀ k c, h.2 k = some c → k < 1000 ∧ at_c G (ad G k) c H) ∧ ∀ i j, i < 1000 → j < 1000 → G.2.2.2 i = G.2.2.2 j → i = j
/-- a cell is changed: the others stay -/
theorem Rp.put {G : PG} {h : Hp} {H H1 : Heap} (R : Rp G h H) {k : Nat} {c0 c : Cel} (h0 : h.2 k = some c0) (z : H1.size = H.size) (o : ∀ q : Nat, q ≠ ad G k → H1[q]? = H[q]?) (hc : at_c G (ad G k) c H1) : Rp G (upH h k c) H1 := by
  refine ⟨fun y hy => by rw [z]; exact R.1 y hy, by rw [z]; exact R.2.1, fun j cj hj => ?_, R.2.2.2⟩
  by_cases e : j = k
  · subst e
    rw [upH_same] at hj
    cases hj
    exact ⟨(R.2.2.1 _ _ h0).1, hc⟩
  · rw [upH_ne _ _ e] at hj
    obtain ⟨l1, l2⟩ := R.2.2.1 _ _ hj
    refine ⟨l1, l2.kept (o _ ?_)⟩
    have lk := (R.2.2.1 _ _ h0).1
    rw [ad_lo l1, ad_lo lk]
    intro q
    exact e (R.2.2.2 _ _ l1 lk (by omega))
/-- a cell is made, at the place that is next -/
theorem Rp.push {G : PG} {h : Hp} {H H1 : Heap} (R : Rp G h H) {k y : Nat} {c : Cel} (hk : k < 1000) (hz : h.1 = some y) (hL : G.2.2.2 k = G.2.2.2 5000 + y) (z : H1.size = H.size + 1) (o : ∀ q : Nat, q < H.size → H1[q]? = H[q]?) (hc : at_c G H.size c H1) : Rp G (some (y + 1), (upH h k c).2) H1 := by
  have e1 := (R.1 _ hz).1
  have ea : ad G k = H.size := by rw [ad_lo hk, e1]; omega
  refine ⟨fun y2 hy => by cases hy; exact ⟨by omega, (R.1 _ hz).2⟩, by omega, fun j cj hj => ?_, R.2.2.2⟩
  by_cases e : j = k
  · subst e
    rw [upH_same] at hj
    cases hj
    exact ⟨hk, by rw [ea]; exact hc⟩
  · rw [upH_ne _ _ e] at hj
    obtain ⟨l1, l2⟩ := R.2.2.1 _ _ hj
    exact ⟨l1, l2.kept (o _ l2.lt)⟩
theorem Rp.grow {G : PG} {h : Hp} {H H1 : Heap} (R : Rp G h H) (z : H.size ≤ H1.size) (o : ∀ q : Nat, q < H.size → H1[q]? = H[q]?) : Rp G (none, h.2) H1 :=
  ⟨fun _ hy => (nomatch hy), Nat.le_trans R.2.1 z, fun j cj hj => ⟨(R.2.2.1 _ _ hj).1, (R.2.2.1 _ _ hj).2.kept (o _ (R.2.2.1 _ _ hj).2.lt)⟩, R.2.2.2⟩
abbrev fr (G : PG) : Nat → Prop := fun q => G.2.2.1 ≤ q
def strs : List (Nat × String) := [(61, "event, column or least is out of range"), (72, "there are 8 rules"), (289, "there is no such rule"), (96, "action, row, column or amount is out of range"), (120, "depth is out of range"), (282, "there is no such row"), (287, "a value is out of range"), (162, "the row does not allow it, or the statement is refused"), (285, "there is no such column"), (176, "the row is not there"), (291, "the log has not so many acts"), (270, "no state is recorded")]
def ncs : List (String × String) := [("java/lang/IllegalArgumentException", "java/lang/IllegalStateException"), ("java/lang/IllegalArgumentException", "java/lang/IndexOutOfBoundsException"), ("java/lang/IllegalStateException", "java/lang/IllegalArgumentException"), ("java/lang/IllegalStateException", "java/lang/IndexOutOfBoundsException"), ("java/lang/IndexOutOfBoundsException", "java/lang/IllegalArgumentException"), ("java/lang/IndexOutOfBoundsException", "java/lang/IllegalStateException")]
/-- what of the old world a method may need; the law's script -/
def OW (G : PG) (U : State) : Prop :=
  (vx_Zq Bundle.tN "UNASSIGNED_STACK" Bundle.steD (fr G) U U.heap ∧ vx_Zq Bundle.tN "SUPPRESSED_SENTINEL" Bundle.listD (fr G) U U.heap) ∧
  (∀ q ∈ strs, ∃ sa, vk_R "RowTriggers" q.1 q.2 sa U) ∧ (∀ w ∈ UN, va_Nw w U) ∧ (∀ q ∈ ncs, va_Nc q.1 q.2 U) ∧
  (∃ xn xs, va_X (G.2.2.2 1020) xn xs U U.heap ∧ xn ≤ 260 ∧ G.2.2.2 1020 < G.2.2.1 ∧ G.2.2.2 1020 < U.heap.size) ∧ va_AO "RowTriggers$Rule" U ∧ va_AO "RowTriggers$State" U
theorem un_warm {w : Cond} (hg : un_ok w = true) {s U : State} (hW : s.WarmedH U.vm) (h : va_Nw w s) : va_Nw w U := by
  cases w <;> first | exact va_Nw.warmD hW h | exact va_Nw.warmC hW h | exact va_Nw.warmM hW h | cases hg
theorem OW.go {G : PG} {s U : State} {H : Heap} {locs : List Loc} (h : OW G s) (hS : va_S (fr G) s.heap H locs) (hH : U.heap = H) (hW : s.WarmedH U.vm) : OW G U := by
  subst hH
  obtain ⟨⟨a1, a2⟩, a3, a4, a5, ⟨xn, xs, a6, a7, a8, a9⟩, b1, b2⟩ := h
  exact ⟨⟨vx_Zq.moved hW.alike (a1.kept hS.2.1), vx_Zq.moved hW.alike (a2.kept hS.2.1)⟩, fun q hq => (a3 q hq).imp fun sa h => vk_R.warm hW h, fun w hw => un_warm (List.mem_filter.mp hw).2 hW (a4 w hw), fun q hq => va_Nc.moved hW.alike (a5 q hq),
    ⟨xn, xs, (a6.moved hW.alike).kept (hS.2.1 _ a9 (fun q => absurd a8 (Nat.not_lt.mpr q))), a7, a8, Nat.lt_of_lt_of_le a9 hS.1⟩, va_AO.moved hW.alike b1, va_AO.moved hW.alike b2⟩
/-- a method: name, code, locals, what it returns, its handlers, its kind (0: it returns; 1: it may throw; 2: the law), the law's script -/
abbrev Mth : Type := MethodName × ByteArray × Nat × Option FieldType × List (Nat × Nat × Nat × Nat) × Nat × Nat × (Nat → Int32)
abbrev mY (M : Mth) : MethodName := M.1
abbrev mC (M : Mth) : ByteArray := M.2.1
abbrev mL (M : Mth) : Nat := M.2.2.1
abbrev mR (M : Mth) : Option FieldType := M.2.2.2.1
abbrev mH (M : Mth) : List (Nat × Nat × Nat × Nat) := M.2.2.2.2.1
abbrev mK (M : Mth) : Nat := M.2.2.2.2.2.1
abbrev mN (M : Mth) : Nat := M.2.2.2.2.2.2.1
abbrev mX (M : Mth) : Nat → Int32 := M.2.2.2.2.2.2.2
def Cx (M : Mth) (d N : Nat) (Q : Out → Hp → Prop) (p : Program) (l : Launch) (R : Room) (s : State) (m : MethodId) (args : Array Value) (meth : Method) (c : Code) (G : PG) : Prop :=
  (p.tables.exec = Jvm.exec ∧ c.code = mC M ∧ c.maxLocals = mL M ∧ meth.sig.returnType = mR M ∧ s.vm.findClass (mY M).cls = some m.cls ∧ meth.name = (mY M).name) ∧
  (∀ w ∈ UU, w.before args s = true) ∧ meth.locks = false ∧ c.exceptionTable.toList = tableOf (mH M) ∧ va_K G.1 vwCl (tys G) s ∧ OW G s ∧ G.2.2.1 ≤ s.heap.size ∧ (d ≤ R.frames ∧ 64 * d ≤ R.locals ∧ N ≤ R.cells ∧ 1000 * N ≤ R.slots) ∧ l.stackTraces = false ∧
  (mK M = 2 → (∀ o h, Q o h → o = .inl (some (.int 1))) ∧ LG G ∧ G.2.2.1 = s.heap.size ∧ R = room_1 ∧ N ≤ 7000 ∧ ∃ b, args = #[.ref b])
def PQ (G : PG) (Q : Out → Hp → Prop) : Array Value → State → Outcome → State → Prop := fun _ st o t => (∃ (r : Option Value) (h' : Hp), o = .returned (r.map (cv G)) ∧ Q (.inl r) h' ∧ Rp G h' t.heap) ∧ va_F (fr G) st t
def PX (G : PG) (Q : Out → Hp → Prop) : String → State → State → Prop := fun E st t => (∃ h', Q (.inr E) h' ∧ Rp G h' t.heap) ∧ va_F (fr G) st t
def PZ (M : Mth) (N : Nat) (Q : Out → Hp → Prop) (below : List Frame) (args : Array Value) (s : State) (G : PG) : State → Prop :=
  if mK M = 0 then MQ below (PQ G Q) args s N (1000 * N) (fr G) else if mK M = 1 then vx_MQ below (PQ G Q) (PX G Q) args s N (1000 * N) (fr G) else lw_Z below args s
/-- locals: the known ones -/
def lvS (G : PG) (lsA : Array Slot) (L : Nat) (ls : List (Option Value)) : Prop := lsA.size = L ∧ lv_wf lsA ∧ ∀ (i : Nat) (v : Value), ls[i]? = some (some v) → lsA[i]? = some (.val (cv G v))
def PW (M : Mth) (d n pc : Nat) (ls : List (Option Value)) (st : List Value) (h : Hp) (Q : Out → Hp → Prop) : Prop :=
  ∀ (p : Program) (l : Launch) (e : Env) (R : Room) (s : State) (m : MethodId) (args : Array Value) (below : List Frame) (meth : Method) (c : Code) (G : PG) (N : Nat) (H : Heap) (locs : List Loc) (cells slots : Nat) (lsA : Array Slot),
    Cx M d N Q p l R s m args meth c G → cells + n ≤ N → slots + 1000 * n ≤ 1000 * N → Rp G h H → va_S (fr G) s.heap H locs → lvS G lsA (mL M) ls →
    W p l e R s m args below meth c H locs cells slots (PZ M N Q below args s G) (F0 m pc lsA (st.map (cv G)))
def rmd (d n : Nat) : Room := { frames := d, cells := n, slots := 1000 * n, locals := 64 * d }
def wsM (M : Mth) : List Cond := if mH M = [] then .code (mY M) (mC M) (mL M) (mR M) :: UU else .codeWith (mY M) (mC M) (mL M) (mR M) (mH M) :: UU
def PP (G : PG) (args : List Value) (h : Hp) : Array Value → State → Prop := va_Pc (args.map (cv G)) (fun U => Rp G h U.heap ∧ va_K G.1 vwCl (tys G) U ∧ OW G U ∧ G.2.2.1 ≤ U.heap.size)
/-- the contract of a method at these arguments and cells -/
def CT (M : Mth) (d n : Nat) (args : List Value) (h : Hp) (Q : Out → Hp → Prop) : Prop :=
  ∀ (l : Launch), l.stackTraces = false → ∀ G : PG,
    if mK M = 0 then Met l (mY M) (wsM M) (rmd d n) (PP G args h) (PQ G Q) n (1000 * n) (fr G)
    else vx_Met l (mY M) (wsM M) (rmd d n) (PP G args h) (PQ G Q) (PX G Q) n (1000 * n) (fr G)
theorem PP.blind {G : PG} {args : List Value} {h : Hp} : FrameBlind (PP G args h) := by
  intro a U g mk q
  obtain ⟨q1, q2, q3, q4, q5⟩ := q
  refine ⟨q1, q2, va_K.moved (u := U) (U := U.calling g mk a) (Vm.Alike.refl U.vm) q3, ?_, q5⟩
  exact OW.go (H := U.heap) (locs := []) q4 va_S.rf rfl (State.WarmedH.refl U)
/-- entry locals -/
def els : List Value → List (Option Value)
  | [] => []
  | .long x :: t => some (.long x) :: none :: els t
  | .double x :: t => some (.double x) :: none :: els t
  | v :: t => some v :: els t

theorem lvS.has {G : PG} {lsA : Array Slot} {L : Nat} {ls : List (Option Value)} (h : lvS G lsA L ls) : lv_has lsA L ((List.range ls.length).filterMap (fun j => (ls.getD j none).map (fun w => (j, cv G w)))) := by
  refine ⟨h.1, h.2.1, fun q hq => ?_⟩
  obtain ⟨j, -, hj⟩ := List.mem_filterMap.mp hq
  cases hg : ls.getD j none with
  | none => rw [hg] at hj; cases hj
  | some w =>
    rw [hg] at hj
    cases hj
    refine h.2.2 j w ?_
    rw [List.getD_eq_getElem?_getD] at hg
    cases hx : ls[j]? with
    | none => rw [hx] at hg; cases hg
    | some o => rw [hx] at hg; exact congrArg some hg
theorem lvS.mem {G : PG} {ls : List (Option Value)} {i : Nat} {v : Value} (h : ls[i]? = some (some v)) : (i, cv G v) ∈ (List.range ls.length).filterMap (fun j => (ls.getD j none).map (fun w => (j, cv G w))) := by
  refine List.mem_filterMap.mpr ⟨i, List.mem_range.mpr (List.getElem?_eq_some_iff.mp h).1, ?_⟩
  rw [List.getD_eq_getElem?_getD, h]
  rfl
def nlong : Option Value → Bool
  | some (.long _) => false
  | some (.double _) => false
  | _ => true
theorem nlong_cat {v : Value} (h : nlong (some v) = true) : v.category ≠ 2 := by
  cases v <;> first | (cases h; done) | (intro z; cases z)
theorem lvS.of1 {G : PG} {lsA : Array Slot} {L : Nat} {ls : List (Option Value)} {i : Nat} {v : Value} (hp : ∀ j, j + 1 = i → ∀ w, ls[j]? = some w → nlong w = true) (h : lv_has lsA L ((i, cv G v) :: ((List.range ls.length).filterMap (fun j => (ls.getD j none).map (fun w => (j, cv G w)))).filter (fun q => !(q.1 == i) && !(q.1 + 1 == i && q.2.category == 2)))) : lvS G lsA L (ls.set i (some v)) := by
  refine ⟨h.1, h.2.1, fun j w hj => ?_⟩
  by_cases e : j = i
  · subst e
    have hl : j < (ls.set j (some v)).length := (List.getElem?_eq_some_iff.mp hj).1
    rw [List.length_set] at hl
    rw [List.getElem?_set_self hl] at hj
    cases hj
    exact h.2.2 (j, cv G v) List.mem_cons_self
  · rw [List.getElem?_set_ne (Ne.symm e)] at hj
    refine h.2.2 (j, cv G w) (List.mem_cons_of_mem _ (List.mem_filter.mpr ⟨lvS.mem hj, ?_⟩))
    have e1 : (j == i) = false := beq_eq_false_iff_ne.mpr e
    show (!(j == i) && !(j + 1 == i && (cv G w).category == 2)) = true
    rw [e1, cv_cat]
    by_cases e2 : j + 1 = i
    · have := nlong_cat (hp j e2 _ hj)
      simp [this]
    · simp [e2]
theorem lvS.of2 {G : PG} {lsA : Array Slot} {L : Nat} {ls : List (Option Value)} {i : Nat} {x : Int64} (hp : ∀ j, j + 1 = i → ∀ w, ls[j]? = some w → nlong w = true) (h : lv_has lsA L ((i, Value.long x) :: ((List.range ls.length).filterMap (fun j => (ls.getD j none).map (fun w => (j, cv G w)))).filter (fun q => !(q.1 == i) && (!(q.1 == i + 1) && !(q.1 + 1 == i && q.2.category == 2))))) : lvS G lsA L ((ls.set i (some (.long x))).set (i + 1) none) := by
  refine ⟨h.1, h.2.1, fun j w hj => ?_⟩
  by_cases e9 : j = i + 1
  · subst e9
    have hl : i + 1 < ((ls.set i (some (.long x))).set (i + 1) none).length := (List.getElem?_eq_some_iff.mp hj).1
    rw [List.length_set] at hl
    rw [List.getElem?_set_self hl] at hj
    cases hj
  · rw [List.getElem?_set_ne (Ne.symm e9)] at hj
    by_cases e : j = i
    · subst e
      have hl : j < (ls.set j (some (.long x))).length := (List.getElem?_eq_some_iff.mp hj).1
      rw [List.length_set] at hl
      rw [List.getElem?_set_self hl] at hj
      cases hj
      exact h.2.2 (j, .long x) List.mem_cons_self
    · rw [List.getElem?_set_ne (Ne.symm e)] at hj
      refine h.2.2 (j, cv G w) (List.mem_cons_of_mem _ (List.mem_filter.mpr ⟨lvS.mem hj, ?_⟩))
      have e1 : (j == i) = false := beq_eq_false_iff_ne.mpr e
      have e3 : (j == i + 1) = false := beq_eq_false_iff_ne.mpr e9
      show (!(j == i) && (!(j == i + 1) && !(j + 1 == i && (cv G w).category == 2))) = true
      rw [e1, e3, cv_cat]
      by_cases e2 : j + 1 = i
      · have := nlong_cat (hp j e2 _ hj)
        simp [this]
      · simp [e2]
section PWR
variable {M : Mth} {d n pc : Nat} {ls : List (Option Value)} {st : List Value} {h : Hp} {Q : Out → Hp → Prop}
theorem pw_lift {pc' : Nat} {st' : List Value} (k : PW M d n pc' ls st' h Q) (stp : ∀ {p : Program} {l : Launch} {e : Env} {R : Room} {s : State} {m : MethodId} {args : Array Value} {below : List Frame} {meth : Method} {c : Code} {H : Heap} {locs : List Loc} {cells slots : Nat} {Z : State → Prop} {lsA : Array Slot} (G : PG), p.tables.exec = Jvm.exec → c.code = mC M → W p l e R s m args below meth c H locs cells slots Z (F0 m pc' lsA (st'.map (cv G))) → W p l e R s m args below meth c H locs cells slots Z (F0 m pc lsA (st.map (cv G)))) : PW M d n pc ls st h Q :=
  fun p l e R s m args below meth c G N H locs cells slots lsA C hc hs hR hS hl => stp G C.1.1 C.1.2.1 (k p l e R s m args below meth c G N H locs cells slots lsA C hc hs hR hS hl)
theorem pw_if2 {c : Prop} {pc1 pc2 : Nat} {st' : List Value} (kt : c → PW M d n pc1 ls st' h Q) (kf : ¬ c → PW M d n pc2 ls st' h Q) (stp : ∀ {p : Program} {l : Launch} {e : Env} {R : Room} {s : State} {m : MethodId} {args : Array Value} {below : List Frame} {meth : Method} {c9 : Code} {H : Heap} {locs : List Loc} {cells slots : Nat} {Z : State → Prop} {lsA : Array Slot} (G : PG), p.tables.exec = Jvm.exec → c9.code = mC M → (c → W p l e R s m args below meth c9 H locs cells slots Z (F0 m pc1 lsA (st'.map (cv G)))) → (¬ c → W p l e R s m args below meth c9 H locs cells slots Z (F0 m pc2 lsA (st'.map (cv G)))) → W p l e R s m args below meth c9 H locs cells slots Z (F0 m pc lsA (st.map (cv G)))) : PW M d n pc ls st h Q :=
  fun p l e R s m args below meth c G N H locs cells slots lsA C hc hs hR hS hl => stp G C.1.1 C.1.2.1 (fun z => kt z p l e R s m args below meth c G N H locs cells slots lsA C hc hs hR hS hl) (fun z => kf z p l e R s m args below meth c G N H locs cells slots lsA C hc hs hR hS hl)
/-- fewer locals are known -/
theorem pw_forget {ls' : List (Option Value)} (hl : ∀ (i : Nat) (v : Value), ls'[i]? = some (some v) → ls[i]? = some (some v)) (k : PW M d n pc ls' st h Q) : PW M d n pc ls st h Q :=
  fun p l e R s m args below meth c G N H locs cells slots lsA C hc hs hR hS hl' => k p l e R s m args below meth c G N H locs cells slots lsA C hc hs hR hS ⟨hl'.1, hl'.2.1, fun i v q => hl'.2.2 i v (hl i v q)⟩
theorem pw_conseq {Q' : Out → Hp → Prop} (hQ : ∀ o h, Q' o h → Q o h) (hM : mK M ≠ 2) (k : PW M d n pc ls st h Q') : PW M d n pc ls st h Q := by
  intro p l e R s m args below meth c G N H locs cells slots lsA C hc hs hR hS hl T hT X
  obtain ⟨c1, c2, c3, c4, c5, c6, c7, c8, c9, c10⟩ := C
  obtain ⟨t, a, b⟩ := k p l e R s m args below meth c G N H locs cells slots lsA ⟨c1, c2, c3, c4, c5, c6, c7, c8, c9, fun z => absurd z hM⟩ hc hs hR hS hl T hT X
  refine ⟨t, a, ?_⟩
  unfold PZ at b ⊢
  by_cases m0 : mK M = 0
  · rw [if_pos m0] at b ⊢
    obtain ⟨o, b1, b2, ⟨⟨r, h', b3, b4, b5⟩, b6⟩, b7⟩ := b
    exact ⟨o, b1, b2, ⟨⟨r, h', b3, hQ _ _ b4, b5⟩, b6⟩, b7⟩
  · rw [if_neg m0] at b ⊢
    by_cases m1 : mK M = 1
    · rw [if_pos m1] at b ⊢
      obtain ⟨o, b1, b2, b3⟩ := b
      refine ⟨o, b1, b2, ?_⟩
      rcases b3 with ⟨⟨⟨r, h', b3, b4, b5⟩, b6⟩, b7⟩ | ⟨q, b3, E, ce, L, ⟨⟨h', b4, b5⟩, b6⟩, b7⟩
      · exact Or.inl ⟨⟨⟨r, h', b3, hQ _ _ b4, b5⟩, b6⟩, b7⟩
      · exact Or.inr ⟨q, b3, E, ce, L, ⟨⟨h', hQ _ _ b4, b5⟩, b6⟩, b7⟩
    · rw [if_neg m1] at b ⊢
      exact b
theorem pw_iload_n {k : Fin 4} {x : Int32} (hd : decode (mC M) pc = .ok (.iload_n k, 1)) (hl : ls[(k : Nat)]? = some (some (.int x))) (kk : PW M d n (pc + 1) ls (.int x :: st) h Q) : PW M d n pc ls st h Q :=
  fun p l e R s m args below meth c G N H locs cells slots lsA C hc hs hR hS hv => lv_iload_n C.1.1 C.1.2.1 hd rfl (hv.2.2 _ _ hl) (kk p l e R s m args below meth c G N H locs cells slots lsA C hc hs hR hS hv)
theorem pw_iload {k : Nat} {x : Int32} (hd : decode (mC M) pc = .ok (.iload k, 2)) (hl : ls[k]? = some (some (.int x))) (kk : PW M d n (pc + 2) ls (.int x :: st) h Q) : PW M d n pc ls st h Q :=
  fun p l e R s m args below meth c G N H locs cells slots lsA C hc hs hR hS hv => lv_iload C.1.1 C.1.2.1 hd (hv.2.2 _ _ hl) (kk p l e R s m args below meth c G N H locs cells slots lsA C hc hs hR hS hv)
theorem pw_aload_n {k : Fin 4} {x : Nat} (hd : decode (mC M) pc = .ok (.aload_n k, 1)) (hl : ls[(k : Nat)]? = some (some (.ref x))) (kk : PW M d n (pc + 1) ls (.ref x :: st) h Q) : PW M d n pc ls st h Q :=
  fun p l e R s m args below meth c G N H locs cells slots lsA C hc hs hR hS hv => lv_aload_n C.1.1 C.1.2.1 hd rfl (hv.2.2 _ _ hl) (kk p l e R s m args below meth c G N H locs cells slots lsA C hc hs hR hS hv)
theorem pw_aload {k : Nat} {x : Nat} (hd : decode (mC M) pc = .ok (.aload k, 2)) (hl : ls[k]? = some (some (.ref x))) (kk : PW M d n (pc + 2) ls (.ref x :: st) h Q) : PW M d n pc ls st h Q :=
  fun p l e R s m args below meth c G N H locs cells slots lsA C hc hs hR hS hv => lv_aload C.1.1 C.1.2.1 hd (hv.2.2 _ _ hl) (kk p l e R s m args below meth c G N H locs cells slots lsA C hc hs hR hS hv)
theorem pw_lload_n {k : Fin 4} {x : Int64} (hd : decode (mC M) pc = .ok (.lload_n k, 1)) (hl : ls[(k : Nat)]? = some (some (.long x))) (kk : PW M d n (pc + 1) ls (.long x :: st) h Q) : PW M d n pc ls st h Q :=
  fun p l e R s m args below meth c G N H locs cells slots lsA C hc hs hR hS hv => lv_lload_n C.1.1 C.1.2.1 hd rfl (hv.2.2 _ _ hl) (kk p l e R s m args below meth c G N H locs cells slots lsA C hc hs hR hS hv)
theorem pw_lload {k : Nat} {x : Int64} (hd : decode (mC M) pc = .ok (.lload k, 2)) (hl : ls[k]? = some (some (.long x))) (kk : PW M d n (pc + 2) ls (.long x :: st) h Q) : PW M d n pc ls st h Q :=
  fun p l e R s m args below meth c G N H locs cells slots lsA C hc hs hR hS hv => lv_lload C.1.1 C.1.2.1 hd (hv.2.2 _ _ hl) (kk p l e R s m args below meth c G N H locs cells slots lsA C hc hs hR hS hv)
theorem pw_istore_n {k : Fin 4} {x : Int32} {ls1 : List (Option Value)} (hd : decode (mC M) pc = .ok (.istore_n k, 1)) (hp : ∀ j, j + 1 = (k : Nat) → ∀ w, ls[j]? = some w → nlong w = true) (hn : (k : Nat) < mL M) (e : ls.set (k : Nat) (some (.int x)) = ls1) (kk : PW M d n (pc + 1) ls1 st h Q) : PW M d n pc ls (.int x :: st) h Q := by
  subst e
  intro p l e R s m args below meth c G N H locs cells slots lsA C hc hs hR hS hv
  exact lv_istore_n C.1.1 C.1.2.1 hd rfl hv.has hn rfl (fun lsB hB => kk p l e R s m args below meth c G N H locs cells slots lsB C hc hs hR hS (lvS.of1 hp hB))
theorem pw_istore {k : Nat} {x : Int32} {ls1 : List (Option Value)} (hd : decode (mC M) pc = .ok (.istore k, 2)) (hp : ∀ j, j + 1 = k → ∀ w, ls[j]? = some w → nlong w = true) (hn : k < mL M) (e : ls.set k (some (.int x)) = ls1) (kk : PW M d n (pc + 2) ls1 st h Q) : PW M d n pc ls (.int x :: st) h Q := by
  subst e
  intro p l e R s m args below meth c G N H locs cells slots lsA C hc hs hR hS hv
  exact lv_istore C.1.1 C.1.2.1 hd hv.has hn rfl (fun lsB hB => kk p l e R s m args below meth c G N H locs cells slots lsB C hc hs hR hS (lvS.of1 hp hB))
theorem pw_astore_n {k : Fin 4} {x : Nat} {ls1 : List (Option Value)} (hd : decode (mC M) pc = .ok (.astore_n k, 1)) (hp : ∀ j, j + 1 = (k : Nat) → ∀ w, ls[j]? = some w → nlong w = true) (hn : (k : Nat) < mL M) (e : ls.set (k : Nat) (some (.ref x)) = ls1) (kk : PW M d n (pc + 1) ls1 st h Q) : PW M d n pc ls (.ref x :: st) h Q := by
  subst e
  intro p l e R s m args below meth c G N H locs cells slots lsA C hc hs hR hS hv
  exact lv_astore_n C.1.1 C.1.2.1 hd rfl hv.has hn rfl (fun lsB hB => kk p l e R s m args below meth c G N H locs cells slots lsB C hc hs hR hS (lvS.of1 hp hB))
theorem pw_astore {k : Nat} {x : Nat} {ls1 : List (Option Value)} (hd : decode (mC M) pc = .ok (.astore k, 2)) (hp : ∀ j, j + 1 = k → ∀ w, ls[j]? = some w → nlong w = true) (hn : k < mL M) (e : ls.set k (some (.ref x)) = ls1) (kk : PW M d n (pc + 2) ls1 st h Q) : PW M d n pc ls (.ref x :: st) h Q := by
  subst e
  intro p l e R s m args below meth c G N H locs cells slots lsA C hc hs hR hS hv
  exact lv_astore C.1.1 C.1.2.1 hd hv.has hn rfl (fun lsB hB => kk p l e R s m args below meth c G N H locs cells slots lsB C hc hs hR hS (lvS.of1 hp hB))
theorem pw_lstore_n {k : Fin 4} {x : Int64} {ls1 : List (Option Value)} (hd : decode (mC M) pc = .ok (.lstore_n k, 1)) (hp : ∀ j, j + 1 = (k : Nat) → ∀ w, ls[j]? = some w → nlong w = true) (hn : (k : Nat) + 1 < mL M) (e : (ls.set (k : Nat) (some (.long x))).set ((k : Nat) + 1) none = ls1) (kk : PW M d n (pc + 1) ls1 st h Q) : PW M d n pc ls (.long x :: st) h Q := by
  subst e
  intro p l e R s m args below meth c G N H locs cells slots lsA C hc hs hR hS hv
  exact lv_lstore_n C.1.1 C.1.2.1 hd rfl hv.has hn rfl (fun lsB hB => kk p l e R s m args below meth c G N H locs cells slots lsB C hc hs hR hS (lvS.of2 hp hB))
theorem pw_lstore {k : Nat} {x : Int64} {ls1 : List (Option Value)} (hd : decode (mC M) pc = .ok (.lstore k, 2)) (hp : ∀ j, j + 1 = k → ∀ w, ls[j]? = some w → nlong w = true) (hn : k + 1 < mL M) (e : (ls.set k (some (.long x))).set (k + 1) none = ls1) (kk : PW M d n (pc + 2) ls1 st h Q) : PW M d n pc ls (.long x :: st) h Q := by
  subst e
  intro p l e R s m args below meth c G N H locs cells slots lsA C hc hs hR hS hv
  exact lv_lstore C.1.1 C.1.2.1 hd hv.has hn rfl (fun lsB hB => kk p l e R s m args below meth c G N H locs cells slots lsB C hc hs hR hS (lvS.of2 hp hB))
theorem pw_iinc {i : Nat} {z : Int} {x v : Int32} {ls1 : List (Option Value)} (hd : decode (mC M) pc = .ok (.iinc i z, 3)) (hl : ls[i]? = some (some (.int x))) (hp : ∀ j, j + 1 = i → ∀ w, ls[j]? = some w → nlong w = true) (hn : i < mL M) (hv : x + Int32.ofInt z = v) (e : ls.set i (some (.int v)) = ls1) (kk : PW M d n (pc + 3) ls1 st h Q) : PW M d n pc ls st h Q := by
  subst e
  intro p l e R s m args below meth c G N H locs cells slots lsA C hc hs hR hS hw
  obtain ⟨j, hj⟩ := List.getElem?_of_mem (lvS.mem (G := G) hl)
  exact lv_iinc C.1.1 C.1.2.1 hd hw.has hj hv hn rfl (fun lsB hB => kk p l e R s m args below meth c G N H locs cells slots lsB C hc hs hR hS (lvS.of1 hp hB))
theorem pw_iconst {z : Int} {v : Int32} (hd : decode (mC M) pc = .ok (.iconst z, 1)) (hv : Int32.ofInt z = v) (k : PW M d n (pc + 1) ls (.int v :: st) h Q) : PW M d n pc ls (st) h Q := pw_lift k (fun G hx hb w => lv_iconst hx hb hd hv w)
theorem pw_bipush {z : Int} {v : Int32} (hd : decode (mC M) pc = .ok (.bipush z, 2)) (hv : (Int8.ofInt z).toInt32 = v) (k : PW M d n (pc + 2) ls (.int v :: st) h Q) : PW M d n pc ls (st) h Q := pw_lift k (fun G hx hb w => lv_bipush hx hb hd hv w)
theorem pw_sipush {z : Int} {v : Int32} (hd : decode (mC M) pc = .ok (.sipush z, 3)) (hv : (Int16.ofInt z).toInt32 = v) (k : PW M d n (pc + 3) ls (.int v :: st) h Q) : PW M d n pc ls (st) h Q := pw_lift k (fun G hx hb w => lv_sipush hx hb hd hv w)
theorem pw_lconst {z : Fin 2} {v : Int64} (hd : decode (mC M) pc = .ok (.lconst z, 1)) (hv : Int64.ofNat (z : Nat) = v) (k : PW M d n (pc + 1) ls (.long v :: st) h Q) : PW M d n pc ls (st) h Q := pw_lift k (fun G hx hb w => lv_lconst hx hb hd hv w)
theorem pw_iadd {x y : Int32} (hd : decode (mC M) pc = .ok (.iadd, 1)) (k : PW M d n (pc + 1) ls (.int (x + y) :: st) h Q) : PW M d n pc ls (.int y :: .int x :: st) h Q := pw_lift k (fun G hx hb w => lv_iadd hx hb hd w)
theorem pw_isub {x y : Int32} (hd : decode (mC M) pc = .ok (.isub, 1)) (k : PW M d n (pc + 1) ls (.int (x - y) :: st) h Q) : PW M d n pc ls (.int y :: .int x :: st) h Q := pw_lift k (fun G hx hb w => lv_isub hx hb hd w)
theorem pw_imul {x y : Int32} (hd : decode (mC M) pc = .ok (.imul, 1)) (k : PW M d n (pc + 1) ls (.int (x * y) :: st) h Q) : PW M d n pc ls (.int y :: .int x :: st) h Q := pw_lift k (fun G hx hb w => lv_imul hx hb hd w)
theorem pw_iand {x y : Int32} (hd : decode (mC M) pc = .ok (.iand, 1)) (k : PW M d n (pc + 1) ls (.int (x &&& y) :: st) h Q) : PW M d n pc ls (.int y :: .int x :: st) h Q := pw_lift k (fun G hx hb w => lv_iand hx hb hd w)
theorem pw_ior {x y : Int32} (hd : decode (mC M) pc = .ok (.ior, 1)) (k : PW M d n (pc + 1) ls (.int (x ||| y) :: st) h Q) : PW M d n pc ls (.int y :: .int x :: st) h Q := pw_lift k (fun G hx hb w => lv_ior hx hb hd w)
theorem pw_ixor {x y : Int32} (hd : decode (mC M) pc = .ok (.ixor, 1)) (k : PW M d n (pc + 1) ls (.int (x ^^^ y) :: st) h Q) : PW M d n pc ls (.int y :: .int x :: st) h Q := pw_lift k (fun G hx hb w => lv_ixor hx hb hd w)
theorem pw_ishl {x y : Int32} (hd : decode (mC M) pc = .ok (.ishl, 1)) (k : PW M d n (pc + 1) ls (.int (x <<< (y &&& 31)) :: st) h Q) : PW M d n pc ls (.int y :: .int x :: st) h Q := pw_lift k (fun G hx hb w => lv_ishl hx hb hd w)
theorem pw_ishr {x y : Int32} (hd : decode (mC M) pc = .ok (.ishr, 1)) (k : PW M d n (pc + 1) ls (.int (x >>> (y &&& 31)) :: st) h Q) : PW M d n pc ls (.int y :: .int x :: st) h Q := pw_lift k (fun G hx hb w => lv_ishr hx hb hd w)
theorem pw_irem {x y : Int32} (hd : decode (mC M) pc = .ok (.irem, 1)) (hne : ¬ y = 0) (k : PW M d n (pc + 1) ls (.int (x - x / y * y) :: st) h Q) : PW M d n pc ls (.int y :: .int x :: st) h Q := pw_lift k (fun G hx hb w => lv_irem hx hb hd hne w)
theorem pw_land {x y : Int64} (hd : decode (mC M) pc = .ok (.land, 1)) (k : PW M d n (pc + 1) ls (.long (x &&& y) :: st) h Q) : PW M d n pc ls (.long y :: .long x :: st) h Q := pw_lift k (fun G hx hb w => lv_land hx hb hd w)
theorem pw_lor {x y : Int64} (hd : decode (mC M) pc = .ok (.lor, 1)) (k : PW M d n (pc + 1) ls (.long (x ||| y) :: st) h Q) : PW M d n pc ls (.long y :: .long x :: st) h Q := pw_lift k (fun G hx hb w => lv_lor hx hb hd w)
theorem pw_lshl {x v : Int64} {y : Int32} (hd : decode (mC M) pc = .ok (.lshl, 1)) (hv : x <<< (y.toInt64 &&& 63) = v) (k : PW M d n (pc + 1) ls (.long v :: st) h Q) : PW M d n pc ls (.int y :: .long x :: st) h Q := pw_lift k (fun G hx hb w => lv_lshl hx hb hd hv w)
theorem pw_lshr {x v : Int64} {y : Int32} (hd : decode (mC M) pc = .ok (.lshr, 1)) (hv : x >>> (y.toInt64 &&& 63) = v) (k : PW M d n (pc + 1) ls (.long v :: st) h Q) : PW M d n pc ls (.int y :: .long x :: st) h Q := pw_lift k (fun G hx hb w => lv_lshr hx hb hd hv w)
theorem pw_lushr {x v : Int64} {y : Int32} (hd : decode (mC M) pc = .ok (.lushr, 1)) (hv : (x.toUInt64 >>> (y.toInt64.toUInt64 &&& Int64.toUInt64 63)).toInt64 = v) (k : PW M d n (pc + 1) ls (.long v :: st) h Q) : PW M d n pc ls (.int y :: .long x :: st) h Q := pw_lift k (fun G hx hb w => lv_lushr hx hb hd hv w)
theorem pw_i2l {x : Int32} {v : Int64} (hd : decode (mC M) pc = .ok (.i2l, 1)) (hv : x.toInt64 = v) (k : PW M d n (pc + 1) ls (.long v :: st) h Q) : PW M d n pc ls (.int x :: st) h Q := pw_lift k (fun G hx hb w => lv_i2l hx hb hd hv w)
theorem pw_l2i {x : Int64} {v : Int32} (hd : decode (mC M) pc = .ok (.l2i, 1)) (hv : x.toInt32 = v) (k : PW M d n (pc + 1) ls (.int v :: st) h Q) : PW M d n pc ls (.long x :: st) h Q := pw_lift k (fun G hx hb w => lv_l2i hx hb hd hv w)
theorem pw_i2c {x v : Int32} (hd : decode (mC M) pc = .ok (.i2c, 1)) (hv : (x.toUInt32 % 65536).toInt32 = v) (k : PW M d n (pc + 1) ls (.int v :: st) h Q) : PW M d n pc ls (.int x :: st) h Q := pw_lift k (fun G hx hb w => lv_i2c hx hb hd hv w)
theorem pw_lcmp {x y : Int64} (hd : decode (mC M) pc = .ok (.lcmp, 1)) (k : PW M d n (pc + 1) ls (.int (lg_cmp x y) :: st) h Q) : PW M d n pc ls (.long y :: .long x :: st) h Q := pw_lift k (fun G hx hb w => W.lcmp hx hb hd w)
theorem pw_dup {v : Value} (hd : decode (mC M) pc = .ok (.dup, 1)) (hv : v.category = 1) (k : PW M d n (pc + 1) ls (v :: v :: st) h Q) : PW M d n pc ls (v :: st) h Q := pw_lift k (fun G hx hb w => lv_dup hx hb hd (by rw [cv_cat]; exact hv) w)
theorem pw_dup2 {v u : Value} (hd : decode (mC M) pc = .ok (.dup2, 1)) (hv : v.category = 1) (hu : u.category = 1) (k : PW M d n (pc + 1) ls (v :: u :: v :: u :: st) h Q) : PW M d n pc ls (v :: u :: st) h Q := pw_lift k (fun G hx hb w => lv_dup2_11 hx hb hd (by rw [cv_cat]; exact hv) (by rw [cv_cat]; exact hu) w)
theorem pw_pop {v : Value} (hd : decode (mC M) pc = .ok (.pop, 1)) (hv : v.category = 1) (k : PW M d n (pc + 1) ls (st) h Q) : PW M d n pc ls (v :: st) h Q := pw_lift k (fun G hx hb w => lv_pop hx hb hd (by rw [cv_cat]; exact hv) w)
theorem pw_goto {off : Int} {tgt : Nat} (hd : decode (mC M) pc = .ok (.goto off, 3)) (ht : (pc : Int) + off = (tgt : Int)) (k : PW M d n tgt ls st h Q) : PW M d n pc ls st h Q := pw_lift k (fun G hx hb w => lv_goto hx hb hd ht w)
theorem pw_if_eq {x : Int32} {off : Int} {tgt : Nat} (hd : decode (mC M) pc = .ok (.ifCond .eq off, 3)) (ht : (pc : Int) + off = (tgt : Int)) (kt : x = 0 → PW M d n tgt ls st h Q) (kf : ¬ (x = 0) → PW M d n (pc + 3) ls st h Q) : PW M d n pc ls (.int x :: st) h Q := pw_if2 kt kf (fun G hx hb a b => lv_if_eq hx hb hd ht a b)
theorem pw_if_lt {x : Int32} {off : Int} {tgt : Nat} (hd : decode (mC M) pc = .ok (.ifCond .lt off, 3)) (ht : (pc : Int) + off = (tgt : Int)) (kt : x < 0 → PW M d n tgt ls st h Q) (kf : ¬ (x < 0) → PW M d n (pc + 3) ls st h Q) : PW M d n pc ls (.int x :: st) h Q := pw_if2 kt kf (fun G hx hb a b => lv_if_lt hx hb hd ht a b)
theorem pw_if_ge {x : Int32} {off : Int} {tgt : Nat} (hd : decode (mC M) pc = .ok (.ifCond .ge off, 3)) (ht : (pc : Int) + off = (tgt : Int)) (kt : 0 ≤ x → PW M d n tgt ls st h Q) (kf : ¬ (0 ≤ x) → PW M d n (pc + 3) ls st h Q) : PW M d n pc ls (.int x :: st) h Q := pw_if2 kt kf (fun G hx hb a b => lv_if_ge hx hb hd ht a b)
theorem pw_if_gt {x : Int32} {off : Int} {tgt : Nat} (hd : decode (mC M) pc = .ok (.ifCond .gt off, 3)) (ht : (pc : Int) + off = (tgt : Int)) (kt : 0 < x → PW M d n tgt ls st h Q) (kf : ¬ (0 < x) → PW M d n (pc + 3) ls st h Q) : PW M d n pc ls (.int x :: st) h Q := pw_if2 kt kf (fun G hx hb a b => lv_if_gt hx hb hd ht a b)
theorem pw_if_le {x : Int32} {off : Int} {tgt : Nat} (hd : decode (mC M) pc = .ok (.ifCond .le off, 3)) (ht : (pc : Int) + off = (tgt : Int)) (kt : x ≤ 0 → PW M d n tgt ls st h Q) (kf : ¬ (x ≤ 0) → PW M d n (pc + 3) ls st h Q) : PW M d n pc ls (.int x :: st) h Q := pw_if2 kt kf (fun G hx hb a b => lv_if_le hx hb hd ht a b)
theorem pw_icmp_eq {x y : Int32} {off : Int} {tgt : Nat} (hd : decode (mC M) pc = .ok (.if_icmp .eq off, 3)) (ht : (pc : Int) + off = (tgt : Int)) (kt : x = y → PW M d n tgt ls st h Q) (kf : ¬ (x = y) → PW M d n (pc + 3) ls st h Q) : PW M d n pc ls (.int y :: .int x :: st) h Q := pw_if2 kt kf (fun G hx hb a b => lv_icmp_eq hx hb hd ht a b)
theorem pw_icmp_lt {x y : Int32} {off : Int} {tgt : Nat} (hd : decode (mC M) pc = .ok (.if_icmp .lt off, 3)) (ht : (pc : Int) + off = (tgt : Int)) (kt : x < y → PW M d n tgt ls st h Q) (kf : ¬ (x < y) → PW M d n (pc + 3) ls st h Q) : PW M d n pc ls (.int y :: .int x :: st) h Q := pw_if2 kt kf (fun G hx hb a b => lv_icmp_lt hx hb hd ht a b)
theorem pw_icmp_ge {x y : Int32} {off : Int} {tgt : Nat} (hd : decode (mC M) pc = .ok (.if_icmp .ge off, 3)) (ht : (pc : Int) + off = (tgt : Int)) (kt : y ≤ x → PW M d n tgt ls st h Q) (kf : ¬ (y ≤ x) → PW M d n (pc + 3) ls st h Q) : PW M d n pc ls (.int y :: .int x :: st) h Q := pw_if2 kt kf (fun G hx hb a b => lv_icmp_ge hx hb hd ht a b)
theorem pw_icmp_gt {x y : Int32} {off : Int} {tgt : Nat} (hd : decode (mC M) pc = .ok (.if_icmp .gt off, 3)) (ht : (pc : Int) + off = (tgt : Int)) (kt : y < x → PW M d n tgt ls st h Q) (kf : ¬ (y < x) → PW M d n (pc + 3) ls st h Q) : PW M d n pc ls (.int y :: .int x :: st) h Q := pw_if2 kt kf (fun G hx hb a b => lv_icmp_gt hx hb hd ht a b)
theorem pw_icmp_le {x y : Int32} {off : Int} {tgt : Nat} (hd : decode (mC M) pc = .ok (.if_icmp .le off, 3)) (ht : (pc : Int) + off = (tgt : Int)) (kt : x ≤ y → PW M d n tgt ls st h Q) (kf : ¬ (x ≤ y) → PW M d n (pc + 3) ls st h Q) : PW M d n pc ls (.int y :: .int x :: st) h Q := pw_if2 kt kf (fun G hx hb a b => lv_icmp_le hx hb hd ht a b)
theorem pw_if_ne {x : Int32} {off : Int} {tgt : Nat} (hd : decode (mC M) pc = .ok (.ifCond .ne off, 3)) (ht : (pc : Int) + off = (tgt : Int)) (kt : ¬ x = 0 → PW M d n tgt ls st h Q) (kf : x = 0 → PW M d n (pc + 3) ls st h Q) : PW M d n pc ls (.int x :: st) h Q := pw_if2 (c := x = 0) kf kt (fun G hx hb a b => lv_if_ne hx hb hd ht b a)
theorem pw_icmp_ne {x y : Int32} {off : Int} {tgt : Nat} (hd : decode (mC M) pc = .ok (.if_icmp .ne off, 3)) (ht : (pc : Int) + off = (tgt : Int)) (kt : ¬ x = y → PW M d n tgt ls st h Q) (kf : x = y → PW M d n (pc + 3) ls st h Q) : PW M d n pc ls (.int y :: .int x :: st) h Q := pw_if2 (c := x = y) kf kt (fun G hx hb a b => lv_icmp_ne hx hb hd ht b a)
end PWR
