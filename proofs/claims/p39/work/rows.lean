section
-- ===== PART A: goes FIRST, ahead of the names: the tables' words, and 'selects' of the private methods out of them =====
/-- a private method of a class that the tables say can be made, by its rows of tables_1 -/
def lw_okq (q : MethodName × Nat) : Prop := (q.1.cls ≠ "java/lang/invoke/MethodHandle" ∧ q.1.cls ≠ "java/lang/invoke/VarHandle") ∧ Cond.instantiable q.1.cls q.2 ∈ tables_1 ∧ Cond.privateMethod q.1 ∈ tables_1 ∧ Cond.instanceMethod q.1 ∈ tables_1
theorem lw_p0 : lw_okq (⟨"java/lang/Throwable", "fillInStackTrace", "(I)Ljava/lang/Throwable;"⟩, 6) := ⟨⟨by decide +kernel, by decide +kernel⟩, List.mem_of_getElem? (i := 283) (by decide +kernel), List.mem_of_getElem? (i := 281) (by decide +kernel), List.mem_of_getElem? (i := 282) (by decide +kernel)⟩
theorem lw_p1 : lw_okq (⟨"RowTriggers", "checkRule", "(I)V"⟩, 7) := ⟨⟨by decide +kernel, by decide +kernel⟩, List.mem_of_getElem? (i := 18) (by decide +kernel), List.mem_of_getElem? (i := 402) (by decide +kernel), List.mem_of_getElem? (i := 403) (by decide +kernel)⟩
theorem lw_p2 : lw_okq (⟨"RowTriggers", "tryUpdate", "(III)V"⟩, 7) := ⟨⟨by decide +kernel, by decide +kernel⟩, List.mem_of_getElem? (i := 18) (by decide +kernel), List.mem_of_getElem? (i := 453) (by decide +kernel), List.mem_of_getElem? (i := 454) (by decide +kernel)⟩
theorem lw_p3 : lw_okq (⟨"RowTriggers$Statement", "begin", "(LRowTriggers$State;)V"⟩, 4) := ⟨⟨by decide +kernel, by decide +kernel⟩, List.mem_of_getElem? (i := 143) (by decide +kernel), List.mem_of_getElem? (i := 476) (by decide +kernel), List.mem_of_getElem? (i := 477) (by decide +kernel)⟩
theorem lw_p4 : lw_okq (⟨"RowTriggers$Statement", "happen", "(IIIII)V"⟩, 4) := ⟨⟨by decide +kernel, by decide +kernel⟩, List.mem_of_getElem? (i := 143) (by decide +kernel), List.mem_of_getElem? (i := 490) (by decide +kernel), List.mem_of_getElem? (i := 491) (by decide +kernel)⟩
theorem lw_p5 : lw_okq (⟨"RowTriggers$Statement", "matchingRules", "(IIII)I"⟩, 4) := ⟨⟨by decide +kernel, by decide +kernel⟩, List.mem_of_getElem? (i := 143) (by decide +kernel), List.mem_of_getElem? (i := 494) (by decide +kernel), List.mem_of_getElem? (i := 495) (by decide +kernel)⟩
theorem lw_p6 : lw_okq (⟨"RowTriggers$Statement", "hasRefusing", "(I)Z"⟩, 4) := ⟨⟨by decide +kernel, by decide +kernel⟩, List.mem_of_getElem? (i := 143) (by decide +kernel), List.mem_of_getElem? (i := 498) (by decide +kernel), List.mem_of_getElem? (i := 499) (by decide +kernel)⟩
theorem lw_p7 : lw_okq (⟨"RowTriggers$Statement", "alterTable", "(IIII)V"⟩, 4) := ⟨⟨by decide +kernel, by decide +kernel⟩, List.mem_of_getElem? (i := 143) (by decide +kernel), List.mem_of_getElem? (i := 502) (by decide +kernel), List.mem_of_getElem? (i := 503) (by decide +kernel)⟩
theorem lw_p8 : lw_okq (⟨"RowTriggers$Statement", "act", "(II)V"⟩, 4) := ⟨⟨by decide +kernel, by decide +kernel⟩, List.mem_of_getElem? (i := 143) (by decide +kernel), List.mem_of_getElem? (i := 509) (by decide +kernel), List.mem_of_getElem? (i := 510) (by decide +kernel)⟩
theorem lw_p9 : lw_okq (⟨"RowTriggers", "finishStatement", "()I"⟩, 7) := ⟨⟨by decide +kernel, by decide +kernel⟩, List.mem_of_getElem? (i := 18) (by decide +kernel), List.mem_of_getElem? (i := 515) (by decide +kernel), List.mem_of_getElem? (i := 516) (by decide +kernel)⟩
theorem lw_p10 : lw_okq (⟨"RowTriggers", "checkAgo", "(I)V"⟩, 7) := ⟨⟨by decide +kernel, by decide +kernel⟩, List.mem_of_getElem? (i := 18) (by decide +kernel), List.mem_of_getElem? (i := 610) (by decide +kernel), List.mem_of_getElem? (i := 611) (by decide +kernel)⟩
def lw_privs_1 : List (MethodName × Nat) := [(⟨"java/lang/Throwable", "fillInStackTrace", "(I)Ljava/lang/Throwable;"⟩, 6), (⟨"RowTriggers", "checkRule", "(I)V"⟩, 7), (⟨"RowTriggers", "tryUpdate", "(III)V"⟩, 7), (⟨"RowTriggers$Statement", "begin", "(LRowTriggers$State;)V"⟩, 4), (⟨"RowTriggers$Statement", "happen", "(IIIII)V"⟩, 4), (⟨"RowTriggers$Statement", "matchingRules", "(IIII)I"⟩, 4), (⟨"RowTriggers$Statement", "hasRefusing", "(I)Z"⟩, 4), (⟨"RowTriggers$Statement", "alterTable", "(IIII)V"⟩, 4), (⟨"RowTriggers$Statement", "act", "(II)V"⟩, 4), (⟨"RowTriggers", "finishStatement", "()I"⟩, 7), (⟨"RowTriggers", "checkAgo", "(I)V"⟩, 7)]
theorem lw_r1 : ∀ q ∈ lw_privs_1, lw_okq q := List.forall_mem_cons.mpr ⟨lw_p0, List.forall_mem_cons.mpr ⟨lw_p1, List.forall_mem_cons.mpr ⟨lw_p2, List.forall_mem_cons.mpr ⟨lw_p3, List.forall_mem_cons.mpr ⟨lw_p4, List.forall_mem_cons.mpr ⟨lw_p5, List.forall_mem_cons.mpr ⟨lw_p6, List.forall_mem_cons.mpr ⟨lw_p7, List.forall_mem_cons.mpr ⟨lw_p8, List.forall_mem_cons.mpr ⟨lw_p9, List.forall_mem_cons.mpr ⟨lw_p10, fun _ h => absurd h List.not_mem_nil⟩⟩⟩⟩⟩⟩⟩⟩⟩⟩⟩
def lw_privs : List (MethodName × Nat) := lw_privs_1
def lw_tbl : List Cond := k2_sels lw_privs ++ tables_1
theorem lw_privs_ok : ∀ q ∈ lw_privs, lw_okq q := lw_r1

/-! ===== BEGIN words of one list among another's, by their places ===== -/
theorem goodIn_r {big : List Cond} (ws : List Cond) (ps : List Nat) (hp : ws = ps.filterMap (fun i => big[i]?)) (h : ws.all goodWord = true) : GoodIn big ws := by
  intro w hw
  have h1 := List.all_eq_true.mp h w hw
  rw [hp] at hw
  obtain ⟨i, -, hi⟩ := List.mem_filterMap.mp hw
  have hm : w ∈ big := by first | exact List.mem_of_getElem? hi | exact List.getElem?_mem hi
  exact ⟨hm, good_of_word h1⟩
theorem goodIn_app {big a b : List Cond} (ha : GoodIn big a) (hb : GoodIn big b) : GoodIn big (a ++ b) := fun w h => (List.mem_append.mp h).elim (ha w) (hb w)
theorem goodIn_ca {big a b : List Cond} {c : Cond} (ha : GoodIn big (c :: a)) (hb : GoodIn big b) : GoodIn big (c :: (a ++ b)) := fun w h => (List.mem_cons.mp h).elim (fun e => ha w (List.mem_cons.mpr (Or.inl e))) (fun h => (List.mem_append.mp h).elim (fun h => ha w (List.mem_cons.mpr (Or.inr h))) (hb w))
theorem goodIn_sub {big ws : List Cond} (hm : ∀ w ∈ ws, w ∈ big) (h : ws.all goodWord = true) : GoodIn big ws := fun w hw => ⟨hm w hw, good_of_word (List.all_eq_true.mp h w hw)⟩
/-! ===== END ===== -/

/-! ===== BEGIN exceptions that leave a method, and their catching by the caller (launches without stack traces) ===== -/
section VXA
/-! The laws vx_back, vx_callV, vx_callS, vx_callSW, vx_throw0, vx_throwS follow proofs of the library, with one case more: JvmDerived/Free/Laws.lean (Back.of_free), Shelf42/LK1.lean (callV, callS), Shelf/KitTraced.lean (throwNew0V, throwNewS). -/
/-- where a method has thrown q: the class by its name, the cell, what was written, the world -/
def vx_T (XC : String → State → State → Prop) (st : State) (q : Addr) (t : State) (mc ms : Nat) (free : Addr → Prop) : Prop :=
  ∃ (E : String) (ce : Cell) (L : List Loc), XC E st t ∧ t.heap[q]? = some ce ∧ ce.vm = .none ∧ st.vm.findClass E = some ce.cls ∧ st.WarmedH t.vm ∧ st.sameButNew ({ t with vm := st.vm } : State) L mc ms ∧ ∀ z ∈ L, free z.base
def vx_Q (Qc : Array Value → State → Outcome → State → Prop) (XC : String → State → State → Prop) (mc ms : Nat) (free : Addr → Prop) : Array Value → State → Outcome → State → Prop := fun a st o t =>
  (Qc a st o t ∧ ∃ L, FrameEnd st o t L mc ms ∧ ∀ q ∈ L, free q.base) ∨ ∃ q, o = .threw q ∧ vx_T XC st q t mc ms free
/-- a callee that returns or throws -/
def vx_Met (l : Launch) (y : MethodName) (ws : List Cond) (rm : Room) (Pc : Array Value → State → Prop) (Qc : Array Value → State → Outcome → State → Prop) (XC : String → State → State → Prop) (mc ms : Nat) (free : Addr → Prop) : Prop :=
  MetFree l y (headSpec ws rm) Pc (fun _ _ _ _ _ => True) (vx_Q Qc XC mc ms free)
def vx_Post (XC : String → State → State → Prop) (mc ms : Nat) (free : Addr → Prop) : Pt → Array Value → Addr → Pt → Prop := fun A a q B =>
  ∃ (g : JFrame) (mk : MethodId) (t : State) (L : List Loc) (E : String) (ce : Cell), B.U.heap = t.heap ∧ B.U.vm = t.vm ∧ XC E (A.U.calling g mk a) t ∧ t.heap[q]? = some ce ∧ ce.vm = .none ∧ A.U.vm.findClass E = some ce.cls ∧ B.locs = A.locs ++ L ∧ (∀ z ∈ L, free z.base) ∧ B.cells = A.cells + mc ∧ B.slots = A.slots + ms
def vx_Back (l : Launch) (R : Room) (p : Program) (e : Env) (below : List Frame) (s : State) (sargs : Array Value) (y : MethodName) (len W9 : Nat)
    (Pre : Pt → Array Value → Prop) (Post : Pt → Array Value → Option Value → Pt → Prop) (PostX : Pt → Array Value → Addr → Pt → Prop) : Prop :=
  ∀ (m : MethodId) (meth : Method) (c : Code) (A : Pt) (g : JFrame) (ig : Instr) (mk : MethodId) (a : Array Value),
    Stand p l e R s m sargs below meth c A.U A.locs A.cells A.slots → g.method = m → g.locals.size = c.maxLocals → decode c.code g.pc = .ok (ig, len) →
    2 * g.monitorRoom + (g.stack.map fun v => v.category).sum ≤ W9 → A.U.methodNamed? y = some mk → Pre A a →
    (∃ (v : Option Value) (B : Pt), Stand p l e R s m sargs below meth c B.U B.locs B.cells B.slots ∧ Post A a v B ∧
      Steps p.tables e below (doInvoke e (A.U.setTop g) [] mk a).1 (B.U.setTop { g with pc := g.pc + len, stack := v.toList ++ g.stack })) ∨
    (∃ (q : Addr) (B : Pt), Stand p l e R s m sargs below meth c B.U B.locs B.cells B.slots ∧ PostX A a q B ∧
      Steps p.tables e below (doInvoke e (A.U.setTop g) [] mk a).1 ((B.U.setTop g).pushFrame (.throwing q)))
section Payer
variable {l : Launch} {R : Room} {p : Program} {e : Env} {below : List Frame} {s : State} {sargs : Array Value} {y : MethodName} {len W9 : Nat}
theorem vx_back {ws : List Cond} {rm : Room} {Pc : Array Value → State → Prop} {Qc : Array Value → State → Outcome → State → Prop} {XC : String → State → State → Prop} {mc ms : Nat} {free : Addr → Prop} {bytes : ByteArray} {maxL : Nat} {ret : Option FieldType}
    (hM : vx_Met l y ws rm Pc Qc XC mc ms free) (hblind : FrameBlind Pc) (hrc : rm.cells = mc) (hrs : rm.slots = ms)
    (hframes : rm.frames + 1 ≤ R.frames) (hlocals : W9 + (maxL + 11) + rm.locals ≤ R.locals)
    (hws : ∀ w ∈ ws, ∀ a' U, s.WarmedH U.vm → w.before a' U = true) (hcode : Cond.code y bytes maxL ret ∈ ws) (hinit : ∀ a' U, s.WarmedH U.vm → (Cond.initialized y.cls).before a' U = true) :
    vx_Back l R p e below s sargs y len W9 (PreOf R mc ms Pc) (PostOf Qc mc ms free) (vx_Post XC mc ms free) := by
  intro m meth c A g ig mk a X hg hsize hdg hW hn hp
  have h1 : (headSpec ws rm).pre.before a A.U = true := atoms_intro fun w hw => hws w hw _ _ X.warmed
  have h2 : (Cond.code y bytes maxL ret).before a A.U = true := hws _ hcode _ _ X.warmed
  have h3 : (Cond.initialized y.cls).before a A.U = true := hinit _ _ X.warmed
  have h4 : A.cells + (headSpec ws rm).room.cells ≤ R.cells := by rw [show (headSpec ws rm).room.cells = mc from hrc]; exact hp.1
  have h5 : A.slots + (headSpec ws rm).room.slots ≤ R.slots := by rw [show (headSpec ws rm).room.slots = ms from hrs]; exact hp.2.1
  have hPc : Pc a (A.U.calling g mk a) := hblind _ _ _ _ hp.2.2
  obtain ⟨U, Ls, c0, s0⟩ := A
  dsimp only [Pt.U, Pt.locs, Pt.cells, Pt.slots] at h1 h2 h3 h4 h5 X hn hPc ⊢
  obtain ⟨methY, cY, hmY, hcY, -, hlY, -, -, -, -⟩ := Cond.code_spec hn h2
  obtain ⟨kY, hkY, -⟩ := className_of_methodNamed hn
  have hinitY : kY.init = .initialized := Cond.initialized_spec (findClass_of_methodNamed hn) hkY h3
  have h : At U g.method c below := by rw [hg]; exact X.here
  have hlocals9 : W9 + (maxL + 11) + (headSpec ws rm).room.locals ≤ R.locals := hlocals
  have happ : (headSpec ws rm).appliesLoose y e.platform (U.calling g mk a) = true :=
    Spec.appliesLoose_calling (g := g) h hdg hn hkY hinitY
      (X.room_calling (g := g) (R' := (headSpec ws rm).room) hsize hmY hcY hframes (by rw [hlY]; omega) h4 h5) h1
  obtain ⟨mid, hmid⟩ := h.above
  have hfr : (U.setTop g).frames = (.java g :: mid) ++ below := by rw [State.frames_setTop' g h.top, hmid]; rfl
  obtain ⟨o, s₂, hsteps, -, hend, hq⟩ := Steps.callFree hM p X.admits X.cas X.clock (acts := []) hfr happ hPc trivial
  have hq' : vx_Q Qc XC mc ms free a (U.calling g mk a) o s₂ := hq
  rw [State.frames_setTop' g h.top] at hend
  obtain ⟨g₀, hg0⟩ := Option.isSome_iff_exists.mp h.top
  obtain ⟨r, hr⟩ := State.topJava?_eq_some.mp hg0
  have hr' : (({ U with heap := s₂.heap, slotsUsed := s₂.slotsUsed } : State).setVm s₂.vm).frames = .java g₀ :: r := hr
  rcases hq' with ⟨hqc, L, hfe, hL⟩ | ⟨q, rfl, E, ce, L, hx, hce, hcv, hcl, hW₂, hsm, hL⟩
  · obtain ⟨⟨v, rfl⟩, hW₂, e2, q2, q3, q4, q5, q6⟩ := id hfe
    have e3 : s₂ = ({ (U.calling g mk a).setFrames s₂.frames with heap := s₂.heap, slotsUsed := s₂.slotsUsed } : State).setVm s₂.vm := by
      have : s₂ = ({ s₂ with vm := (U.calling g mk a).vm } : State).setVm s₂.vm := rfl
      rw [e2] at this
      exact this
    obtain ⟨c₂, i₂, len₂, hc₂, hd₂, hf₂⟩ := hend
    have hW' : U.WarmedH s₂.vm := hW₂
    have hcc : c₂ = c := by
      have h1 : s₂.code? g.method = U.code? g.method := by
        rw [State.code?_eq, State.code?_eq, hW'.alike.method?]
      exact Option.some.inj (hc₂.symm.trans (h1.trans h.code))
    subst hcc
    have hlen : len₂ = len := by rw [hdg] at hd₂; cases hd₂; rfl
    subst hlen
    have hs₂ : s₂ = (({ U with heap := s₂.heap, slotsUsed := s₂.slotsUsed } : State).setVm s₂.vm).setTop { g with pc := g.pc + len₂, stack := v.toList ++ g.stack } := by
      refine e3.trans ?_
      rw [hf₂, State.calling_eq h.top, State.setFrames_setFrames, State.setTop_of_frames _ hr', hr]
      rfl
    have hsame : U.sameButNew ({ U with heap := s₂.heap, slotsUsed := s₂.slotsUsed } : State) L mc ms := by
      refine ⟨?_, q2, q3, q4, q5, q6⟩
      obtain ⟨t, ht, -⟩ := State.frames_cons hr
      show ({ U with heap := s₂.heap, slotsUsed := s₂.slotsUsed } : State) = { U.setFrames U.frames with heap := s₂.heap, slotsUsed := s₂.slotsUsed }
      rw [State.setFrames_self ht]
    subst hg
    refine Or.inl ⟨v, ⟨(({ U with heap := s₂.heap, slotsUsed := s₂.slotsUsed } : State).setVm s₂.vm), Ls ++ L, c0 + mc, s0 + ms⟩,
      ⟨X.admits, X.cas, X.clock, X.frames, X.room, X.hears, X.method, X.code, (X.here.setHeapUsed s₂.heap s₂.slotsUsed).setVm hW'.alike, X.tail, State.WarmedH.trans X.warmed hW', X.limits, X.bytes, X.same.trans (hsame.setVm s.vm)⟩,
      ⟨g, mk, s₂, L, rfl, rfl, hqc, rfl, hL, rfl, rfl⟩, ?_⟩
    show Steps p.tables e below _ ((({ U with heap := s₂.heap, slotsUsed := s₂.slotsUsed } : State).setVm s₂.vm).setTop { g with pc := g.pc + len₂, stack := v.toList ++ g.stack })
    rw [← hs₂]
    exact hsteps
  · obtain ⟨e2, q2, q3, q4, q5, q6⟩ := id hsm
    have e3 : s₂ = ({ (U.calling g mk a).setFrames s₂.frames with heap := s₂.heap, slotsUsed := s₂.slotsUsed } : State).setVm s₂.vm := by
      have : s₂ = ({ s₂ with vm := (U.calling g mk a).vm } : State).setVm s₂.vm := rfl
      rw [e2] at this
      exact this
    have hf₂ : s₂.frames = .throwing q :: .java g :: U.frames.tail := hend
    have hW' : U.WarmedH s₂.vm := hW₂
    have hs₂ : s₂ = ((({ U with heap := s₂.heap, slotsUsed := s₂.slotsUsed } : State).setVm s₂.vm).setTop g).pushFrame (.throwing q) := by
      refine e3.trans ?_
      rw [hf₂, State.calling_eq h.top, State.setFrames_setFrames, State.pushFrame, State.frames_setTop _ hr', State.setTop_of_frames _ hr', State.setFrames_setFrames, hr]
      rfl
    have hsame : U.sameButNew ({ U with heap := s₂.heap, slotsUsed := s₂.slotsUsed } : State) L mc ms := by
      refine ⟨?_, q2, q3, q4, q5, q6⟩
      obtain ⟨t, ht, -⟩ := State.frames_cons hr
      show ({ U with heap := s₂.heap, slotsUsed := s₂.slotsUsed } : State) = { U.setFrames U.frames with heap := s₂.heap, slotsUsed := s₂.slotsUsed }
      rw [State.setFrames_self ht]
    subst hg
    refine Or.inr ⟨q, ⟨(({ U with heap := s₂.heap, slotsUsed := s₂.slotsUsed } : State).setVm s₂.vm), Ls ++ L, c0 + mc, s0 + ms⟩,
      ⟨X.admits, X.cas, X.clock, X.frames, X.room, X.hears, X.method, X.code, (X.here.setHeapUsed s₂.heap s₂.slotsUsed).setVm hW'.alike, X.tail, State.WarmedH.trans X.warmed hW', X.limits, X.bytes, X.same.trans (hsame.setVm s.vm)⟩,
      ⟨g, mk, s₂, L, E, ce, rfl, rfl, hx, hce, hcv, hcl, rfl, hL, rfl, rfl⟩, ?_⟩
    show Steps p.tables e below _ (((({ U with heap := s₂.heap, slotsUsed := s₂.slotsUsed } : State).setVm s₂.vm).setTop g).pushFrame (.throwing q))
    rw [← hs₂]
    exact hsteps
end Payer
section Calls
variable {p : Program} {l : Launch} {e : Env} {R : Room} {s : State} {m : MethodId} {args : Array Value} {below : List Frame} {meth : Method} {c : Code} {T : State} {locs : List Loc} {cells slots : Nat}
theorem vx_callV (X : Stand p l e R s m args below meth c T locs cells slots) (hexec : p.tables.exec = Jvm.exec) {own C : String} {index : Nat} {y : MethodName} {bytes : ByteArray} {maxL : Nat} {ret : Option FieldType}
    (hown : s.vm.findClass own = some m.cls) (hlink : (Cond.methodLink own index y).before args s = true) (hinst : (Cond.instanceMethod y).before args s = true) (hsel : (Cond.selects C y y).before args s = true)
    (hcode : (Cond.code y bytes maxL ret).before args s = true) (hy : y.cls ≠ "java/lang/invoke/MethodHandle" ∧ y.cls ≠ "java/lang/invoke/VarHandle")
    {W9 : Nat} {Pre : Pt → Array Value → Prop} {Post : Pt → Array Value → Option Value → Pt → Prop} {PostX : Pt → Array Value → Addr → Pt → Prop} (hK : vx_Back l R p e below s args y 3 W9 Pre Post PostX)
    {b : Addr} {cellB : Cell} (hcell : T.heap[b]? = some cellB) (hobj : cellB.vm.isStatics = false) (hcls : s.vm.findClass C = some cellB.cls)
    {g : JFrame} (hg : g.method = m) (hsize : g.locals.size = c.maxLocals) {argsL rest : List Value} (hlen : ∀ sig, parseMethodDescriptor y.desc = some sig → argsL.length = sig.parameters.length)
    (hstack : g.stack = argsL.reverse ++ .ref b :: rest) (hW : 2 * g.monitorRoom + (rest.map fun v => v.category).sum ≤ W9) (hdg : decode c.code g.pc = .ok (.invokevirtual index, 3))
    (hpre : ∀ vm₁, s.WarmedH vm₁ → Pre ⟨T.setVm vm₁, locs, cells, slots⟩ (Value.ref b :: argsL).toArray) :
    (∃ (v : Option Value) (vm₁ : Vm) (B : Pt), s.WarmedH vm₁ ∧ Stand p l e R s m args below meth c B.U B.locs B.cells B.slots ∧ Post ⟨T.setVm vm₁, locs, cells, slots⟩ (Value.ref b :: argsL).toArray v B ∧
      ∀ target, Steps p.tables e below (B.U.setTop { g with pc := g.pc + 3, stack := v.toList ++ rest }) target → Steps p.tables e below (T.setTop g) target) ∨
    (∃ (q : Addr) (vm₁ : Vm) (B : Pt), s.WarmedH vm₁ ∧ Stand p l e R s m args below meth c B.U B.locs B.cells B.slots ∧ PostX ⟨T.setVm vm₁, locs, cells, slots⟩ (Value.ref b :: argsL).toArray q B ∧
      Steps p.tables e below (T.setTop g) ((B.U.setTop { g with stack := rest }).pushFrame (.throwing q))) := by
  obtain ⟨mk, methM, hnamed, hmethM, hstM, habM⟩ := Cond.instanceMethod_spec hinst
  obtain ⟨methM', cM, hmethM', -, -, -, -, -, -, hsigM⟩ := Cond.code_spec hnamed hcode
  cases hmethM.symm.trans hmethM'
  obtain ⟨c2, r2, m2, q1, q2, q3, q4, kP, hkP, hkPi⟩ := Cond.selects_spec hsel
  cases hcls.symm.trans q1
  cases (State.methodFound?_of_named hnamed hy).symm.trans q2
  cases hnamed.symm.trans q3
  have hselP : selectMethod e.platform s.vm cellB.cls mk = .method mk := by rw [Launch.admits_selectMethod X.admits]; exact q4
  obtain ⟨vm₁, X₁, hstep₁⟩ := X.invokevirtual hexec hown hlink hnamed hmethM hstM hkP hkPi hy (a := b) (cell := cellB) hcell
    (fun z h => by rw [h] at hobj; cases hobj) hselP hmethM habM hkP hkPi (g := g) hg (argsL := argsL) (rest := rest) (hlen _ hsigM) hstack hdg
  rcases hK m meth c ⟨T.setVm vm₁, locs, cells, slots⟩ { g with stack := rest } (.invokevirtual index) mk (Value.ref b :: argsL).toArray X₁ hg hsize hdg hW (X₁.named hnamed) (hpre vm₁ X₁.warmed) with ⟨v, B, X', hpost, hsteps⟩ | ⟨q, B, X', hpost, hsteps⟩
  · exact Or.inl ⟨v, vm₁, B, X₁.warmed, X', hpost, fun target h => hstep₁ _ fun acts => by rw [doInvoke_state]; exact hsteps.trans h⟩
  · exact Or.inr ⟨q, vm₁, B, X₁.warmed, X', hpost, hstep₁ _ fun acts => by rw [doInvoke_state]; exact hsteps⟩
theorem vx_callS (X : Stand p l e R s m args below meth c T locs cells slots) (hexec : p.tables.exec = Jvm.exec) {own : String} {index : Nat} {y : MethodName} {bytes : ByteArray} {maxL : Nat} {ret : Option FieldType}
    (hown : s.vm.findClass own = some m.cls) (hlink : (Cond.methodLink own index y).before args s = true) (hstat : (Cond.static y).before args s = true) (hinit : (Cond.initialized y.cls).before args s = true)
    (hcode : (Cond.code y bytes maxL ret).before args s = true) (hy : y.cls ≠ "java/lang/invoke/MethodHandle" ∧ y.cls ≠ "java/lang/invoke/VarHandle")
    {W9 : Nat} {Pre : Pt → Array Value → Prop} {Post : Pt → Array Value → Option Value → Pt → Prop} {PostX : Pt → Array Value → Addr → Pt → Prop} (hK : vx_Back l R p e below s args y 3 W9 Pre Post PostX)
    {g : JFrame} (hg : g.method = m) (hsize : g.locals.size = c.maxLocals) {argsL rest : List Value} (hlen : ∀ sig, parseMethodDescriptor y.desc = some sig → argsL.length = sig.parameters.length)
    (hstack : g.stack = argsL.reverse ++ rest) (hW : 2 * g.monitorRoom + (rest.map fun v => v.category).sum ≤ W9) (hdg : decode c.code g.pc = .ok (.invokestatic index, 3))
    (hpre : ∀ vm₁, s.WarmedH vm₁ → Pre ⟨T.setVm vm₁, locs, cells, slots⟩ argsL.toArray) :
    (∃ (v : Option Value) (vm₁ : Vm) (B : Pt), s.WarmedH vm₁ ∧ Stand p l e R s m args below meth c B.U B.locs B.cells B.slots ∧ Post ⟨T.setVm vm₁, locs, cells, slots⟩ argsL.toArray v B ∧
      ∀ target, Steps p.tables e below (B.U.setTop { g with pc := g.pc + 3, stack := v.toList ++ rest }) target → Steps p.tables e below (T.setTop g) target) ∨
    (∃ (q : Addr) (vm₁ : Vm) (B : Pt), s.WarmedH vm₁ ∧ Stand p l e R s m args below meth c B.U B.locs B.cells B.slots ∧ PostX ⟨T.setVm vm₁, locs, cells, slots⟩ argsL.toArray q B ∧
      Steps p.tables e below (T.setTop g) ((B.U.setTop { g with stack := rest }).pushFrame (.throwing q))) := by
  obtain ⟨mk, hnamed⟩ := Cond.code_named hcode
  obtain ⟨methM, cM, hmethM, -, -, -, -, -, -, hsigM⟩ := Cond.code_spec hnamed hcode
  have hstatic : methM.isStatic = true := Cond.static_spec hnamed hmethM hstat
  obtain ⟨kP, hkP, -⟩ := className_of_methodNamed hnamed
  have hinitP : kP.init = .initialized := Cond.initialized_spec (findClass_of_methodNamed hnamed) hkP hinit
  obtain ⟨vm₁, X₁, hstep₁⟩ := X.invokestatic hexec hown hlink hnamed hmethM hstatic hkP hinitP hy (g := g) hg (argsL := argsL) (rest := rest) (hlen _ hsigM) hstack hdg
  rcases hK m meth c ⟨T.setVm vm₁, locs, cells, slots⟩ { g with stack := rest } (.invokestatic index) mk argsL.toArray X₁ hg hsize hdg hW (X₁.named hnamed) (hpre vm₁ X₁.warmed) with ⟨v, B, X', hpost, hsteps⟩ | ⟨q, B, X', hpost, hsteps⟩
  · exact Or.inl ⟨v, vm₁, B, X₁.warmed, X', hpost, fun target h => hstep₁ _ fun acts => by rw [doInvoke_state]; exact hsteps.trans h⟩
  · exact Or.inr ⟨q, vm₁, B, X₁.warmed, X', hpost, hstep₁ _ fun acts => by rw [doInvoke_state]; exact hsteps⟩
end Calls
theorem vx_cls {s : State} {T : State} {vm₁ : Vm} {E : String} {k : ClassId} (hW : s.WarmedH vm₁) (h : (T.setVm vm₁).vm.findClass E = some k) : s.vm.findClass E = some k := by
  have h1 : vm₁.findClass E = some k := h
  rw [hW.alike.findClass] at h1
  exact h1
/-- the method's frame g, with q thrown over it -/
def vx_W (p : Program) (l : Launch) (e : Env) (R : Room) (s : State) (m : MethodId) (args : Array Value) (below : List Frame) (meth : Method) (c : Code) (H : Heap) (locs : List Loc) (cells slots : Nat) (Q : State → Prop) (g : JFrame) (q : Addr) : Prop :=
  ∀ T : State, T.heap = H → Stand p l e R s m args below meth c T locs cells slots → ∃ t, Steps p.tables e below ((T.setTop g).pushFrame (.throwing q)) t ∧ Q t
def vx_Run (p : Program) (l : Launch) (e : Env) (R : Room) (s : State) (m : MethodId) (args : Array Value) (below : List Frame) (meth : Method) (c : Code) (H : Heap) (locs : List Loc) (cells slots mc ms : Nat) (g : JFrame) (rest : List Value) (Qa : State → Outcome → State → Prop) (XC : String → State → State → Prop) (free : Addr → Prop) : Prop :=
  ∀ T : State, T.heap = H → Stand p l e R s m args below meth c T locs cells slots →
    (∃ (v : Option Value) (st₀ t T' : State) (L : List Loc), st₀.heap = H ∧ Stand p l e R s m args below meth c T' (locs ++ L) (cells + mc) (slots + ms) ∧ (∀ q ∈ L, free q.base) ∧ T'.heap = t.heap ∧ T'.vm = t.vm ∧ Qa st₀ (.returned v) t ∧
      Goes p e below T g T' { g with pc := g.pc + 3, stack := v.toList ++ rest }) ∨
    (∃ (q : Addr) (st₀ t T' : State) (L : List Loc) (E : String) (ce : Cell), st₀.heap = H ∧ Stand p l e R s m args below meth c T' (locs ++ L) (cells + mc) (slots + ms) ∧ (∀ z ∈ L, free z.base) ∧ T'.heap = t.heap ∧ T'.vm = t.vm ∧ XC E st₀ t ∧ t.heap[q]? = some ce ∧ ce.vm = .none ∧ s.vm.findClass E = some ce.cls ∧
      Steps p.tables e below (T.setTop g) ((T'.setTop { g with stack := rest }).pushFrame (.throwing q)))
def vx_X {S : Type} (px : S → Prop) (B : String → S → State → Prop) (A : Nat → Prop) : String → State → State → Prop := fun E st t => ∃ u : S, px u ∧ B E u t ∧ va_F A st t
section Runs
variable {p : Program} {l : Launch} {e : Env} {R : Room} {s : State} {m : MethodId} {args : Array Value} {below : List Frame} {meth : Method} {c : Code} {H : Heap} {locs : List Loc} {cells slots : Nat}
variable {y : MethodName} {bytes cc : ByteArray} {maxL nL mc ms n index : Nat} {ret : Option FieldType} {ws : List Cond} {rm : Room} {Pc : Array Value → State → Prop} {Qc : Array Value → State → Outcome → State → Prop} {XC : String → State → State → Prop} {free : Addr → Prop} {Ts : List Cond} {own C : String} {b : Addr} {As rest : List Value} {g : JFrame}
theorem vx_callBack (cb : CallB R s args own index y bytes maxL ret ws rm mc ms n) (hM : vx_Met l y ws rm Pc Qc XC mc ms free) (hbl : FrameBlind Pc) : vx_Back l R p e below s args y 3 8 (PreOf R mc ms Pc) (PostOf Qc mc ms free) (vx_Post XC mc ms free) := by
  obtain ⟨hrc, hrs, hfr, hlo, hws, hcw, -, hini, -⟩ := cb
  exact vx_back (bytes := bytes) (maxL := maxL) (ret := ret) hM hbl hrc hrs hfr hlo hws hcw (fun a' U hW => word_at hW (Or.inl (by first | rfl | simp [Cond.onTables, Cond.keeps, Cond.steady])) hini)
theorem vx_runV (S : CallFix p m c cc nL s args Ts own) (hM : vx_Met l y ws rm Pc Qc XC mc ms free) (cw : CallW R s args own C index y bytes maxL ret ws rm mc ms n) (hp : PreV s H C b Pc As)
    (hg : g.method = m) (hn : As.length = n) (hsize : g.locals.size = nL) (hstack : g.stack = As.reverse ++ .ref b :: rest) (hW : 2 * g.monitorRoom + (rest.map fun v => v.category).sum ≤ 8) (hdg : decode cc g.pc = .ok (.invokevirtual index, 3)) (hf : cells + mc ≤ R.cells ∧ slots + ms ≤ R.slots) :
    vx_Run p l e R s m args below meth c H locs cells slots mc ms g rest (Qc (Value.ref b :: As).toArray) XC free := by
  have hK : vx_Back l R p e below s args y 3 8 (PreOf R mc ms Pc) (PostOf Qc mc ms free) (vx_Post XC mc ms free) := vx_callBack cw.1 hM hp.1
  obtain ⟨⟨-, -, -, -, -, -, hcode, -, hy, hlen, hl⟩, hin, hse⟩ := cw
  obtain ⟨hx, hb, hml, ho, -⟩ := S
  obtain ⟨-, ⟨cellB, hcB, hoB, hclB⟩, hPc⟩ := hp
  intro T hT X
  rcases vx_callV X hx (C := C) (bytes := bytes) (maxL := maxL) (ret := ret) ho hl hin hse hcode hy hK (by rw [hT]; exact hcB) hoB hclB hg (hsize.trans hml.symm) (argsL := As) (rest := rest) (fun sig h => hn.trans (hlen sig h)) hstack hW (by rw [hb]; exact hdg)
    (fun vm₁ hW₁ => ⟨hf.1, hf.2, hPc (T.setVm vm₁) hT hW₁⟩) with ⟨v, vm₁, ⟨U', l2, c2, s2⟩, hW₁, X', ⟨g', mk, t, L, e1, e2, hq, h1, hL, h2, h3⟩, st⟩ | ⟨q, vm₁, ⟨U', l2, c2, s2⟩, hW₁, X', ⟨g', mk, t, L, E, ce, e1, e2, hq, hce, hcv, hcl, h1, hL, h2, h3⟩, st⟩
  · dsimp only [Pt.U, Pt.locs, Pt.cells, Pt.slots] at X' e1 e2 h1 h2 h3 st
    subst h1; subst h2; subst h3
    exact Or.inl ⟨v, (T.setVm vm₁).calling g' mk (Value.ref b :: As).toArray, t, U', L, hT, X', hL, e1, e2, hq, st⟩
  · dsimp only [Pt.U, Pt.locs, Pt.cells, Pt.slots] at X' e1 e2 h1 h2 h3 st hcl
    subst h1; subst h2; subst h3
    exact Or.inr ⟨q, (T.setVm vm₁).calling g' mk (Value.ref b :: As).toArray, t, U', L, E, ce, hT, X', hL, e1, e2, hq, hce, hcv, vx_cls hW₁ hcl, st⟩
theorem vx_runS (S : CallFix p m c cc nL s args Ts own) (hM : vx_Met l y ws rm Pc Qc XC mc ms free) (cw : CallB R s args own index y bytes maxL ret ws rm mc ms n ∧ (Cond.static y).before args s = true) (hp : PreS s H Pc As)
    (hg : g.method = m) (hn : As.length = n) (hsize : g.locals.size = nL) (hstack : g.stack = As.reverse ++ rest) (hW : 2 * g.monitorRoom + (rest.map fun v => v.category).sum ≤ 8) (hdg : decode cc g.pc = .ok (.invokestatic index, 3)) (hf : cells + mc ≤ R.cells ∧ slots + ms ≤ R.slots) :
    vx_Run p l e R s m args below meth c H locs cells slots mc ms g rest (Qc As.toArray) XC free := by
  have hK : vx_Back l R p e below s args y 3 8 (PreOf R mc ms Pc) (PostOf Qc mc ms free) (vx_Post XC mc ms free) := vx_callBack cw.1 hM hp.1
  obtain ⟨⟨-, -, -, -, -, -, hcode, hini, hy, hlen, hl⟩, hstt⟩ := cw
  obtain ⟨hx, hb, hml, ho, -⟩ := S
  intro T hT X
  rcases vx_callS X hx (bytes := bytes) (maxL := maxL) (ret := ret) ho hl hstt hini hcode hy hK hg (hsize.trans hml.symm) (argsL := As) (rest := rest) (fun sig h => hn.trans (hlen sig h)) hstack hW (by rw [hb]; exact hdg)
    (fun vm₁ hW₁ => ⟨hf.1, hf.2, hp.2 (T.setVm vm₁) hT hW₁⟩) with ⟨v, vm₁, ⟨U', l2, c2, s2⟩, hW₁, X', ⟨g', mk, t, L, e1, e2, hq, h1, hL, h2, h3⟩, st⟩ | ⟨q, vm₁, ⟨U', l2, c2, s2⟩, hW₁, X', ⟨g', mk, t, L, E, ce, e1, e2, hq, hce, hcv, hcl, h1, hL, h2, h3⟩, st⟩
  · dsimp only [Pt.U, Pt.locs, Pt.cells, Pt.slots] at X' e1 e2 h1 h2 h3 st
    subst h1; subst h2; subst h3
    exact Or.inl ⟨v, (T.setVm vm₁).calling g' mk As.toArray, t, U', L, hT, X', hL, e1, e2, hq, st⟩
  · dsimp only [Pt.U, Pt.locs, Pt.cells, Pt.slots] at X' e1 e2 h1 h2 h3 st hcl
    subst h1; subst h2; subst h3
    exact Or.inr ⟨q, (T.setVm vm₁).calling g' mk As.toArray, t, U', L, E, ce, hT, X', hL, e1, e2, hq, hce, hcv, vx_cls hW₁ hcl, st⟩
end Runs
section Rows
variable {p : Program} {l : Launch} {e : Env} {R : Room} {s : State} {m : MethodId} {args : Array Value} {below : List Frame} {meth : Method} {c : Code} {H : Heap} {locs : List Loc} {cells slots : Nat} {Q : State → Prop}
variable {mc ms : Nat} {free : Addr → Prop} {A0 A1 : Nat → Prop} {H0 : Heap} {a : Array Value} {pc : Nat} {ls : Array Slot} {st0 rest : List Value}
theorem vx_keep {st₀ t T' : State} {L : List Loc} (h0 : st₀.heap = H) (e1 : T'.heap = t.heap) (hS : va_S A0 H0 H locs) (hA : ∀ q, q < H.size → A1 q → A0 q) (hf : ∀ q, free q → A0 q) (hL : ∀ q ∈ L, free q.base) (hF : va_F A1 st₀ t) :
    H.size ≤ T'.heap.size ∧ (∀ q : Nat, q < H.size → ¬ A1 q → T'.heap[q]? = H[q]?) ∧ va_S A0 H0 T'.heap (locs ++ L) := by
  obtain ⟨hz, hk⟩ := hF
  rw [h0] at hz hk
  exact ⟨by rw [e1]; exact hz, fun q h1 h2 => by rw [e1]; exact hk q h1 h2,
    ⟨Nat.le_trans hS.1 (by rw [e1]; exact hz), fun q h1 h2 => by rw [e1, hk q (Nat.lt_of_lt_of_le h1 hS.1) (fun z => h2 (hA q (Nat.lt_of_lt_of_le h1 hS.1) z))]; exact hS.2.1 q h1 h2, fun q hq => by
      rcases List.mem_append.mp hq with h | h
      · exact hS.2.2 q h
      · exact hf _ (hL q h)⟩⟩
theorem vx_calli {S SX : Type} {post : Int32 → S → Prop} {px : SX → Prop} {B : S → State → Prop} {BX : String → SX → State → Prop} {AX : Nat → Prop} (hr : vx_Run p l e R s m args below meth c H locs cells slots mc ms (F0 m pc ls st0) rest (va_Qi post B A1 a) (vx_X px BX AX) free) (hS : va_S A0 H0 H locs) (hA : ∀ q, q < H.size → A1 q → A0 q) (hf : ∀ q, free q → A0 q) (hAX : ∀ q, q < H.size → AX q → A0 q)
    (kx : ∀ (E : String) (ce : Cell) (q9 : Addr) (u : SX) (t : State) (H1 : Heap) (locs1 : List Loc), t.heap = H1 → s.vm.Alike t.vm → px u → BX E u t → H.size ≤ H1.size → (∀ q : Nat, q < H.size → ¬ AX q → H1[q]? = H[q]?) → va_S A0 H0 H1 locs1 → H1[q9]? = some ce → ce.vm = .none → s.vm.findClass E = some ce.cls → vx_W p l e R s m args below meth c H1 locs1 (cells + mc) (slots + ms) Q (F0 m pc ls rest) q9)
    (kk : ∀ (r : Int32) (u : S) (t : State) (H1 : Heap) (locs1 : List Loc), t.heap = H1 → s.vm.Alike t.vm → post r u → B u t → H.size ≤ H1.size → (∀ q : Nat, q < H.size → ¬ A1 q → H1[q]? = H[q]?) → va_S A0 H0 H1 locs1 → W p l e R s m args below meth c H1 locs1 (cells + mc) (slots + ms) Q (F0 m (pc + 3) ls (.int r :: rest))) : W p l e R s m args below meth c H locs cells slots Q (F0 m pc ls st0) := by
  intro T hT X
  rcases hr T hT X with ⟨v, st₀, t, T', L, h0, X', hL, e1, e2, ⟨⟨r, u, hv, hp, hb⟩, hF⟩, st⟩ | ⟨q, st₀, t, T', L, E, ce, h0, X', hL, e1, e2, ⟨u, hp, hb, hF⟩, hce, hcv, hcl, st⟩
  · cases hv
    obtain ⟨k1, k2, k3⟩ := vx_keep h0 e1 hS hA hf hL hF
    obtain ⟨t2, a1, b1⟩ := kk r u t T'.heap (locs ++ L) e1.symm (by rw [← e2]; exact X'.warmed.alike) hp hb k1 k2 k3 T' rfl X'
    exact ⟨t2, st t2 a1, b1⟩
  · obtain ⟨k1, k2, k3⟩ := vx_keep h0 e1 hS hAX hf hL hF
    obtain ⟨t2, a1, b1⟩ := kx E ce q u t T'.heap (locs ++ L) e1.symm (by rw [← e2]; exact X'.warmed.alike) hp hb k1 k2 k3 (by rw [e1]; exact hce) hcv hcl T' rfl X'
    exact ⟨t2, st.trans a1, b1⟩
theorem vx_calll {S SX : Type} {post : Int64 → S → Prop} {px : SX → Prop} {B : S → State → Prop} {BX : String → SX → State → Prop} {AX : Nat → Prop} (hr : vx_Run p l e R s m args below meth c H locs cells slots mc ms (F0 m pc ls st0) rest (va_Ql post B A1 a) (vx_X px BX AX) free) (hS : va_S A0 H0 H locs) (hA : ∀ q, q < H.size → A1 q → A0 q) (hf : ∀ q, free q → A0 q) (hAX : ∀ q, q < H.size → AX q → A0 q)
    (kx : ∀ (E : String) (ce : Cell) (q9 : Addr) (u : SX) (t : State) (H1 : Heap) (locs1 : List Loc), t.heap = H1 → s.vm.Alike t.vm → px u → BX E u t → H.size ≤ H1.size → (∀ q : Nat, q < H.size → ¬ AX q → H1[q]? = H[q]?) → va_S A0 H0 H1 locs1 → H1[q9]? = some ce → ce.vm = .none → s.vm.findClass E = some ce.cls → vx_W p l e R s m args below meth c H1 locs1 (cells + mc) (slots + ms) Q (F0 m pc ls rest) q9)
    (kk : ∀ (r : Int64) (u : S) (t : State) (H1 : Heap) (locs1 : List Loc), t.heap = H1 → s.vm.Alike t.vm → post r u → B u t → H.size ≤ H1.size → (∀ q : Nat, q < H.size → ¬ A1 q → H1[q]? = H[q]?) → va_S A0 H0 H1 locs1 → W p l e R s m args below meth c H1 locs1 (cells + mc) (slots + ms) Q (F0 m (pc + 3) ls (.long r :: rest))) : W p l e R s m args below meth c H locs cells slots Q (F0 m pc ls st0) := by
  intro T hT X
  rcases hr T hT X with ⟨v, st₀, t, T', L, h0, X', hL, e1, e2, ⟨⟨r, u, hv, hp, hb⟩, hF⟩, st⟩ | ⟨q, st₀, t, T', L, E, ce, h0, X', hL, e1, e2, ⟨u, hp, hb, hF⟩, hce, hcv, hcl, st⟩
  · cases hv
    obtain ⟨k1, k2, k3⟩ := vx_keep h0 e1 hS hA hf hL hF
    obtain ⟨t2, a1, b1⟩ := kk r u t T'.heap (locs ++ L) e1.symm (by rw [← e2]; exact X'.warmed.alike) hp hb k1 k2 k3 T' rfl X'
    exact ⟨t2, st t2 a1, b1⟩
  · obtain ⟨k1, k2, k3⟩ := vx_keep h0 e1 hS hAX hf hL hF
    obtain ⟨t2, a1, b1⟩ := kx E ce q u t T'.heap (locs ++ L) e1.symm (by rw [← e2]; exact X'.warmed.alike) hp hb k1 k2 k3 (by rw [e1]; exact hce) hcv hcl T' rfl X'
    exact ⟨t2, st.trans a1, b1⟩
theorem vx_callf {S SX : Type} {post : UInt32 → S → Prop} {px : SX → Prop} {B : S → State → Prop} {BX : String → SX → State → Prop} {AX : Nat → Prop} (hr : vx_Run p l e R s m args below meth c H locs cells slots mc ms (F0 m pc ls st0) rest (va_Qf post B A1 a) (vx_X px BX AX) free) (hS : va_S A0 H0 H locs) (hA : ∀ q, q < H.size → A1 q → A0 q) (hf : ∀ q, free q → A0 q) (hAX : ∀ q, q < H.size → AX q → A0 q)
    (kx : ∀ (E : String) (ce : Cell) (q9 : Addr) (u : SX) (t : State) (H1 : Heap) (locs1 : List Loc), t.heap = H1 → s.vm.Alike t.vm → px u → BX E u t → H.size ≤ H1.size → (∀ q : Nat, q < H.size → ¬ AX q → H1[q]? = H[q]?) → va_S A0 H0 H1 locs1 → H1[q9]? = some ce → ce.vm = .none → s.vm.findClass E = some ce.cls → vx_W p l e R s m args below meth c H1 locs1 (cells + mc) (slots + ms) Q (F0 m pc ls rest) q9)
    (kk : ∀ (r : UInt32) (u : S) (t : State) (H1 : Heap) (locs1 : List Loc), t.heap = H1 → s.vm.Alike t.vm → post r u → B u t → H.size ≤ H1.size → (∀ q : Nat, q < H.size → ¬ A1 q → H1[q]? = H[q]?) → va_S A0 H0 H1 locs1 → W p l e R s m args below meth c H1 locs1 (cells + mc) (slots + ms) Q (F0 m (pc + 3) ls (.float r :: rest))) : W p l e R s m args below meth c H locs cells slots Q (F0 m pc ls st0) := by
  intro T hT X
  rcases hr T hT X with ⟨v, st₀, t, T', L, h0, X', hL, e1, e2, ⟨⟨r, u, hv, hp, hb⟩, hF⟩, st⟩ | ⟨q, st₀, t, T', L, E, ce, h0, X', hL, e1, e2, ⟨u, hp, hb, hF⟩, hce, hcv, hcl, st⟩
  · cases hv
    obtain ⟨k1, k2, k3⟩ := vx_keep h0 e1 hS hA hf hL hF
    obtain ⟨t2, a1, b1⟩ := kk r u t T'.heap (locs ++ L) e1.symm (by rw [← e2]; exact X'.warmed.alike) hp hb k1 k2 k3 T' rfl X'
    exact ⟨t2, st t2 a1, b1⟩
  · obtain ⟨k1, k2, k3⟩ := vx_keep h0 e1 hS hAX hf hL hF
    obtain ⟨t2, a1, b1⟩ := kx E ce q u t T'.heap (locs ++ L) e1.symm (by rw [← e2]; exact X'.warmed.alike) hp hb k1 k2 k3 (by rw [e1]; exact hce) hcv hcl T' rfl X'
    exact ⟨t2, st.trans a1, b1⟩
theorem vx_calld {S SX : Type} {post : UInt64 → S → Prop} {px : SX → Prop} {B : S → State → Prop} {BX : String → SX → State → Prop} {AX : Nat → Prop} (hr : vx_Run p l e R s m args below meth c H locs cells slots mc ms (F0 m pc ls st0) rest (va_Qd post B A1 a) (vx_X px BX AX) free) (hS : va_S A0 H0 H locs) (hA : ∀ q, q < H.size → A1 q → A0 q) (hf : ∀ q, free q → A0 q) (hAX : ∀ q, q < H.size → AX q → A0 q)
    (kx : ∀ (E : String) (ce : Cell) (q9 : Addr) (u : SX) (t : State) (H1 : Heap) (locs1 : List Loc), t.heap = H1 → s.vm.Alike t.vm → px u → BX E u t → H.size ≤ H1.size → (∀ q : Nat, q < H.size → ¬ AX q → H1[q]? = H[q]?) → va_S A0 H0 H1 locs1 → H1[q9]? = some ce → ce.vm = .none → s.vm.findClass E = some ce.cls → vx_W p l e R s m args below meth c H1 locs1 (cells + mc) (slots + ms) Q (F0 m pc ls rest) q9)
    (kk : ∀ (r : UInt64) (u : S) (t : State) (H1 : Heap) (locs1 : List Loc), t.heap = H1 → s.vm.Alike t.vm → post r u → B u t → H.size ≤ H1.size → (∀ q : Nat, q < H.size → ¬ A1 q → H1[q]? = H[q]?) → va_S A0 H0 H1 locs1 → W p l e R s m args below meth c H1 locs1 (cells + mc) (slots + ms) Q (F0 m (pc + 3) ls (.double r :: rest))) : W p l e R s m args below meth c H locs cells slots Q (F0 m pc ls st0) := by
  intro T hT X
  rcases hr T hT X with ⟨v, st₀, t, T', L, h0, X', hL, e1, e2, ⟨⟨r, u, hv, hp, hb⟩, hF⟩, st⟩ | ⟨q, st₀, t, T', L, E, ce, h0, X', hL, e1, e2, ⟨u, hp, hb, hF⟩, hce, hcv, hcl, st⟩
  · cases hv
    obtain ⟨k1, k2, k3⟩ := vx_keep h0 e1 hS hA hf hL hF
    obtain ⟨t2, a1, b1⟩ := kk r u t T'.heap (locs ++ L) e1.symm (by rw [← e2]; exact X'.warmed.alike) hp hb k1 k2 k3 T' rfl X'
    exact ⟨t2, st t2 a1, b1⟩
  · obtain ⟨k1, k2, k3⟩ := vx_keep h0 e1 hS hAX hf hL hF
    obtain ⟨t2, a1, b1⟩ := kx E ce q u t T'.heap (locs ++ L) e1.symm (by rw [← e2]; exact X'.warmed.alike) hp hb k1 k2 k3 (by rw [e1]; exact hce) hcv hcl T' rfl X'
    exact ⟨t2, st.trans a1, b1⟩
theorem vx_callv {S SX : Type} {post : S → Prop} {px : SX → Prop} {B : S → State → Prop} {BX : String → SX → State → Prop} {AX : Nat → Prop} (hr : vx_Run p l e R s m args below meth c H locs cells slots mc ms (F0 m pc ls st0) rest (va_Qv post B A1 a) (vx_X px BX AX) free) (hS : va_S A0 H0 H locs) (hA : ∀ q, q < H.size → A1 q → A0 q) (hf : ∀ q, free q → A0 q) (hAX : ∀ q, q < H.size → AX q → A0 q)
    (kx : ∀ (E : String) (ce : Cell) (q9 : Addr) (u : SX) (t : State) (H1 : Heap) (locs1 : List Loc), t.heap = H1 → s.vm.Alike t.vm → px u → BX E u t → H.size ≤ H1.size → (∀ q : Nat, q < H.size → ¬ AX q → H1[q]? = H[q]?) → va_S A0 H0 H1 locs1 → H1[q9]? = some ce → ce.vm = .none → s.vm.findClass E = some ce.cls → vx_W p l e R s m args below meth c H1 locs1 (cells + mc) (slots + ms) Q (F0 m pc ls rest) q9)
    (kk : ∀ (u : S) (t : State) (H1 : Heap) (locs1 : List Loc), t.heap = H1 → s.vm.Alike t.vm → post u → B u t → H.size ≤ H1.size → (∀ q : Nat, q < H.size → ¬ A1 q → H1[q]? = H[q]?) → va_S A0 H0 H1 locs1 → W p l e R s m args below meth c H1 locs1 (cells + mc) (slots + ms) Q (F0 m (pc + 3) ls (rest))) : W p l e R s m args below meth c H locs cells slots Q (F0 m pc ls st0) := by
  intro T hT X
  rcases hr T hT X with ⟨v, st₀, t, T', L, h0, X', hL, e1, e2, ⟨⟨u, hv, hp, hb⟩, hF⟩, st⟩ | ⟨q, st₀, t, T', L, E, ce, h0, X', hL, e1, e2, ⟨u, hp, hb, hF⟩, hce, hcv, hcl, st⟩
  · cases hv
    obtain ⟨k1, k2, k3⟩ := vx_keep h0 e1 hS hA hf hL hF
    obtain ⟨t2, a1, b1⟩ := kk u t T'.heap (locs ++ L) e1.symm (by rw [← e2]; exact X'.warmed.alike) hp hb k1 k2 k3 T' rfl X'
    exact ⟨t2, st t2 a1, b1⟩
  · obtain ⟨k1, k2, k3⟩ := vx_keep h0 e1 hS hAX hf hL hF
    obtain ⟨t2, a1, b1⟩ := kx E ce q u t T'.heap (locs ++ L) e1.symm (by rw [← e2]; exact X'.warmed.alike) hp hb k1 k2 k3 (by rw [e1]; exact hce) hcv hcl T' rfl X'
    exact ⟨t2, st.trans a1, b1⟩
/-- caught by the row x of this method's table; the rows ahead don't take it -/
theorem vx_catch {own name : String} {E : String} {ce : Cell} {q : Addr} (hown : s.vm.findClass own = some m.cls) (pre : List ExceptionTableEntry) (x : ExceptionTableEntry) (suf : List ExceptionTableEntry) (hsplit : c.exceptionTable.toList = pre ++ x :: suf)
    (hpass : ∀ z ∈ pre, covers z pc = false ∨ (z.catchType ≠ 0 ∧ ∃ nm : String, (Cond.classLink own z.catchType nm).before args s = true ∧ va_Nc E nm s)) (hx : covers x pc = true) (h0 : x.catchType ≠ 0)
    (hlink : (Cond.classLink own x.catchType name).before args s = true) (hcast : (Cond.castable E name).before args s = true) (hcell : H[q]? = some ce) (hv : ce.vm = .none) (hcl : s.vm.findClass E = some ce.cls)
    (kk : W p l e R s m args below meth c H locs cells slots Q (F0 m x.handlerPc ls [.ref q])) : vx_W p l e R s m args below meth c H locs cells slots Q (F0 m pc ls rest) q := by
  intro T hT X
  have hpl : e.platform.magicAccessors = ({} : Platform).magicAccessors := by rw [X.admits.platform]
  obtain ⟨c3, c4, hc3, hc4, hasg⟩ := Cond.castable_spec hcast
  cases Option.some.inj (hc3.symm.trans hcl)
  obtain ⟨c5, hc5, hcl5⟩ := Cond.classLink_spec hown hlink e.platform hpl
  cases Option.some.inj (hc4.symm.trans hc5)
  obtain ⟨vm', X', st⟩ := X.thenCaughtThrough q (g := F0 m pc ls rest) rfl (Steps.refl _) (by rw [hT]; exact hcell) (by rw [hv]; rfl) (by obtain ⟨k9, h9, -⟩ := Vm.findClass_spec hcl; exact ⟨k9, h9⟩) pre x suf hsplit
    (fun z hz => by
      rcases hpass z hz with h | ⟨hz0, nm, hl1, hn1⟩
      · exact Or.inl h
      · obtain ⟨c6, hc6, hcl6⟩ := Cond.classLink_spec hown hl1 e.platform hpl
        obtain ⟨a8, b8, h1, h2, h3⟩ := hn1
        cases Option.some.inj (h1.symm.trans hcl)
        cases Option.some.inj (h2.symm.trans hc6)
        exact Or.inr ⟨hz0, _, hcl6, h3⟩) hx (Or.inr ⟨h0, c4, hcl5, hasg⟩)
  obtain ⟨t, a1, b1⟩ := kk (T.setVm vm') hT X'
  exact ⟨t, st.trans a1, b1⟩
end Rows
section Ends
variable {p : Program} {l : Launch} {e : Env} {R : Room} {s : State} {m : MethodId} {args : Array Value} {below : List Frame} {meth : Method} {c : Code} {H : Heap} {locs : List Loc} {cells slots : Nat} {Q : State → Prop}
variable {mc ms : Nat} {free : Addr → Prop} {A0 A1 : Nat → Prop} {H0 : Heap} {a : Array Value} {ls : Array Slot} {st0 rest : List Value}
variable {Qc : Array Value → State → Outcome → State → Prop} {XC : String → State → State → Prop}
/-- what a body that may throw owes at its end -/
def vx_MQ (below : List Frame) (Qc : Array Value → State → Outcome → State → Prop) (XC : String → State → State → Prop) (a : Array Value) (s : State) (mc ms : Nat) (free : Addr → Prop) : State → Prop := fun t =>
  ∃ o, t.status = .running ∧ Ended t below o ∧ vx_Q Qc XC mc ms free a s o t
theorem vx_ret {g : JFrame} {mc ms : Nat} (k : W p l e R s m args below meth c H locs cells slots (MQ below Qc args s mc ms free) g) : W p l e R s m args below meth c H locs cells slots (vx_MQ below Qc XC args s mc ms free) g := by
  intro T hT X
  obtain ⟨t, a1, o, b1, b2, b3, b4⟩ := k T hT X
  exact ⟨t, a1, o, b1, b2, Or.inl ⟨b3, b4⟩⟩
/-- not caught here: it goes on to the caller -/
theorem vx_widen {g : JFrame} {q : Addr} {k n : Nat} (h1 : cells ≤ k) (h2 : slots ≤ n) (kk : vx_W p l e R s m args below meth c H locs k n Q g q) : vx_W p l e R s m args below meth c H locs cells slots Q g q := fun T hT X => kk T hT (stand_widen X h1 h2)
theorem vx_out {pc : Nat} {E : String} {ce : Cell} {q : Addr} {mc ms : Nat} (hout : ∀ x ∈ c.exceptionTable.toList, covers x pc = false) (hlocks : meth.locks = false) (hcell : H[q]? = some ce) (hv : ce.vm = .none) (hcl : s.vm.findClass E = some ce.cls)
    (hx : ∀ t : State, t.heap = H → s.vm.Alike t.vm → XC E s t) (hf : ∀ z ∈ locs, free z.base) (hc : cells ≤ mc) (hs : slots ≤ ms) :
    vx_W p l e R s m args below meth c H locs cells slots (vx_MQ below Qc XC args s mc ms free) (F0 m pc ls rest) q := by
  intro T hT X
  obtain ⟨st1, hrun, hend, hW, hsm⟩ := X.leaveThrown q (g := F0 m pc ls rest) rfl rfl rfl hout hlocks
  have hcell9 : (T.setFrames (.throwing q :: below)).heap[q]? = some ce := by
    show T.heap[q]? = some ce
    rw [hT]; exact hcell
  exact ⟨_, st1, .threw q, hrun, hend, Or.inr ⟨q, rfl, E, ce, locs, hx _ hT hW.alike, hcell9, hv, hcl, hW, hsm.mono hc hs, hf⟩⟩
theorem vx_frame {U : State} {k n : Nat} (h : s.sameButNew ({ U with vm := s.vm } : State) locs k n) : s.heap.size ≤ U.heap.size ∧ ∀ q : Nat, q < s.heap.size → (∀ z ∈ locs, z.base ≠ q) → U.heap[q]? = s.heap[q]? := by
  obtain ⟨-, h2, -, -, -, h6⟩ := h
  refine ⟨h2, fun q hq hz => ?_⟩
  obtain ⟨c9, e1, e2, e3, e4⟩ := h6 q _ (Array.getElem?_eq_getElem hq)
  have hs : c9.slots = (s.heap[q]).slots := Array.ext_getElem? fun i => e4 i fun hm => hz _ hm rfl
  have h9 : c9 = s.heap[q] := by
    rw [hs] at e2
    exact e2
  have e5 : U.heap[q]? = some c9 := e1
  rw [e5, h9, Array.getElem?_eq_getElem hq]
/-- the words of a throw but the four that speak of the heap -/
def vx_no (w : Cond) : Bool := decide (w ≠ .isRef (.static Bundle.tN "UNASSIGNED_STACK" Bundle.steD)) && decide (w ≠ .isRef (.static Bundle.tN "SUPPRESSED_SENTINEL" Bundle.listD)) && decide (w ≠ .laysStatic Bundle.tN "UNASSIGNED_STACK" Bundle.steD) && decide (w ≠ .laysStatic Bundle.tN "SUPPRESSED_SENTINEL" Bundle.listD)
def vx_at0 (own : String) (ic : Nat) (X : String) (names : List String) : List Cond := (Bundle.ownAtoms0 own ic X names).filter vx_no
def vx_atS (own : String) (ic : Nat) (X : String) (names : List String) : List Cond := (Bundle.ownAtoms own ic X names).filter vx_no
/-- a word that the tables alone decide, or a good one -/
def vx_ot (w : Cond) : Bool := w.onTables || goodWord w
theorem vx_ot_at {args a' : Array Value} {s U : State} {w : Cond} (hW : s.WarmedH U.vm) (hvm : s.vm = U.vm) (hg : vx_ot w = true) (h : w.before args s = true) : w.before a' U = true := by
  simp only [vx_ot, Bool.or_eq_true] at hg
  rcases hg with hg | hg
  · exact va_tabs hg hvm h
  · exact word_at hW (good_of_word hg) h
/-- a list's words: the good ones out of the method's own list, the others by premises of their own -/
theorem vx_hat {args : Array Value} {s : State} {L B : List Cond} (h1 : ∀ w ∈ L.filter goodWord, w.before args s = true) (h2 : ∀ w ∈ L.filter (fun w => !goodWord w), w ∈ B) (h3 : ∀ w ∈ B, w.before args s = true) : ∀ w ∈ L, w.before args s = true := by
  intro w hw
  by_cases g : goodWord w = true
  · exact h1 w (List.mem_filter.mpr ⟨hw, g⟩)
  · refine h3 w (h2 w (List.mem_filter.mpr ⟨hw, ?_⟩))
    show (!goodWord w) = true
    cases hgw : goodWord w
    · rfl
    · exact absurd hgw g
theorem vx_c {args : Array Value} {s : State} {w : Cond} {B : List Cond} (h : w.before args s = true) (t : ∀ w ∈ B, w.before args s = true) : ∀ w' ∈ w :: B, w'.before args s = true := fun w' h' => (List.mem_cons.mp h').elim (fun e => by rw [e]; exact h) (t w')
theorem vx_n {args : Array Value} {s : State} : ∀ w ∈ ([] : List Cond), w.before args s = true := fun _ h => nomatch h
theorem vx_own {args : Array Value} {s : State} {L : List Cond} (h1 : ∀ w ∈ L.filter vx_no, w.before args s = true)
    (hU : (Cond.isRef (.static Bundle.tN "UNASSIGNED_STACK" Bundle.steD)).before args s = true) (hN : (Cond.isRef (.static Bundle.tN "SUPPRESSED_SENTINEL" Bundle.listD)).before args s = true)
    (lU : (Cond.laysStatic Bundle.tN "UNASSIGNED_STACK" Bundle.steD).before args s = true) (lN : (Cond.laysStatic Bundle.tN "SUPPRESSED_SENTINEL" Bundle.listD).before args s = true) : ∀ w ∈ L, w.before args s = true := by
  intro w hw
  by_cases e1 : w = .isRef (.static Bundle.tN "UNASSIGNED_STACK" Bundle.steD)
  · rw [e1]; exact hU
  · by_cases e2 : w = .isRef (.static Bundle.tN "SUPPRESSED_SENTINEL" Bundle.listD)
    · rw [e2]; exact hN
    · by_cases e3 : w = .laysStatic Bundle.tN "UNASSIGNED_STACK" Bundle.steD
      · rw [e3]; exact lU
      · by_cases e4 : w = .laysStatic Bundle.tN "SUPPRESSED_SENTINEL" Bundle.listD
        · rw [e4]; exact lN
        · exact h1 w (List.mem_filter.mpr ⟨hw, by unfold vx_no; rw [decide_eq_true e1, decide_eq_true e2, decide_eq_true e3, decide_eq_true e4]; rfl⟩)
/-- where a static field lies, its class's statics cell in H -/
def vx_L (C n d : String) (A : Nat → Prop) (U : State) (H : Heap) : Prop := ∃ (c : ClassId) (k : Class) (i : Nat) (f : Field) (a : Nat) (cell : Cell), U.vm.findClass C = some c ∧ U.fieldFound? C n d = some (c, k, i, f) ∧ f.isStatic = true ∧ k.statics = some a ∧ H[a]? = some cell ∧ cell.vm.isStatics = true ∧ cell.cls = c ∧ f.slot < cell.slots.size ∧ k.staticTypes[f.slot]? = some f.type ∧ ¬ A a
theorem vx_L.moved {C n d : String} {A : Nat → Prop} {u U : State} {H : Heap} (hvm : u.vm.Alike U.vm) (h : vx_L C n d A u H) : vx_L C n d A U H := by
  obtain ⟨c, k, i, f, a, cell, h1, h2, h3, h4, h5, h6, h7, h8, h9, h10⟩ := h
  obtain ⟨k', hi', he⟩ := State.fieldFound?_setVm hvm h2
  exact ⟨c, k', i, f, a, cell, by rw [hvm.findClass]; exact h1, hi', h3, by rw [he]; exact h4, h5, h6, h7, h8, by rw [he]; exact h9, h10⟩
theorem vx_L.kept {C n d : String} {A : Nat → Prop} {U : State} {H H1 : Heap} (h : vx_L C n d A U H) (hq : ∀ a : Nat, a < H.size → ¬ A a → H1[a]? = H[a]?) : vx_L C n d A U H1 := by
  obtain ⟨c, k, i, f, a, cell, h1, h2, h3, h4, h5, h6, h7, h8, h9, h10⟩ := h
  exact ⟨c, k, i, f, a, cell, h1, h2, h3, h4, by rw [hq a (Array.getElem?_eq_some_iff.mp h5).1 h10]; exact h5, h6, h7, h8, h9, h10⟩
theorem vx_L.narrow {C n d : String} {A B : Nat → Prop} {U : State} {H : Heap} (h : vx_L C n d A U H) (hAB : ∀ q, B q → A q) : vx_L C n d B U H := by
  obtain ⟨c, k, i, f, a, cell, h1, h2, h3, h4, h5, h6, h7, h8, h9, h10⟩ := h
  exact ⟨c, k, i, f, a, cell, h1, h2, h3, h4, h5, h6, h7, h8, h9, fun z => h10 (hAB _ z)⟩
theorem vx_L.word {C n d : String} {A : Nat → Prop} {s : State} {args : Array Value} (h : vx_L C n d A s s.heap) : (Cond.laysStatic C n d).before args s = true := by
  obtain ⟨c, k, i, f, a, cell, h1, h2, h3, h4, h5, h6, h7, h8, h9, -⟩ := h
  show (Cond.laysStatic C n d).holds args s none s [] = true
  exact Cond.laysStatic_of h1 h2 h3 h4 h5 h6 h7 h8 h9
/-- .. and what it holds: null or some reference -/
def vx_Zq (C n d : String) (A : Nat → Prop) (U : State) (H : Heap) : Prop := va_Zq C n d A U H ∧ vx_L C n d A U H
theorem vx_Zq.moved {C n d : String} {A : Nat → Prop} {u U : State} {H : Heap} (hvm : u.vm.Alike U.vm) (h : vx_Zq C n d A u H) : vx_Zq C n d A U H := ⟨va_Zq.moved hvm h.1, vx_L.moved hvm h.2⟩
theorem vx_Zq.kept {C n d : String} {A : Nat → Prop} {U : State} {H H1 : Heap} (h : vx_Zq C n d A U H) (hq : ∀ a : Nat, a < H.size → ¬ A a → H1[a]? = H[a]?) : vx_Zq C n d A U H1 := ⟨va_Zq.kept h.1 hq, vx_L.kept h.2 hq⟩
theorem vx_Zq.narrow {C n d : String} {A B : Nat → Prop} {U : State} {H : Heap} (h : vx_Zq C n d A U H) (hAB : ∀ q, B q → A q) : vx_Zq C n d B U H := ⟨va_Zq.narrow h.1 hAB, vx_L.narrow h.2 hAB⟩
theorem vx_Zqof {args : Array Value} {s : State} {C n d : String} {A : Nat → Prop} (hl : (Cond.laysStatic C n d).before args s = true) (hini : (Cond.initialized C).before args s = true) (h : (Cond.isRef (.static C n d)).before args s = true) (hA : ∀ a : Nat, a < s.heap.size → ¬ A a) : vx_Zq C n d A s s.heap := by
  refine ⟨va_Zqof hl hini h hA, ?_⟩
  obtain ⟨c, k, i, f, a, cell, h1, h2, h3, h4, h5, h6, h7, h8, h9⟩ := Cond.laysStatic_spec hl
  exact ⟨c, k, i, f, a, cell, h1, h2, h3, h4, h5, h6, h7, h8, h9, hA a (Array.getElem?_eq_some_iff.mp h5).1⟩
theorem vx_isRef {C n d : String} {v : Value} {A : Nat → Prop} {s : State} {args : Array Value} (h : va_Z C n d v A s s.heap) (hv : v.isRef = true) : (Cond.isRef (.static C n d)).before args s = true := by
  obtain ⟨cf, kf, fi, f, a, cell, h1, h2, h3, h4, h5, h6, h7, -⟩ := h
  have he : (Term.static C n d).eval args s none [] s = some v := by
    simp [Term.eval, State.fieldNamed?, h1, h2, h4, h5, h6, h7]
  simp only [Cond.before, Cond.holds, Cond.value, he]
  cases v <;> simp_all [Value.isRef]
theorem vx_isRefq {C n d : String} {A : Nat → Prop} {s : State} {args : Array Value} (h : va_Zq C n d A s s.heap) : (Cond.isRef (.static C n d)).before args s = true := by
  rcases h with h | ⟨t, h⟩
  · exact vx_isRef h rfl
  · exact vx_isRef h rfl
/-- the same frame, seen from here: as if the method were called anew in this heap -/
theorem vx_rebase {T : State} (X : Stand p l e R s m args below meth c T locs cells slots) {R' : Room} (hf : R'.frames ≤ R.frames) (hl : R'.locals ≤ R.locals) (hc : cells + R'.cells ≤ R.cells) (hs : slots + R'.slots ≤ R.slots) :
    Stand p l e R' ((T.setVm s.vm).setFrames (.invoking m args :: below)) m args below meth c T [] 0 0 := by
  have htop : (T.setVm s.vm).topJava?.isSome := X.here.top
  have hF : ((T.setVm s.vm).setFrames (.invoking m args :: below)).frames = .invoking m args :: below := State.frames_setFrames _ (State.cur_lt_of_top htop)
  obtain ⟨g₀, hg0⟩ := Option.isSome_iff_exists.mp htop
  obtain ⟨r, hr⟩ := State.topJava?_eq_some.mp hg0
  have hl9 : e.platform.stackLimits (T.setVm s.vm).me = e.platform.stackLimits s.me := X.limits
  have hb9 : (T.setVm s.vm).me.stackBytes = s.me.stackBytes := X.bytes
  refine ⟨X.admits, X.cas, X.clock, hF, ?_, X.hears, X.method, X.code, X.here, X.tail, X.warmed, ?_, ?_, ?_⟩
  · have h := X.room
    have hU : ((T.setVm s.vm).setFrames (.invoking m args :: below)).localsInUse = s.localsInUse := by
      rw [State.localsInUse_invoking hF (meth := meth) (c := c) X.method X.code, State.localsInUse_invoking X.frames X.method X.code]
    simp only [State.hasRoom, Bool.and_eq_true, decide_eq_true_eq] at h ⊢
    obtain ⟨⟨⟨⟨h1, h2, h3, h4, h5, h6⟩, h7⟩, h8⟩, h9⟩ := h
    rw [X.frames, List.length_cons] at h2 h3
    have q1 := X.heapSize
    have q2 := X.used
    simp only [hF, hU, List.length_cons, State.stackLimits_setFrames, State.stackBytes_setFrames, hl9, hb9]
    refine ⟨⟨⟨⟨by omega, by omega, by omega, by omega, by omega, h6⟩, ?_⟩, ?_⟩, X.book⟩
    · show T.heap.size + R'.cells ≤ e.platform.maxCells
      omega
    · show T.slotsUsed + R'.slots ≤ e.platform.maxSlots
      omega
  · rw [State.stackLimits_setFrames]; rfl
  · rw [State.stackBytes_setFrames]; rfl
  · refine ⟨?_, Nat.le_refl _, Nat.le_refl _, ?_, ?_, fun a c9 h9 => ⟨c9, h9, rfl, rfl, fun _ _ => rfl⟩⟩
    · obtain ⟨t, ht, -⟩ := State.frames_cons hr
      show T.setVm s.vm = { ((T.setVm s.vm).setFrames (.invoking m args :: below)).setFrames (T.setVm s.vm).frames with heap := T.heap, slotsUsed := T.slotsUsed }
      rw [State.setFrames_setFrames, State.setFrames_self ht]
      rfl
    · show T.slotsUsed = T.slotsUsed + ((T.heap.toList.drop T.heap.size).map (·.slots.size)).sum
      rw [List.drop_eq_nil_of_le (Nat.le_of_eq Array.length_toList)]
      rfl
    · show ((T.heap.toList.drop T.heap.size).map (·.slots.size)).sum ≤ 0
      rw [List.drop_eq_nil_of_le (Nat.le_of_eq Array.length_toList)]
      exact Nat.le_refl _
/-- 'throw new E()': new; dup; invokespecial; athrow -/
theorem vx_throw0 {cc : ByteArray} {pc : Nat} (hexec : p.tables.exec = Jvm.exec) (hb : c.code = cc) (hl : l.stackTraces = false) {own cls : String} {names : List String} {ik ic mc ms : Nat} {A : Nat → Prop}
    (hown : s.vm.findClass own = some m.cls) (hcls : Bundle.fit cls = true) (hnames : ∀ n ∈ names, Bundle.fit n = true)
    (hk : (Cond.classLink own ik cls).before args s = true) (hini : (Cond.initialized cls).before args s = true) (hat : ∀ w ∈ vx_at0 own ic cls names, w.before args s = true)
    (hgood : ∀ w ∈ Cond.classLink own ik cls :: Cond.initialized cls :: vx_at0 own ic cls names, vx_ot w = true)
    (hU : vx_Zq Bundle.tN "UNASSIGNED_STACK" Bundle.steD A s s.heap) (hN : vx_Zq Bundle.tN "SUPPRESSED_SENTINEL" Bundle.listD A s s.heap) (hS : va_S A s.heap H locs) (hsize : ls.size = c.maxLocals)
    (d0 : decode cc pc = .ok (.new ik, 3)) (d3 : decode cc (pc + 3) = .ok (.dup, 1)) (d4 : decode cc (pc + 4) = .ok (.invokespecial ic, 3)) (d7 : decode cc (pc + 7) = .ok (.athrow, 1))
    (hout : ∀ x ∈ c.exceptionTable.toList, covers x (pc + 7) = false)
    (hRframes : names.length + 3 < R.frames) (hRlocals : (rest.map fun v => v.category).sum + (13 * (names.length + 1) + 42) ≤ R.locals) (hRcells : cells + 1 ≤ R.cells) (hRslots : slots + 6 ≤ R.slots) (hlocks : meth.locks = false)
    (hx : ∀ t : State, s.vm.Alike t.vm → H.size ≤ t.heap.size → (∀ q : Nat, q < H.size → t.heap[q]? = H[q]?) → XC cls s t)
    (hf : ∀ z ∈ locs, free z.base) (hc : cells + 1 ≤ mc) (hs : slots + 6 ≤ ms) :
    W p l e R s m args below meth c H locs cells slots (vx_MQ below Qc XC args s mc ms free) (F0 m pc ls rest) := by
  intro T hT X
  have htr : e.platform.stackTraces = false := (show e.platform.stackTraces = l.stackTraces by rw [X.admits.platform]).trans hl
  have Y := vx_rebase X (R' := { frames := R.frames, locals := R.locals, cells := 1, slots := 6 }) (Nat.le_refl _) (Nat.le_refl _) hRcells hRslots
  obtain ⟨s', hA⟩ : ∃ z, z = (T.setVm s.vm).setFrames (.invoking m args :: below) := ⟨_, rfl⟩
  rw [← hA] at Y
  have hvm : s'.vm = s.vm := by rw [hA]; rfl
  have hhp : s'.heap = H := by rw [hA]; exact hT
  have hW0 : s.WarmedH s'.vm := by rw [hvm]; exact State.WarmedH.refl s
  have hat' : ∀ w ∈ vx_at0 own ic cls names, w.before args s' = true := fun w hw => vx_ot_at hW0 hvm.symm (hgood w (List.mem_cons_of_mem _ (List.mem_cons_of_mem _ hw))) (hat w hw)
  have hk' : (Cond.classLink own ik cls).before args s' = true := vx_ot_at hW0 hvm.symm (hgood _ List.mem_cons_self) hk
  have hini' : (Cond.initialized cls).before args s' = true := vx_ot_at hW0 hvm.symm (hgood _ (List.mem_cons_of_mem _ List.mem_cons_self)) hini
  have hU' : vx_Zq Bundle.tN "UNASSIGNED_STACK" Bundle.steD A s' s'.heap := by rw [hhp]; exact vx_Zq.moved hW0.alike (hU.kept hS.2.1)
  have hN' : vx_Zq Bundle.tN "SUPPRESSED_SENTINEL" Bundle.listD A s' s'.heap := by rw [hhp]; exact vx_Zq.moved hW0.alike (hN.kept hS.2.1)
  have h : ∀ w ∈ Bundle.ownAtoms0 own ic cls names, w.before args s' = true := vx_own hat' (vx_isRefq hU'.1) (vx_isRefq hN'.1) hU'.2.word hN'.2.word
  have hown' : s'.vm.findClass own = some m.cls := by rw [hvm]; exact hown
  have hins : (Cond.instantiable cls 6).before args s' = true := h _ (by simp [Bundle.ownAtoms0])
  obtain ⟨vm₁, cX, kX, hfX, hkX, -, -, X₁, st1⟩ := Y.newCold hexec (own := own) (C := cls) (index := ik) (n := 6) hown' hk' hins hini'
    (g := F0 m pc ls rest) rfl (by rw [hb]; exact d0) (Nat.le_refl _) (Nat.le_refl _)
  generalize hT1 : (T.setVm vm₁).pushCell { cls := cX, slots := kX.instanceTypes.map defaultValue, vm := .none } = T1 at X₁ st1
  have hcat : (Value.ref T.heap.size).category = 1 := rfl
  have hcellA : T1.heap[T.heap.size]? = some (freshCell cX kX) := by rw [← hT1]; exact State.heap_pushCell_size _ _
  have d3' : decode c.code (pc + 3) = .ok (.dup, 1) := by rw [hb]; exact d3
  obtain ⟨U, hsteps, hrun, hend, hW, hsame, ce, hce, hO⟩ := X₁.ctorThrow0 hexec htr (own := own) (cls := cls) (names := names) (ic := ic) hown' hcls hnames h (fun x hx => nomatch hx) hfX hkX hcellA (by rw [hhp, hT]; exact Nat.le_refl _)
    (g := { method := m, pc := pc + 4, locals := ls, stack := .ref T.heap.size :: .ref T.heap.size :: rest, locked := none }) rfl hsize rfl rfl (rest := rest) rfl
    (by rw [hb]; exact d4) (by rw [hb]; exact d7) hout hRframes (by simp only [List.map_cons, List.sum_cons, hcat]; omega) hlocks
  obtain ⟨f1, f2⟩ := vx_frame hsame
  rw [hhp] at f1 f2
  have hWs : s.WarmedH U.vm := State.WarmedH.trans hW0 hW
  have hcl : s.vm.findClass cls = some ce.cls := by
    have h9 := hO.cls
    rw [hvm] at h9
    exact h9
  have hall : s.sameButNew ({ U with vm := s.vm } : State) locs mc ms := by
    subst hA
    obtain ⟨e1, e2⟩ := hsame
    rw [State.setFrames_setFrames] at e1
    have h2 : (T.setVm s.vm).sameButNew ({ U with vm := s.vm } : State) [] (0 + 1) (0 + 6) := ⟨e1, e2⟩
    have h3 := X.same.trans h2
    rw [List.append_nil] at h3
    exact h3.mono hc hs
  refine ⟨U, ?_, .threw T.heap.size, hrun, hend, Or.inr ⟨T.heap.size, rfl, cls, ce, locs, hx U hWs.alike f1 (fun q hq => f2 q hq (fun z hz => nomatch hz)), hce, hO.vm, hcl, hWs, hall, hf⟩⟩
  refine st1 _ ?_
  show Steps p.tables e below (T1.setTop { method := m, pc := pc + 3, locals := ls, stack := .ref T.heap.size :: rest, locked := none }) _
  jvm_step X₁.here [X₁.here.top, hexec, d3', Value.category]
  exact hsteps
/-- 'throw new E("text")': new; dup; ldc; invokespecial; athrow -/
theorem vx_throwS {cc : ByteArray} {pc : Nat} (hexec : p.tables.exec = Jvm.exec) (hb : c.code = cc) (hl : l.stackTraces = false) {own cls text : String} {names : List String} {ik is ic mc ms sa : Nat} {A : Nat → Prop}
    (hown : s.vm.findClass own = some m.cls) (hcls : Bundle.fit cls = true) (hnames : ∀ n ∈ names, Bundle.fit n = true)
    (hk : (Cond.classLink own ik cls).before args s = true) (hini : (Cond.initialized cls).before args s = true) (hstr : vk_R own is text sa s) (hat : ∀ w ∈ vx_atS own ic cls names, w.before args s = true)
    (hgood : ∀ w ∈ Cond.classLink own ik cls :: Cond.initialized cls :: vx_atS own ic cls names, vx_ot w = true)
    (hU : vx_Zq Bundle.tN "UNASSIGNED_STACK" Bundle.steD A s s.heap) (hN : vx_Zq Bundle.tN "SUPPRESSED_SENTINEL" Bundle.listD A s s.heap) (hS : va_S A s.heap H locs) (hsize : ls.size = c.maxLocals)
    (d0 : decode cc pc = .ok (.new ik, 3)) (d3 : decode cc (pc + 3) = .ok (.dup, 1)) (d4 : decode cc (pc + 4) = .ok (.ldc is, 2)) (d6 : decode cc (pc + 6) = .ok (.invokespecial ic, 3)) (d9 : decode cc (pc + 9) = .ok (.athrow, 1))
    (hout : ∀ x ∈ c.exceptionTable.toList, covers x (pc + 9) = false)
    (hRframes : names.length + 3 < R.frames) (hRlocals : (rest.map fun v => v.category).sum + (13 * (names.length + 1) + 43) ≤ R.locals) (hRcells : cells + 1 ≤ R.cells) (hRslots : slots + 6 ≤ R.slots) (hlocks : meth.locks = false)
    (hx : ∀ t : State, s.vm.Alike t.vm → H.size ≤ t.heap.size → (∀ q : Nat, q < H.size → t.heap[q]? = H[q]?) → XC cls s t)
    (hf : ∀ z ∈ locs, free z.base) (hc : cells + 1 ≤ mc) (hs : slots + 6 ≤ ms) :
    W p l e R s m args below meth c H locs cells slots (vx_MQ below Qc XC args s mc ms free) (F0 m pc ls rest) := by
  intro T hT X
  have htr : e.platform.stackTraces = false := (show e.platform.stackTraces = l.stackTraces by rw [X.admits.platform]).trans hl
  have Y := vx_rebase X (R' := { frames := R.frames, locals := R.locals, cells := 1, slots := 6 }) (Nat.le_refl _) (Nat.le_refl _) hRcells hRslots
  obtain ⟨s', hA⟩ : ∃ z, z = (T.setVm s.vm).setFrames (.invoking m args :: below) := ⟨_, rfl⟩
  rw [← hA] at Y
  have hvm : s'.vm = s.vm := by rw [hA]; rfl
  have hhp : s'.heap = H := by rw [hA]; exact hT
  have hW0 : s.WarmedH s'.vm := by rw [hvm]; exact State.WarmedH.refl s
  have hat' : ∀ w ∈ vx_atS own ic cls names, w.before args s' = true := fun w hw => vx_ot_at hW0 hvm.symm (hgood w (List.mem_cons_of_mem _ (List.mem_cons_of_mem _ hw))) (hat w hw)
  have hk' : (Cond.classLink own ik cls).before args s' = true := vx_ot_at hW0 hvm.symm (hgood _ List.mem_cons_self) hk
  have hini' : (Cond.initialized cls).before args s' = true := vx_ot_at hW0 hvm.symm (hgood _ (List.mem_cons_of_mem _ List.mem_cons_self)) hini
  have hU' : vx_Zq Bundle.tN "UNASSIGNED_STACK" Bundle.steD A s' s'.heap := by rw [hhp]; exact vx_Zq.moved hW0.alike (hU.kept hS.2.1)
  have hN' : vx_Zq Bundle.tN "SUPPRESSED_SENTINEL" Bundle.listD A s' s'.heap := by rw [hhp]; exact vx_Zq.moved hW0.alike (hN.kept hS.2.1)
  have h : ∀ w ∈ Bundle.ownAtoms own ic cls names, w.before args s' = true := vx_own hat' (vx_isRefq hU'.1) (vx_isRefq hN'.1) hU'.2.word hN'.2.word
  have hown' : s'.vm.findClass own = some m.cls := by rw [hvm]; exact hown
  have hins : (Cond.instantiable cls 6).before args s' = true := h _ (by simp [Bundle.ownAtoms])
  obtain ⟨vm₁, cX, kX, hfX, hkX, -, -, X₁, st1⟩ := Y.newCold hexec (own := own) (C := cls) (index := ik) (n := 6) hown' hk' hins hini'
    (g := F0 m pc ls rest) rfl (by rw [hb]; exact d0) (Nat.le_refl _) (Nat.le_refl _)
  generalize hT1 : (T.setVm vm₁).pushCell { cls := cX, slots := kX.instanceTypes.map defaultValue, vm := .none } = T1 at X₁ st1
  have hcat : (Value.ref T.heap.size).category = 1 := rfl
  have hcellA : T1.heap[T.heap.size]? = some (freshCell cX kX) := by rw [← hT1]; exact State.heap_pushCell_size _ _
  have d3' : decode c.code (pc + 3) = .ok (.dup, 1) := by rw [hb]; exact d3
  have d4' : decode c.code (pc + 4) = .ok (.ldc is, 2) := by rw [hb]; exact d4
  have hstr' : vk_R own is text sa s' := vk_R.warm hW0 hstr
  obtain ⟨U, hsteps, hrun, hend, hW, hsame, ce, hce, hO⟩ := X₁.ctorThrowS hexec htr (own := own) (cls := cls) (names := names) (ic := ic) hown' hcls hnames h (fun x hx => nomatch hx) hfX hkX hcellA (by rw [hhp, hT]; exact Nat.le_refl _) (msg := .ref sa) rfl
    (g := { method := m, pc := pc + 6, locals := ls, stack := .ref sa :: .ref T.heap.size :: .ref T.heap.size :: rest, locked := none }) rfl hsize rfl rfl (rest := rest) rfl
    (by rw [hb]; exact d6) (by rw [hb]; exact d9) hout hRframes (by simp only [List.map_cons, List.sum_cons, hcat]; omega) hlocks
  obtain ⟨f1, f2⟩ := vx_frame hsame
  rw [hhp] at f1 f2
  have hWs : s.WarmedH U.vm := State.WarmedH.trans hW0 hW
  have hcl : s.vm.findClass cls = some ce.cls := by
    have h9 := hO.cls
    rw [hvm] at h9
    exact h9
  have hall : s.sameButNew ({ U with vm := s.vm } : State) locs mc ms := by
    subst hA
    obtain ⟨e1, e2⟩ := hsame
    rw [State.setFrames_setFrames] at e1
    have h2 : (T.setVm s.vm).sameButNew ({ U with vm := s.vm } : State) [] (0 + 1) (0 + 6) := ⟨e1, e2⟩
    have h3 := X.same.trans h2
    rw [List.append_nil] at h3
    exact h3.mono hc hs
  refine ⟨U, ?_, .threw T.heap.size, hrun, hend, Or.inr ⟨T.heap.size, rfl, cls, ce, locs, hx U hWs.alike f1 (fun q hq => f2 q hq (fun z hz => nomatch hz)), hce, hO.vm, hcl, hWs, hall, hf⟩⟩
  refine st1 _ ?_
  show Steps p.tables e below (T1.setTop { method := m, pc := pc + 3, locals := ls, stack := .ref T.heap.size :: rest, locked := none }) _
  jvm_step X₁.here [X₁.here.top, hexec, d3', Value.category]
  exact X₁.ldcString hexec (own := own) (text := text) (index := is) (a := sa) hown' hstr'.1 hstr'.2
    (g := { method := m, pc := pc + 4, locals := ls, stack := .ref T.heap.size :: .ref T.heap.size :: rest, locked := none }) rfl d4' _ hsteps
/-- 'throw new E("text")', the text by a wide index -/
theorem vx_throwSW {cc : ByteArray} {pc : Nat} (hexec : p.tables.exec = Jvm.exec) (hb : c.code = cc) (hl : l.stackTraces = false) {own cls text : String} {names : List String} {ik is ic mc ms sa : Nat} {A : Nat → Prop}
    (hown : s.vm.findClass own = some m.cls) (hcls : Bundle.fit cls = true) (hnames : ∀ n ∈ names, Bundle.fit n = true)
    (hk : (Cond.classLink own ik cls).before args s = true) (hini : (Cond.initialized cls).before args s = true) (hstr : vk_R own is text sa s) (hat : ∀ w ∈ vx_atS own ic cls names, w.before args s = true)
    (hgood : ∀ w ∈ Cond.classLink own ik cls :: Cond.initialized cls :: vx_atS own ic cls names, vx_ot w = true)
    (hU : vx_Zq Bundle.tN "UNASSIGNED_STACK" Bundle.steD A s s.heap) (hN : vx_Zq Bundle.tN "SUPPRESSED_SENTINEL" Bundle.listD A s s.heap) (hS : va_S A s.heap H locs) (hsize : ls.size = c.maxLocals)
    (d0 : decode cc pc = .ok (.new ik, 3)) (d3 : decode cc (pc + 3) = .ok (.dup, 1)) (d4 : decode cc (pc + 4) = .ok (.ldc_w is, 3)) (d7 : decode cc (pc + 7) = .ok (.invokespecial ic, 3)) (d10 : decode cc (pc + 10) = .ok (.athrow, 1))
    (hout : ∀ x ∈ c.exceptionTable.toList, covers x (pc + 10) = false)
    (hRframes : names.length + 3 < R.frames) (hRlocals : (rest.map fun v => v.category).sum + (13 * (names.length + 1) + 43) ≤ R.locals) (hRcells : cells + 1 ≤ R.cells) (hRslots : slots + 6 ≤ R.slots) (hlocks : meth.locks = false)
    (hx : ∀ t : State, s.vm.Alike t.vm → H.size ≤ t.heap.size → (∀ q : Nat, q < H.size → t.heap[q]? = H[q]?) → XC cls s t)
    (hf : ∀ z ∈ locs, free z.base) (hc : cells + 1 ≤ mc) (hs : slots + 6 ≤ ms) :
    W p l e R s m args below meth c H locs cells slots (vx_MQ below Qc XC args s mc ms free) (F0 m pc ls rest) := by
  intro T hT X
  have htr : e.platform.stackTraces = false := (show e.platform.stackTraces = l.stackTraces by rw [X.admits.platform]).trans hl
  have Y := vx_rebase X (R' := { frames := R.frames, locals := R.locals, cells := 1, slots := 6 }) (Nat.le_refl _) (Nat.le_refl _) hRcells hRslots
  obtain ⟨s', hA⟩ : ∃ z, z = (T.setVm s.vm).setFrames (.invoking m args :: below) := ⟨_, rfl⟩
  rw [← hA] at Y
  have hvm : s'.vm = s.vm := by rw [hA]; rfl
  have hhp : s'.heap = H := by rw [hA]; exact hT
  have hW0 : s.WarmedH s'.vm := by rw [hvm]; exact State.WarmedH.refl s
  have hat' : ∀ w ∈ vx_atS own ic cls names, w.before args s' = true := fun w hw => vx_ot_at hW0 hvm.symm (hgood w (List.mem_cons_of_mem _ (List.mem_cons_of_mem _ hw))) (hat w hw)
  have hk' : (Cond.classLink own ik cls).before args s' = true := vx_ot_at hW0 hvm.symm (hgood _ List.mem_cons_self) hk
  have hini' : (Cond.initialized cls).before args s' = true := vx_ot_at hW0 hvm.symm (hgood _ (List.mem_cons_of_mem _ List.mem_cons_self)) hini
  have hU' : vx_Zq Bundle.tN "UNASSIGNED_STACK" Bundle.steD A s' s'.heap := by rw [hhp]; exact vx_Zq.moved hW0.alike (hU.kept hS.2.1)
  have hN' : vx_Zq Bundle.tN "SUPPRESSED_SENTINEL" Bundle.listD A s' s'.heap := by rw [hhp]; exact vx_Zq.moved hW0.alike (hN.kept hS.2.1)
  have h : ∀ w ∈ Bundle.ownAtoms own ic cls names, w.before args s' = true := vx_own hat' (vx_isRefq hU'.1) (vx_isRefq hN'.1) hU'.2.word hN'.2.word
  have hown' : s'.vm.findClass own = some m.cls := by rw [hvm]; exact hown
  have hins : (Cond.instantiable cls 6).before args s' = true := h _ (by simp [Bundle.ownAtoms])
  obtain ⟨vm₁, cX, kX, hfX, hkX, -, -, X₁, st1⟩ := Y.newCold hexec (own := own) (C := cls) (index := ik) (n := 6) hown' hk' hins hini'
    (g := F0 m pc ls rest) rfl (by rw [hb]; exact d0) (Nat.le_refl _) (Nat.le_refl _)
  generalize hT1 : (T.setVm vm₁).pushCell { cls := cX, slots := kX.instanceTypes.map defaultValue, vm := .none } = T1 at X₁ st1
  have hcat : (Value.ref T.heap.size).category = 1 := rfl
  have hcellA : T1.heap[T.heap.size]? = some (freshCell cX kX) := by rw [← hT1]; exact State.heap_pushCell_size _ _
  have d3' : decode c.code (pc + 3) = .ok (.dup, 1) := by rw [hb]; exact d3
  have d4' : decode c.code (pc + 4) = .ok (.ldc_w is, 3) := by rw [hb]; exact d4
  have hstr' : vk_R own is text sa s' := vk_R.warm hW0 hstr
  obtain ⟨U, hsteps, hrun, hend, hW, hsame, ce, hce, hO⟩ := X₁.ctorThrowS hexec htr (own := own) (cls := cls) (names := names) (ic := ic) hown' hcls hnames h (fun x hx => nomatch hx) hfX hkX hcellA (by rw [hhp, hT]; exact Nat.le_refl _) (msg := .ref sa) rfl
    (g := { method := m, pc := pc + 7, locals := ls, stack := .ref sa :: .ref T.heap.size :: .ref T.heap.size :: rest, locked := none }) rfl hsize rfl rfl (rest := rest) rfl
    (by rw [hb]; exact d7) (by rw [hb]; exact d10) hout hRframes (by simp only [List.map_cons, List.sum_cons, hcat]; omega) hlocks
  obtain ⟨f1, f2⟩ := vx_frame hsame
  rw [hhp] at f1 f2
  have hWs : s.WarmedH U.vm := State.WarmedH.trans hW0 hW
  have hcl : s.vm.findClass cls = some ce.cls := by
    have h9 := hO.cls
    rw [hvm] at h9
    exact h9
  have hall : s.sameButNew ({ U with vm := s.vm } : State) locs mc ms := by
    subst hA
    obtain ⟨e1, e2⟩ := hsame
    rw [State.setFrames_setFrames] at e1
    have h2 : (T.setVm s.vm).sameButNew ({ U with vm := s.vm } : State) [] (0 + 1) (0 + 6) := ⟨e1, e2⟩
    have h3 := X.same.trans h2
    rw [List.append_nil] at h3
    exact h3.mono hc hs
  refine ⟨U, ?_, .threw T.heap.size, hrun, hend, Or.inr ⟨T.heap.size, rfl, cls, ce, locs, hx U hWs.alike f1 (fun q hq => f2 q hq (fun z hz => nomatch hz)), hce, hO.vm, hcl, hWs, hall, hf⟩⟩
  refine st1 _ ?_
  show Steps p.tables e below (T1.setTop { method := m, pc := pc + 3, locals := ls, stack := .ref T.heap.size :: rest, locked := none }) _
  jvm_step X₁.here [X₁.here.top, hexec, d3', Value.category]
  exact X₁.ldcStringW hexec (own := own) (text := text) (index := is) (a := sa) hown' hstr'.1 hstr'.2
    (g := { method := m, pc := pc + 4, locals := ls, stack := .ref T.heap.size :: .ref T.heap.size :: rest, locked := none }) rfl d4' _ hsteps
end Ends
section Bodies
variable {l : Launch}
theorem vx_ofW {y : MethodName} {ws ws' : List Cond} {rm : Room} {Pc : Array Value → State → Prop} {Qc : Array Value → State → Outcome → State → Prop} {XC : String → State → State → Prop} {mc ms : Nat} {free : Addr → Prop} {cc : ByteArray} {maxL : Nat} {ret : Option FieldType}
    (hy : plainName y.cls = true) (hw : ws = Cond.code y cc maxL ret :: ws')
    (body : ∀ p e s m args below meth c s₁, BodyLoose p l y (headSpec ws rm) cc maxL ret e s m args below meth c s₁ → c.maxLocals = maxL → (∀ x ∈ c.exceptionTable.toList, False) → Pc args s →
      W p l e (headSpec ws rm).room s m args below meth c s.heap [] 0 0 (vx_MQ below Qc XC args s mc ms free) (entryFrame m args maxL)) : vx_Met l y ws rm Pc Qc XC mc ms free := by
  refine MetFree.of_bodyS (code := cc) (maxLocals := maxL) (ret := ret) hy ?_ ?_
  · intro args s m h hn
    obtain ⟨meth, c, h1, h2, h3, h4, h5, h6, -, -⟩ := Cond.code_spec hn (atoms_spec (ws := ws) h _ (by rw [hw]; exact List.mem_cons_self))
    exact ⟨meth, c, h1, h2, h3, h4, h5, h6⟩
  · intro p e s m args below meth c s₁ B hml hP _
    have hh0 : s₁.heap = s.heap := by rw [B.state]; rfl
    have ht : ∀ x ∈ c.exceptionTable.toList, False := by
      obtain ⟨meth9, c9, h1, h2, -, -, -, -, h7, -⟩ := Cond.code_spec B.named (atoms_spec (ws := ws) B.pre _ (by rw [hw]; exact List.mem_cons_self))
      cases Option.some.inj (h1.symm.trans B.method)
      cases Option.some.inj (h2.symm.trans (Stand.of_body B).code)
      intro x hx
      rw [Array.isEmpty_iff.mp h7] at hx
      cases hx
    obtain ⟨t, a1, o, b1, b2, b3⟩ := body p e s m args below meth c s₁ B hml ht hP s₁ hh0 (Stand.of_body B)
    exact ⟨t, o, a1, b1, b2, b3⟩
/-- the table of a body with handlers -/
theorem vx_table {p : Program} {x y : MethodName} {S : Spec} {cc bytes : ByteArray} {maxL maxL' : Nat} {ret ret' : Option FieldType} {e : Env} {s s₁ : State} {m : MethodId} {args : Array Value} {below : List Frame} {meth : Method} {c : Code} {hh : List (Nat × Nat × Nat × Nat)}
    (B : BodyLoose p l y S cc maxL ret e s m args below meth c s₁) (h : (Cond.codeWith y bytes maxL' ret' hh).before args s = true) : c.exceptionTable.toList = tableOf hh := by
  obtain ⟨m9, meth9, c9, hn9, h1, h2, -, -, h6, -⟩ := Cond.codeWith_spec h
  cases Option.some.inj (hn9.symm.trans B.named)
  cases Option.some.inj (h1.symm.trans B.method)
  cases Option.some.inj (h2.symm.trans (Stand.of_body B).code)
  rw [← h6, table_eq]
end Bodies
end VXA
/-! ===== END ===== -/
/-! ===== BEGIN a static call of a method with an exception table ===== -/
section VXS
variable {p : Program} {l : Launch} {e : Env} {R : Room} {s : State} {m : MethodId} {args : Array Value} {below : List Frame} {meth : Method} {c : Code} {T : State} {H : Heap} {locs : List Loc} {cells slots : Nat}
abbrev vx_CSW (R : Room) (s : State) (args : Array Value) (own : String) (index : Nat) (y : MethodName) (bytes : ByteArray) (maxL : Nat) (ret : Option FieldType) (hh : List (Nat × Nat × Nat × Nat)) (ws : List Cond) (rm : Room) (mc ms n : Nat) : Prop :=
  (rm.cells = mc ∧ rm.slots = ms ∧ rm.frames + 1 ≤ R.frames ∧ 8 + (maxL + 11) + rm.locals ≤ R.locals ∧ (∀ w ∈ ws, ∀ (a' : Array Value) (U : State), s.WarmedH U.vm → w.before a' U = true) ∧ Cond.codeWith y bytes maxL ret hh ∈ ws) ∧
  (Cond.codeWith y bytes maxL ret hh).before args s = true ∧ (Cond.initialized y.cls).before args s = true ∧ (y.cls ≠ "java/lang/invoke/MethodHandle" ∧ y.cls ≠ "java/lang/invoke/VarHandle") ∧
  (∀ sig, parseMethodDescriptor y.desc = some sig → n = sig.parameters.length) ∧ (Cond.methodLink own index y).before args s = true ∧ (Cond.static y).before args s = true
theorem vx_cwSW {own : String} {index maxL mc ms : Nat} {y : MethodName} {bytes : ByteArray} {ret : Option FieldType} {hh : List (Nat × Nat × Nat × Nat)} {Ts ws ws' : List Cond} {rm : Room} (n : Nat) (ht : ∀ w ∈ Ts, w.before args s = true) (hT : GoodIn Ts (va_wsS own index y ws)) (hw : ws = Cond.codeWith y bytes maxL ret hh :: ws') (hrc : rm.cells = mc) (hrs : rm.slots = ms)
    (hd : y.cls ≠ "java/lang/invoke/MethodHandle" ∧ y.cls ≠ "java/lang/invoke/VarHandle" ∧ (parseMethodDescriptor y.desc).map (fun d => d.parameters.length) = some n) (hR : rm.frames + 1 ≤ R.frames ∧ 8 + (maxL + 11) + rm.locals ≤ R.locals) :
    vx_CSW R s args own index y bytes maxL ret hh ws rm mc ms n := by
  have ok : ∀ w ∈ va_wsS own index y ws, w.before args s = true := fun w h => ht w (hT w h).1
  have hG : GoodIn Ts ws := fun w h => hT w (by unfold va_wsS; exact List.mem_append_right _ h)
  have hc : Cond.codeWith y bytes maxL ret hh ∈ ws := by rw [hw]; exact List.mem_cons_self
  refine ⟨⟨hrc, hrs, hR.1, hR.2, pay_in ht hG, hc⟩, ht _ (hG _ hc).1, ok _ (by simp [va_wsS]), ⟨hd.1, hd.2.1⟩, fun sig h => ?_, ok _ (by simp [va_wsS]), ok _ (by simp [va_wsS])⟩
  have h2 := hd.2.2
  rw [h] at h2
  exact (Option.some.inj h2).symm
theorem vx_callSW (X : Stand p l e R s m args below meth c T locs cells slots) (hexec : p.tables.exec = Jvm.exec) {own : String} {index : Nat} {y : MethodName} {bytes : ByteArray} {maxL : Nat} {ret : Option FieldType} {hh : List (Nat × Nat × Nat × Nat)}
    (hown : s.vm.findClass own = some m.cls) (hlink : (Cond.methodLink own index y).before args s = true) (hstat : (Cond.static y).before args s = true) (hinit : (Cond.initialized y.cls).before args s = true)
    (hcode : (Cond.codeWith y bytes maxL ret hh).before args s = true) (hy : y.cls ≠ "java/lang/invoke/MethodHandle" ∧ y.cls ≠ "java/lang/invoke/VarHandle")
    {W9 : Nat} {Pre : Pt → Array Value → Prop} {Post : Pt → Array Value → Option Value → Pt → Prop} (hK : Back l R p e below s args y 3 W9 Pre Post)
    {g : JFrame} (hg : g.method = m) (hsize : g.locals.size = c.maxLocals) {argsL rest : List Value} (hlen : ∀ sig, parseMethodDescriptor y.desc = some sig → argsL.length = sig.parameters.length)
    (hstack : g.stack = argsL.reverse ++ rest) (hW : 2 * g.monitorRoom + (rest.map fun v => v.category).sum ≤ W9) (hdg : decode c.code g.pc = .ok (.invokestatic index, 3))
    (hpre : ∀ vm₁, s.WarmedH vm₁ → Pre ⟨T.setVm vm₁, locs, cells, slots⟩ argsL.toArray) :
    ∃ (v : Option Value) (vm₁ : Vm) (B : Pt), s.WarmedH vm₁ ∧ Stand p l e R s m args below meth c B.U B.locs B.cells B.slots ∧ Post ⟨T.setVm vm₁, locs, cells, slots⟩ argsL.toArray v B ∧
      ∀ target, Steps p.tables e below (B.U.setTop { g with pc := g.pc + 3, stack := v.toList ++ rest }) target → Steps p.tables e below (T.setTop g) target := by
  obtain ⟨mk, methM, cM, hnamed, hmethM, -, -, -, -, -, -, hsigM⟩ := Cond.codeWith_spec hcode
  have hstatic : methM.isStatic = true := Cond.static_spec hnamed hmethM hstat
  obtain ⟨kP, hkP, -⟩ := className_of_methodNamed hnamed
  have hinitP : kP.init = .initialized := Cond.initialized_spec (findClass_of_methodNamed hnamed) hkP hinit
  obtain ⟨vm₁, X₁, hstep₁⟩ := X.invokestatic hexec hown hlink hnamed hmethM hstatic hkP hinitP hy (g := g) hg (argsL := argsL) (rest := rest) (hlen _ hsigM) hstack hdg
  obtain ⟨v, B, X', hpost, hsteps⟩ := hK m meth c ⟨T.setVm vm₁, locs, cells, slots⟩ { g with stack := rest } (.invokestatic index) mk argsL.toArray X₁ hg hsize hdg hW (X₁.named hnamed) (hpre vm₁ X₁.warmed)
  exact ⟨v, vm₁, B, X₁.warmed, X', hpost, fun target h => hstep₁ _ fun acts => by rw [doInvoke_state]; exact hsteps.trans h⟩
theorem vx_runSW {y : MethodName} {bytes cc : ByteArray} {maxL nL mc ms n index : Nat} {ret : Option FieldType} {hh : List (Nat × Nat × Nat × Nat)} {ws : List Cond} {rm : Room} {Pc : Array Value → State → Prop} {Qc : Array Value → State → Outcome → State → Prop} {free : Addr → Prop} {Ts : List Cond} {own : String} {As rest : List Value} {g : JFrame}
    (S : CallFix p m c cc nL s args Ts own) (hM : Met l y ws rm Pc Qc mc ms free) (cw : vx_CSW R s args own index y bytes maxL ret hh ws rm mc ms n) (hp : PreS s H Pc As)
    (hg : g.method = m) (hn : As.length = n) (hsize : g.locals.size = nL) (hstack : g.stack = As.reverse ++ rest) (hW : 2 * g.monitorRoom + (rest.map fun v => v.category).sum ≤ 8) (hdg : decode cc g.pc = .ok (.invokestatic index, 3)) (hf : cells + mc ≤ R.cells ∧ slots + ms ≤ R.slots) :
    va_Run p l e R s m args below meth c H locs cells slots mc ms g rest (Qc As.toArray) (free) := by
  obtain ⟨⟨hrc, hrs, hfr, hlo, hws, hcw⟩, hcode, hini, hy, hlen, hl, hstt⟩ := cw
  have hK : Back l R p e below s args y 3 8 (PreOf R mc ms Pc) (PostOf Qc mc ms free) := va_backW (hh := hh) (bytes := bytes) (maxL := maxL) (ret := ret) hM hp.1 hrc hrs hfr hlo hws hcw (fun a' U hW => word_at hW (Or.inl (by first | rfl | simp [Cond.onTables, Cond.keeps, Cond.steady])) hini)
  obtain ⟨hx, hb, hml, ho, -⟩ := S
  intro T hT X
  obtain ⟨v, vm₁, ⟨U', l2, c2, s2⟩, hW₁, X', ⟨g', mk, t, L, e1, e2, hq, h1, hL, h2, h3⟩, st⟩ := vx_callSW X hx (hh := hh) (bytes := bytes) (maxL := maxL) (ret := ret) ho hl hstt hini hcode hy hK hg (hsize.trans hml.symm) (argsL := As) (rest := rest) (fun sig h => hn.trans (hlen sig h)) hstack hW (by rw [hb]; exact hdg)
    (fun vm₁ hW₁ => ⟨hf.1, hf.2, hp.2 (T.setVm vm₁) hT hW₁⟩)
  dsimp only [Pt.U, Pt.locs, Pt.cells, Pt.slots] at X' e1 e2 h1 h2 h3 st
  subst h1; subst h2; subst h3
  exact ⟨v, (T.setVm vm₁).calling g' mk As.toArray, t, U', L, hT, X', hL, e1, e2, hq, st⟩
/-- not caught here, past rows that name other classes: it goes on to the caller -/
theorem vx_outP {p : Program} {l : Launch} {e : Env} {R : Room} {s : State} {m : MethodId} {args : Array Value} {below : List Frame} {meth : Method} {c : Code} {H : Heap} {locs : List Loc} {cells slots : Nat} {free : Addr → Prop} {ls : Array Slot} {rest : List Value} {Qc : Array Value → State → Outcome → State → Prop} {XC : String → State → State → Prop}
    {pc : Nat} {own E : String} {ce : Cell} {q : Addr} {mc ms : Nat} (hown : s.vm.findClass own = some m.cls) (hlocks : meth.locks = false)
    (hpass : ∀ z ∈ c.exceptionTable.toList, covers z pc = false ∨ (z.catchType ≠ 0 ∧ ∃ nm : String, (Cond.classLink own z.catchType nm).before args s = true ∧ va_Nc E nm s)) (hcell : H[q]? = some ce) (hv : ce.vm = .none) (hcl : s.vm.findClass E = some ce.cls)
    (hx : ∀ t : State, t.heap = H → s.vm.Alike t.vm → XC E s t) (hf : ∀ z ∈ locs, free z.base) (hc : cells ≤ mc) (hs : slots ≤ ms) :
    vx_W p l e R s m args below meth c H locs cells slots (vx_MQ below Qc XC args s mc ms free) (F0 m pc ls rest) q := by
  intro T hT X
  have hpl : e.platform.magicAccessors = ({} : Platform).magicAccessors := by rw [X.admits.platform]
  obtain ⟨vm', hW', X', st⟩ := X.outThrough hlocks q (g := F0 m pc ls rest) rfl rfl rfl (cell := ce) (by rw [hT]; exact hcell) (by rw [hv]; rfl)
    (by obtain ⟨k9, h9, -⟩ := Vm.findClass_spec hcl; exact ⟨k9, h9⟩) (fun z hz => by
      rcases hpass z hz with h | ⟨hz0, nm, hl1, hn1⟩
      · exact Or.inl h
      · obtain ⟨c6, hc6, hcl6⟩ := Cond.classLink_spec hown hl1 e.platform hpl
        obtain ⟨a8, b8, h1, h2, h3⟩ := hn1
        cases Option.some.inj (h1.symm.trans hcl)
        cases Option.some.inj (h2.symm.trans hc6)
        exact Or.inr ⟨hz0, _, hcl6, h3⟩)
  obtain ⟨g₀, hfr⟩ := X'.frames_eq
  have hcell9 : ((T.setVm vm').setFrames (.throwing q :: below)).heap[q]? = some ce := by
    show T.heap[q]? = some ce
    rw [hT]; exact hcell
  have hend : Ended ((T.setVm vm').setFrames (.throwing q :: below)) below (.threw q) := State.frames_setFrames _ (State.cur_lt_of_frames hfr)
  refine ⟨(T.setVm vm').setFrames (.throwing q :: below), ?_, .threw q, X'.here.running, hend, Or.inr ⟨q, rfl, E, ce, locs, hx _ hT (X'.ends _).1.alike, hcell9, hv, hcl, (X'.ends _).1, (X'.ends _).2.mono hc hs, hf⟩⟩
  rw [X.pushThrowing_eq]
  exact st
/-- a thing of a world lies in the heap -/
theorem vx_lt {D : va_G} {cl : List vw_C} {ws : va_W} {H1 : Heap} (h : va_P D cl ws H1) {k : Nat} {q : Nat × va_E} (hk : ws[k]? = some q) : q.1 < H1.size := (h k q hk).lt
end VXS
/-! ===== END ===== -/
/-! ===== BEGIN methods with a table of their own: called by a name, returning or throwing ===== -/
section VXH
/-! vx_backW, vx_callVX, vx_callSX, vx_callVW, vx_runVW, vx_runVX, vx_runSX, vx_ofWH follow the same proofs as their sisters above (Free/Laws.lean, Shelf42/LK1.lean); vx_outP calls Shelf42/NT130.lean (outThrough). -/
section
variable {l : Launch} {R : Room} {p : Program} {e : Env} {below : List Frame} {s : State} {sargs : Array Value} {y : MethodName} {len W9 : Nat}
theorem vx_backW {ws : List Cond} {rm : Room} {Pc : Array Value → State → Prop} {Qc : Array Value → State → Outcome → State → Prop} {XC : String → State → State → Prop} {mc ms : Nat} {free : Addr → Prop} {bytes : ByteArray} {maxL : Nat} {ret : Option FieldType} {hh : List (Nat × Nat × Nat × Nat)}
    (hM : vx_Met l y ws rm Pc Qc XC mc ms free) (hblind : FrameBlind Pc) (hrc : rm.cells = mc) (hrs : rm.slots = ms)
    (hframes : rm.frames + 1 ≤ R.frames) (hlocals : W9 + (maxL + 11) + rm.locals ≤ R.locals)
    (hws : ∀ w ∈ ws, ∀ a' U, s.WarmedH U.vm → w.before a' U = true) (hcode : Cond.codeWith y bytes maxL ret hh ∈ ws) (hinit : ∀ a' U, s.WarmedH U.vm → (Cond.initialized y.cls).before a' U = true) :
    vx_Back l R p e below s sargs y len W9 (PreOf R mc ms Pc) (PostOf Qc mc ms free) (vx_Post XC mc ms free) := by
  intro m meth c A g ig mk a X hg hsize hdg hW hn hp
  have h1 : (headSpec ws rm).pre.before a A.U = true := atoms_intro fun w hw => hws w hw _ _ X.warmed
  have h2 : (Cond.codeWith y bytes maxL ret hh).before a A.U = true := hws _ hcode _ _ X.warmed
  have h3 : (Cond.initialized y.cls).before a A.U = true := hinit _ _ X.warmed
  have h4 : A.cells + (headSpec ws rm).room.cells ≤ R.cells := by rw [show (headSpec ws rm).room.cells = mc from hrc]; exact hp.1
  have h5 : A.slots + (headSpec ws rm).room.slots ≤ R.slots := by rw [show (headSpec ws rm).room.slots = ms from hrs]; exact hp.2.1
  have hPc : Pc a (A.U.calling g mk a) := hblind _ _ _ _ hp.2.2
  obtain ⟨U, Ls, c0, s0⟩ := A
  dsimp only [Pt.U, Pt.locs, Pt.cells, Pt.slots] at h1 h2 h3 h4 h5 X hn hPc ⊢
  obtain ⟨m9, methY, cY, hn9, hmY, hcY, -, hlY, -⟩ := Cond.codeWith_spec h2
  cases Option.some.inj (hn9.symm.trans hn)
  obtain ⟨kY, hkY, -⟩ := className_of_methodNamed hn
  have hinitY : kY.init = .initialized := Cond.initialized_spec (findClass_of_methodNamed hn) hkY h3
  have h : At U g.method c below := by rw [hg]; exact X.here
  have hlocals9 : W9 + (maxL + 11) + (headSpec ws rm).room.locals ≤ R.locals := hlocals
  have happ : (headSpec ws rm).appliesLoose y e.platform (U.calling g mk a) = true :=
    Spec.appliesLoose_calling (g := g) h hdg hn hkY hinitY
      (X.room_calling (g := g) (R' := (headSpec ws rm).room) hsize hmY hcY hframes (by rw [hlY]; omega) h4 h5) h1
  obtain ⟨mid, hmid⟩ := h.above
  have hfr : (U.setTop g).frames = (.java g :: mid) ++ below := by rw [State.frames_setTop' g h.top, hmid]; rfl
  obtain ⟨o, s₂, hsteps, -, hend, hq⟩ := Steps.callFree hM p X.admits X.cas X.clock (acts := []) hfr happ hPc trivial
  have hq' : vx_Q Qc XC mc ms free a (U.calling g mk a) o s₂ := hq
  rw [State.frames_setTop' g h.top] at hend
  obtain ⟨g₀, hg0⟩ := Option.isSome_iff_exists.mp h.top
  obtain ⟨r, hr⟩ := State.topJava?_eq_some.mp hg0
  have hr' : (({ U with heap := s₂.heap, slotsUsed := s₂.slotsUsed } : State).setVm s₂.vm).frames = .java g₀ :: r := hr
  rcases hq' with ⟨hqc, L, hfe, hL⟩ | ⟨q, rfl, E, ce, L, hx, hce, hcv, hcl, hW₂, hsm, hL⟩
  · obtain ⟨⟨v, rfl⟩, hW₂, e2, q2, q3, q4, q5, q6⟩ := id hfe
    have e3 : s₂ = ({ (U.calling g mk a).setFrames s₂.frames with heap := s₂.heap, slotsUsed := s₂.slotsUsed } : State).setVm s₂.vm := by
      have : s₂ = ({ s₂ with vm := (U.calling g mk a).vm } : State).setVm s₂.vm := rfl
      rw [e2] at this
      exact this
    obtain ⟨c₂, i₂, len₂, hc₂, hd₂, hf₂⟩ := hend
    have hW' : U.WarmedH s₂.vm := hW₂
    have hcc : c₂ = c := by
      have h1 : s₂.code? g.method = U.code? g.method := by
        rw [State.code?_eq, State.code?_eq, hW'.alike.method?]
      exact Option.some.inj (hc₂.symm.trans (h1.trans h.code))
    subst hcc
    have hlen : len₂ = len := by rw [hdg] at hd₂; cases hd₂; rfl
    subst hlen
    have hs₂ : s₂ = (({ U with heap := s₂.heap, slotsUsed := s₂.slotsUsed } : State).setVm s₂.vm).setTop { g with pc := g.pc + len₂, stack := v.toList ++ g.stack } := by
      refine e3.trans ?_
      rw [hf₂, State.calling_eq h.top, State.setFrames_setFrames, State.setTop_of_frames _ hr', hr]
      rfl
    have hsame : U.sameButNew ({ U with heap := s₂.heap, slotsUsed := s₂.slotsUsed } : State) L mc ms := by
      refine ⟨?_, q2, q3, q4, q5, q6⟩
      obtain ⟨t, ht, -⟩ := State.frames_cons hr
      show ({ U with heap := s₂.heap, slotsUsed := s₂.slotsUsed } : State) = { U.setFrames U.frames with heap := s₂.heap, slotsUsed := s₂.slotsUsed }
      rw [State.setFrames_self ht]
    subst hg
    refine Or.inl ⟨v, ⟨(({ U with heap := s₂.heap, slotsUsed := s₂.slotsUsed } : State).setVm s₂.vm), Ls ++ L, c0 + mc, s0 + ms⟩,
      ⟨X.admits, X.cas, X.clock, X.frames, X.room, X.hears, X.method, X.code, (X.here.setHeapUsed s₂.heap s₂.slotsUsed).setVm hW'.alike, X.tail, State.WarmedH.trans X.warmed hW', X.limits, X.bytes, X.same.trans (hsame.setVm s.vm)⟩,
      ⟨g, mk, s₂, L, rfl, rfl, hqc, rfl, hL, rfl, rfl⟩, ?_⟩
    show Steps p.tables e below _ ((({ U with heap := s₂.heap, slotsUsed := s₂.slotsUsed } : State).setVm s₂.vm).setTop { g with pc := g.pc + len₂, stack := v.toList ++ g.stack })
    rw [← hs₂]
    exact hsteps
  · obtain ⟨e2, q2, q3, q4, q5, q6⟩ := id hsm
    have e3 : s₂ = ({ (U.calling g mk a).setFrames s₂.frames with heap := s₂.heap, slotsUsed := s₂.slotsUsed } : State).setVm s₂.vm := by
      have : s₂ = ({ s₂ with vm := (U.calling g mk a).vm } : State).setVm s₂.vm := rfl
      rw [e2] at this
      exact this
    have hf₂ : s₂.frames = .throwing q :: .java g :: U.frames.tail := hend
    have hW' : U.WarmedH s₂.vm := hW₂
    have hs₂ : s₂ = ((({ U with heap := s₂.heap, slotsUsed := s₂.slotsUsed } : State).setVm s₂.vm).setTop g).pushFrame (.throwing q) := by
      refine e3.trans ?_
      rw [hf₂, State.calling_eq h.top, State.setFrames_setFrames, State.pushFrame, State.frames_setTop _ hr', State.setTop_of_frames _ hr', State.setFrames_setFrames, hr]
      rfl
    have hsame : U.sameButNew ({ U with heap := s₂.heap, slotsUsed := s₂.slotsUsed } : State) L mc ms := by
      refine ⟨?_, q2, q3, q4, q5, q6⟩
      obtain ⟨t, ht, -⟩ := State.frames_cons hr
      show ({ U with heap := s₂.heap, slotsUsed := s₂.slotsUsed } : State) = { U.setFrames U.frames with heap := s₂.heap, slotsUsed := s₂.slotsUsed }
      rw [State.setFrames_self ht]
    subst hg
    refine Or.inr ⟨q, ⟨(({ U with heap := s₂.heap, slotsUsed := s₂.slotsUsed } : State).setVm s₂.vm), Ls ++ L, c0 + mc, s0 + ms⟩,
      ⟨X.admits, X.cas, X.clock, X.frames, X.room, X.hears, X.method, X.code, (X.here.setHeapUsed s₂.heap s₂.slotsUsed).setVm hW'.alike, X.tail, State.WarmedH.trans X.warmed hW', X.limits, X.bytes, X.same.trans (hsame.setVm s.vm)⟩,
      ⟨g, mk, s₂, L, E, ce, rfl, rfl, hx, hce, hcv, hcl, rfl, hL, rfl, rfl⟩, ?_⟩
    show Steps p.tables e below _ (((({ U with heap := s₂.heap, slotsUsed := s₂.slotsUsed } : State).setVm s₂.vm).setTop g).pushFrame (.throwing q))
    rw [← hs₂]
    exact hsteps
end
variable {p : Program} {l : Launch} {e : Env} {R : Room} {s : State} {m : MethodId} {args : Array Value} {below : List Frame} {meth : Method} {c : Code} {T : State} {H : Heap} {locs : List Loc} {cells slots : Nat}
theorem vx_callVX (X : Stand p l e R s m args below meth c T locs cells slots) (hexec : p.tables.exec = Jvm.exec) {own C : String} {index : Nat} {y : MethodName} {bytes : ByteArray} {maxL : Nat} {ret : Option FieldType} {hh : List (Nat × Nat × Nat × Nat)}
    (hown : s.vm.findClass own = some m.cls) (hlink : (Cond.methodLink own index y).before args s = true) (hinst : (Cond.instanceMethod y).before args s = true) (hsel : (Cond.selects C y y).before args s = true)
    (hcode : (Cond.codeWith y bytes maxL ret hh).before args s = true) (hy : y.cls ≠ "java/lang/invoke/MethodHandle" ∧ y.cls ≠ "java/lang/invoke/VarHandle")
    {W9 : Nat} {Pre : Pt → Array Value → Prop} {Post : Pt → Array Value → Option Value → Pt → Prop} {PostX : Pt → Array Value → Addr → Pt → Prop} (hK : vx_Back l R p e below s args y 3 W9 Pre Post PostX)
    {b : Addr} {cellB : Cell} (hcell : T.heap[b]? = some cellB) (hobj : cellB.vm.isStatics = false) (hcls : s.vm.findClass C = some cellB.cls)
    {g : JFrame} (hg : g.method = m) (hsize : g.locals.size = c.maxLocals) {argsL rest : List Value} (hlen : ∀ sig, parseMethodDescriptor y.desc = some sig → argsL.length = sig.parameters.length)
    (hstack : g.stack = argsL.reverse ++ .ref b :: rest) (hW : 2 * g.monitorRoom + (rest.map fun v => v.category).sum ≤ W9) (hdg : decode c.code g.pc = .ok (.invokevirtual index, 3))
    (hpre : ∀ vm₁, s.WarmedH vm₁ → Pre ⟨T.setVm vm₁, locs, cells, slots⟩ (Value.ref b :: argsL).toArray) :
    (∃ (v : Option Value) (vm₁ : Vm) (B : Pt), s.WarmedH vm₁ ∧ Stand p l e R s m args below meth c B.U B.locs B.cells B.slots ∧ Post ⟨T.setVm vm₁, locs, cells, slots⟩ (Value.ref b :: argsL).toArray v B ∧
      ∀ target, Steps p.tables e below (B.U.setTop { g with pc := g.pc + 3, stack := v.toList ++ rest }) target → Steps p.tables e below (T.setTop g) target) ∨
    (∃ (q : Addr) (vm₁ : Vm) (B : Pt), s.WarmedH vm₁ ∧ Stand p l e R s m args below meth c B.U B.locs B.cells B.slots ∧ PostX ⟨T.setVm vm₁, locs, cells, slots⟩ (Value.ref b :: argsL).toArray q B ∧
      Steps p.tables e below (T.setTop g) ((B.U.setTop { g with stack := rest }).pushFrame (.throwing q))) := by
  obtain ⟨mk, methM, hnamed, hmethM, hstM, habM⟩ := Cond.instanceMethod_spec hinst
  obtain ⟨m8, methM', cM, hn8, hmethM', -, -, -, -, -, -, hsigM⟩ := Cond.codeWith_spec hcode
  cases Option.some.inj (hn8.symm.trans hnamed)
  cases hmethM.symm.trans hmethM'
  obtain ⟨c2, r2, m2, q1, q2, q3, q4, kP, hkP, hkPi⟩ := Cond.selects_spec hsel
  cases hcls.symm.trans q1
  cases (State.methodFound?_of_named hnamed hy).symm.trans q2
  cases hnamed.symm.trans q3
  have hselP : selectMethod e.platform s.vm cellB.cls mk = .method mk := by rw [Launch.admits_selectMethod X.admits]; exact q4
  obtain ⟨vm₁, X₁, hstep₁⟩ := X.invokevirtual hexec hown hlink hnamed hmethM hstM hkP hkPi hy (a := b) (cell := cellB) hcell
    (fun z h => by rw [h] at hobj; cases hobj) hselP hmethM habM hkP hkPi (g := g) hg (argsL := argsL) (rest := rest) (hlen _ hsigM) hstack hdg
  rcases hK m meth c ⟨T.setVm vm₁, locs, cells, slots⟩ { g with stack := rest } (.invokevirtual index) mk (Value.ref b :: argsL).toArray X₁ hg hsize hdg hW (X₁.named hnamed) (hpre vm₁ X₁.warmed) with ⟨v, B, X', hpost, hsteps⟩ | ⟨q, B, X', hpost, hsteps⟩
  · exact Or.inl ⟨v, vm₁, B, X₁.warmed, X', hpost, fun target h => hstep₁ _ fun acts => by rw [doInvoke_state]; exact hsteps.trans h⟩
  · exact Or.inr ⟨q, vm₁, B, X₁.warmed, X', hpost, hstep₁ _ fun acts => by rw [doInvoke_state]; exact hsteps⟩
theorem vx_callSX (X : Stand p l e R s m args below meth c T locs cells slots) (hexec : p.tables.exec = Jvm.exec) {own : String} {index : Nat} {y : MethodName} {bytes : ByteArray} {maxL : Nat} {ret : Option FieldType} {hh : List (Nat × Nat × Nat × Nat)}
    (hown : s.vm.findClass own = some m.cls) (hlink : (Cond.methodLink own index y).before args s = true) (hstat : (Cond.static y).before args s = true) (hinit : (Cond.initialized y.cls).before args s = true)
    (hcode : (Cond.codeWith y bytes maxL ret hh).before args s = true) (hy : y.cls ≠ "java/lang/invoke/MethodHandle" ∧ y.cls ≠ "java/lang/invoke/VarHandle")
    {W9 : Nat} {Pre : Pt → Array Value → Prop} {Post : Pt → Array Value → Option Value → Pt → Prop} {PostX : Pt → Array Value → Addr → Pt → Prop} (hK : vx_Back l R p e below s args y 3 W9 Pre Post PostX)
    {g : JFrame} (hg : g.method = m) (hsize : g.locals.size = c.maxLocals) {argsL rest : List Value} (hlen : ∀ sig, parseMethodDescriptor y.desc = some sig → argsL.length = sig.parameters.length)
    (hstack : g.stack = argsL.reverse ++ rest) (hW : 2 * g.monitorRoom + (rest.map fun v => v.category).sum ≤ W9) (hdg : decode c.code g.pc = .ok (.invokestatic index, 3))
    (hpre : ∀ vm₁, s.WarmedH vm₁ → Pre ⟨T.setVm vm₁, locs, cells, slots⟩ argsL.toArray) :
    (∃ (v : Option Value) (vm₁ : Vm) (B : Pt), s.WarmedH vm₁ ∧ Stand p l e R s m args below meth c B.U B.locs B.cells B.slots ∧ Post ⟨T.setVm vm₁, locs, cells, slots⟩ argsL.toArray v B ∧
      ∀ target, Steps p.tables e below (B.U.setTop { g with pc := g.pc + 3, stack := v.toList ++ rest }) target → Steps p.tables e below (T.setTop g) target) ∨
    (∃ (q : Addr) (vm₁ : Vm) (B : Pt), s.WarmedH vm₁ ∧ Stand p l e R s m args below meth c B.U B.locs B.cells B.slots ∧ PostX ⟨T.setVm vm₁, locs, cells, slots⟩ argsL.toArray q B ∧
      Steps p.tables e below (T.setTop g) ((B.U.setTop { g with stack := rest }).pushFrame (.throwing q))) := by
  obtain ⟨mk, methM, cM, hnamed, hmethM, -, -, -, -, -, -, hsigM⟩ := Cond.codeWith_spec hcode
  have hstatic : methM.isStatic = true := Cond.static_spec hnamed hmethM hstat
  obtain ⟨kP, hkP, -⟩ := className_of_methodNamed hnamed
  have hinitP : kP.init = .initialized := Cond.initialized_spec (findClass_of_methodNamed hnamed) hkP hinit
  obtain ⟨vm₁, X₁, hstep₁⟩ := X.invokestatic hexec hown hlink hnamed hmethM hstatic hkP hinitP hy (g := g) hg (argsL := argsL) (rest := rest) (hlen _ hsigM) hstack hdg
  rcases hK m meth c ⟨T.setVm vm₁, locs, cells, slots⟩ { g with stack := rest } (.invokestatic index) mk argsL.toArray X₁ hg hsize hdg hW (X₁.named hnamed) (hpre vm₁ X₁.warmed) with ⟨v, B, X', hpost, hsteps⟩ | ⟨q, B, X', hpost, hsteps⟩
  · exact Or.inl ⟨v, vm₁, B, X₁.warmed, X', hpost, fun target h => hstep₁ _ fun acts => by rw [doInvoke_state]; exact hsteps.trans h⟩
  · exact Or.inr ⟨q, vm₁, B, X₁.warmed, X', hpost, hstep₁ _ fun acts => by rw [doInvoke_state]; exact hsteps⟩
theorem vx_callVW (X : Stand p l e R s m args below meth c T locs cells slots) (hexec : p.tables.exec = Jvm.exec) {own C : String} {index : Nat} {y : MethodName} {bytes : ByteArray} {maxL : Nat} {ret : Option FieldType} {hh : List (Nat × Nat × Nat × Nat)}
    (hown : s.vm.findClass own = some m.cls) (hlink : (Cond.methodLink own index y).before args s = true) (hinst : (Cond.instanceMethod y).before args s = true) (hsel : (Cond.selects C y y).before args s = true)
    (hcode : (Cond.codeWith y bytes maxL ret hh).before args s = true) (hy : y.cls ≠ "java/lang/invoke/MethodHandle" ∧ y.cls ≠ "java/lang/invoke/VarHandle")
    {W9 : Nat} {Pre : Pt → Array Value → Prop} {Post : Pt → Array Value → Option Value → Pt → Prop} (hK : Back l R p e below s args y 3 W9 Pre Post)
    {b : Addr} {cellB : Cell} (hcell : T.heap[b]? = some cellB) (hobj : cellB.vm.isStatics = false) (hcls : s.vm.findClass C = some cellB.cls)
    {g : JFrame} (hg : g.method = m) (hsize : g.locals.size = c.maxLocals) {argsL rest : List Value} (hlen : ∀ sig, parseMethodDescriptor y.desc = some sig → argsL.length = sig.parameters.length)
    (hstack : g.stack = argsL.reverse ++ .ref b :: rest) (hW : 2 * g.monitorRoom + (rest.map fun v => v.category).sum ≤ W9) (hdg : decode c.code g.pc = .ok (.invokevirtual index, 3))
    (hpre : ∀ vm₁, s.WarmedH vm₁ → Pre ⟨T.setVm vm₁, locs, cells, slots⟩ (Value.ref b :: argsL).toArray) :
    ∃ (v : Option Value) (vm₁ : Vm) (B : Pt), s.WarmedH vm₁ ∧ Stand p l e R s m args below meth c B.U B.locs B.cells B.slots ∧ Post ⟨T.setVm vm₁, locs, cells, slots⟩ (Value.ref b :: argsL).toArray v B ∧
      ∀ target, Steps p.tables e below (B.U.setTop { g with pc := g.pc + 3, stack := v.toList ++ rest }) target → Steps p.tables e below (T.setTop g) target := by
  obtain ⟨mk, methM, hnamed, hmethM, hstM, habM⟩ := Cond.instanceMethod_spec hinst
  obtain ⟨m8, methM', cM, hn8, hmethM', -, -, -, -, -, -, hsigM⟩ := Cond.codeWith_spec hcode
  cases Option.some.inj (hn8.symm.trans hnamed)
  cases hmethM.symm.trans hmethM'
  obtain ⟨c2, r2, m2, q1, q2, q3, q4, kP, hkP, hkPi⟩ := Cond.selects_spec hsel
  cases hcls.symm.trans q1
  cases (State.methodFound?_of_named hnamed hy).symm.trans q2
  cases hnamed.symm.trans q3
  have hselP : selectMethod e.platform s.vm cellB.cls mk = .method mk := by rw [Launch.admits_selectMethod X.admits]; exact q4
  obtain ⟨vm₁, X₁, hstep₁⟩ := X.invokevirtual hexec hown hlink hnamed hmethM hstM hkP hkPi hy (a := b) (cell := cellB) hcell
    (fun z h => by rw [h] at hobj; cases hobj) hselP hmethM habM hkP hkPi (g := g) hg (argsL := argsL) (rest := rest) (hlen _ hsigM) hstack hdg
  obtain ⟨v, B, X', hpost, hsteps⟩ := hK m meth c ⟨T.setVm vm₁, locs, cells, slots⟩ { g with stack := rest } (.invokevirtual index) mk (Value.ref b :: argsL).toArray X₁ hg hsize hdg hW (X₁.named hnamed) (hpre vm₁ X₁.warmed)
  exact ⟨v, vm₁, B, X₁.warmed, X', hpost, fun target h => hstep₁ _ fun acts => by rw [doInvoke_state]; exact hsteps.trans h⟩
abbrev vx_CVW (R : Room) (s : State) (args : Array Value) (own C : String) (index : Nat) (y : MethodName) (bytes : ByteArray) (maxL : Nat) (ret : Option FieldType) (hh : List (Nat × Nat × Nat × Nat)) (ws : List Cond) (rm : Room) (mc ms n : Nat) : Prop :=
  (rm.cells = mc ∧ rm.slots = ms ∧ rm.frames + 1 ≤ R.frames ∧ 8 + (maxL + 11) + rm.locals ≤ R.locals ∧ (∀ w ∈ ws, ∀ (a' : Array Value) (U : State), s.WarmedH U.vm → w.before a' U = true) ∧ Cond.codeWith y bytes maxL ret hh ∈ ws) ∧
  (Cond.codeWith y bytes maxL ret hh).before args s = true ∧ (Cond.initialized y.cls).before args s = true ∧ (y.cls ≠ "java/lang/invoke/MethodHandle" ∧ y.cls ≠ "java/lang/invoke/VarHandle") ∧
  (∀ sig, parseMethodDescriptor y.desc = some sig → n = sig.parameters.length) ∧ (Cond.methodLink own index y).before args s = true ∧ (Cond.instanceMethod y).before args s = true ∧ (Cond.selects C y y).before args s = true
theorem vx_cwVW {own C : String} {index maxL mc ms : Nat} {y : MethodName} {bytes : ByteArray} {ret : Option FieldType} {hh : List (Nat × Nat × Nat × Nat)} {Ts ws ws' : List Cond} {rm : Room} (n : Nat) (ht : ∀ w ∈ Ts, w.before args s = true) (hT : GoodIn Ts (wsV own index C y ws)) (hw : ws = Cond.codeWith y bytes maxL ret hh :: ws') (hrc : rm.cells = mc) (hrs : rm.slots = ms)
    (hd : y.cls = C ∧ y.cls ≠ "java/lang/invoke/MethodHandle" ∧ y.cls ≠ "java/lang/invoke/VarHandle" ∧ (parseMethodDescriptor y.desc).map (fun d => d.parameters.length) = some n) (hR : rm.frames + 1 ≤ R.frames ∧ 8 + (maxL + 11) + rm.locals ≤ R.locals) :
    vx_CVW R s args own C index y bytes maxL ret hh ws rm mc ms n := by
  obtain ⟨hC, hd⟩ := hd
  subst hC
  have ok : ∀ w ∈ wsV own index y.cls y ws, w.before args s = true := fun w h => ht w (hT w h).1
  have hG : GoodIn Ts ws := fun w h => hT w (by unfold wsV; exact List.mem_append_right _ h)
  have hc : Cond.codeWith y bytes maxL ret hh ∈ ws := by rw [hw]; exact List.mem_cons_self
  refine ⟨⟨hrc, hrs, hR.1, hR.2, pay_in ht hG, hc⟩, ht _ (hG _ hc).1, ok _ (by simp [wsV]), ⟨hd.1, hd.2.1⟩, fun sig h => ?_, ok _ (by simp [wsV]), ok _ (by simp [wsV]), ok _ (by simp [wsV])⟩
  have h2 := hd.2.2
  rw [h] at h2
  exact (Option.some.inj h2).symm
theorem vx_runVW {y : MethodName} {bytes cc : ByteArray} {maxL nL mc ms n index : Nat} {ret : Option FieldType} {hh : List (Nat × Nat × Nat × Nat)} {ws : List Cond} {rm : Room} {Pc : Array Value → State → Prop} {Qc : Array Value → State → Outcome → State → Prop} {free : Addr → Prop} {Ts : List Cond} {own C : String} {b : Addr} {As rest : List Value} {g : JFrame}
    (S : CallFix p m c cc nL s args Ts own) (hM : Met l y ws rm Pc Qc mc ms free) (cw : vx_CVW R s args own C index y bytes maxL ret hh ws rm mc ms n) (hp : PreV s H C b Pc As)
    (hg : g.method = m) (hn : As.length = n) (hsize : g.locals.size = nL) (hstack : g.stack = As.reverse ++ .ref b :: rest) (hW : 2 * g.monitorRoom + (rest.map fun v => v.category).sum ≤ 8) (hdg : decode cc g.pc = .ok (.invokevirtual index, 3)) (hf : cells + mc ≤ R.cells ∧ slots + ms ≤ R.slots) :
    va_Run p l e R s m args below meth c H locs cells slots mc ms g rest (Qc (Value.ref b :: As).toArray) free := by
  obtain ⟨⟨hrc, hrs, hfr, hlo, hws, hcw⟩, hcode, hini, hy, hlen, hl, hin, hse⟩ := cw
  have hK : Back l R p e below s args y 3 8 (PreOf R mc ms Pc) (PostOf Qc mc ms free) := va_backW (hh := hh) (bytes := bytes) (maxL := maxL) (ret := ret) hM hp.1 hrc hrs hfr hlo hws hcw (fun a' U hW => word_at hW (Or.inl (by first | rfl | simp [Cond.onTables, Cond.keeps, Cond.steady])) hini)
  obtain ⟨hx, hb, hml, ho, -⟩ := S
  obtain ⟨-, ⟨cellB, hcB, hoB, hclB⟩, hPc⟩ := hp
  intro T hT X
  obtain ⟨v, vm₁, ⟨U', l2, c2, s2⟩, hW₁, X', ⟨g', mk, t, L, e1, e2, hq, h1, hL, h2, h3⟩, st⟩ := vx_callVW X hx (C := C) (hh := hh) (bytes := bytes) (maxL := maxL) (ret := ret) ho hl hin hse hcode hy hK (by rw [hT]; exact hcB) hoB hclB hg (hsize.trans hml.symm) (argsL := As) (rest := rest) (fun sig h => hn.trans (hlen sig h)) hstack hW (by rw [hb]; exact hdg)
    (fun vm₁ hW₁ => ⟨hf.1, hf.2, hPc (T.setVm vm₁) hT hW₁⟩)
  dsimp only [Pt.U, Pt.locs, Pt.cells, Pt.slots] at X' e1 e2 h1 h2 h3 st
  subst h1; subst h2; subst h3
  exact ⟨v, (T.setVm vm₁).calling g' mk (Value.ref b :: As).toArray, t, U', L, hT, X', hL, e1, e2, hq, st⟩
section
variable {y : MethodName} {bytes cc : ByteArray} {maxL nL mc ms n index : Nat} {ret : Option FieldType} {ws : List Cond} {rm : Room} {Pc : Array Value → State → Prop} {Qc : Array Value → State → Outcome → State → Prop} {XC : String → State → State → Prop} {free : Addr → Prop} {Ts : List Cond} {own C : String} {b : Addr} {As rest : List Value} {g : JFrame}
theorem vx_runVX {hh : List (Nat × Nat × Nat × Nat)} (S : CallFix p m c cc nL s args Ts own) (hM : vx_Met l y ws rm Pc Qc XC mc ms free) (cw : vx_CVW R s args own C index y bytes maxL ret hh ws rm mc ms n) (hp : PreV s H C b Pc As)
    (hg : g.method = m) (hn : As.length = n) (hsize : g.locals.size = nL) (hstack : g.stack = As.reverse ++ .ref b :: rest) (hW : 2 * g.monitorRoom + (rest.map fun v => v.category).sum ≤ 8) (hdg : decode cc g.pc = .ok (.invokevirtual index, 3)) (hf : cells + mc ≤ R.cells ∧ slots + ms ≤ R.slots) :
    vx_Run p l e R s m args below meth c H locs cells slots mc ms g rest (Qc (Value.ref b :: As).toArray) XC free := by
  obtain ⟨⟨hrc, hrs, hfr, hlo, hws, hcw⟩, hcode, hini, hy, hlen, hl, hin, hse⟩ := cw
  have hK : vx_Back l R p e below s args y 3 8 (PreOf R mc ms Pc) (PostOf Qc mc ms free) (vx_Post XC mc ms free) := vx_backW (hh := hh) (bytes := bytes) (maxL := maxL) (ret := ret) hM hp.1 hrc hrs hfr hlo hws hcw (fun a' U hW => word_at hW (Or.inl (by first | rfl | simp [Cond.onTables, Cond.keeps, Cond.steady])) hini)
  obtain ⟨hx, hb, hml, ho, -⟩ := S
  obtain ⟨-, ⟨cellB, hcB, hoB, hclB⟩, hPc⟩ := hp
  intro T hT X
  rcases vx_callVX X hx (C := C) (hh := hh) (bytes := bytes) (maxL := maxL) (ret := ret) ho hl hin hse hcode hy hK (by rw [hT]; exact hcB) hoB hclB hg (hsize.trans hml.symm) (argsL := As) (rest := rest) (fun sig h => hn.trans (hlen sig h)) hstack hW (by rw [hb]; exact hdg)
    (fun vm₁ hW₁ => ⟨hf.1, hf.2, hPc (T.setVm vm₁) hT hW₁⟩) with ⟨v, vm₁, ⟨U', l2, c2, s2⟩, hW₁, X', ⟨g', mk, t, L, e1, e2, hq, h1, hL, h2, h3⟩, st⟩ | ⟨q, vm₁, ⟨U', l2, c2, s2⟩, hW₁, X', ⟨g', mk, t, L, E, ce, e1, e2, hq, hce, hcv, hcl, h1, hL, h2, h3⟩, st⟩
  · dsimp only [Pt.U, Pt.locs, Pt.cells, Pt.slots] at X' e1 e2 h1 h2 h3 st
    subst h1; subst h2; subst h3
    exact Or.inl ⟨v, (T.setVm vm₁).calling g' mk (Value.ref b :: As).toArray, t, U', L, hT, X', hL, e1, e2, hq, st⟩
  · dsimp only [Pt.U, Pt.locs, Pt.cells, Pt.slots] at X' e1 e2 h1 h2 h3 st hcl
    subst h1; subst h2; subst h3
    exact Or.inr ⟨q, (T.setVm vm₁).calling g' mk (Value.ref b :: As).toArray, t, U', L, E, ce, hT, X', hL, e1, e2, hq, hce, hcv, vx_cls hW₁ hcl, st⟩
theorem vx_runSX {hh : List (Nat × Nat × Nat × Nat)} (S : CallFix p m c cc nL s args Ts own) (hM : vx_Met l y ws rm Pc Qc XC mc ms free) (cw : vx_CSW R s args own index y bytes maxL ret hh ws rm mc ms n) (hp : PreS s H Pc As)
    (hg : g.method = m) (hn : As.length = n) (hsize : g.locals.size = nL) (hstack : g.stack = As.reverse ++ rest) (hW : 2 * g.monitorRoom + (rest.map fun v => v.category).sum ≤ 8) (hdg : decode cc g.pc = .ok (.invokestatic index, 3)) (hf : cells + mc ≤ R.cells ∧ slots + ms ≤ R.slots) :
    vx_Run p l e R s m args below meth c H locs cells slots mc ms g rest (Qc As.toArray) XC free := by
  obtain ⟨⟨hrc, hrs, hfr, hlo, hws, hcw⟩, hcode, hini, hy, hlen, hl, hstt⟩ := cw
  have hK : vx_Back l R p e below s args y 3 8 (PreOf R mc ms Pc) (PostOf Qc mc ms free) (vx_Post XC mc ms free) := vx_backW (hh := hh) (bytes := bytes) (maxL := maxL) (ret := ret) hM hp.1 hrc hrs hfr hlo hws hcw (fun a' U hW => word_at hW (Or.inl (by first | rfl | simp [Cond.onTables, Cond.keeps, Cond.steady])) hini)
  obtain ⟨hx, hb, hml, ho, -⟩ := S
  intro T hT X
  rcases vx_callSX X hx (hh := hh) (bytes := bytes) (maxL := maxL) (ret := ret) ho hl hstt hini hcode hy hK hg (hsize.trans hml.symm) (argsL := As) (rest := rest) (fun sig h => hn.trans (hlen sig h)) hstack hW (by rw [hb]; exact hdg)
    (fun vm₁ hW₁ => ⟨hf.1, hf.2, hp.2 (T.setVm vm₁) hT hW₁⟩) with ⟨v, vm₁, ⟨U', l2, c2, s2⟩, hW₁, X', ⟨g', mk, t, L, e1, e2, hq, h1, hL, h2, h3⟩, st⟩ | ⟨q, vm₁, ⟨U', l2, c2, s2⟩, hW₁, X', ⟨g', mk, t, L, E, ce, e1, e2, hq, hce, hcv, hcl, h1, hL, h2, h3⟩, st⟩
  · dsimp only [Pt.U, Pt.locs, Pt.cells, Pt.slots] at X' e1 e2 h1 h2 h3 st
    subst h1; subst h2; subst h3
    exact Or.inl ⟨v, (T.setVm vm₁).calling g' mk As.toArray, t, U', L, hT, X', hL, e1, e2, hq, st⟩
  · dsimp only [Pt.U, Pt.locs, Pt.cells, Pt.slots] at X' e1 e2 h1 h2 h3 st hcl
    subst h1; subst h2; subst h3
    exact Or.inr ⟨q, (T.setVm vm₁).calling g' mk As.toArray, t, U', L, E, ce, hT, X', hL, e1, e2, hq, hce, hcv, vx_cls hW₁ hcl, st⟩
end
end VXH
theorem vx_ofWH {l : Launch} {y : MethodName} {ws ws' : List Cond} {rm : Room} {Pc : Array Value → State → Prop} {Qc : Array Value → State → Outcome → State → Prop} {XC : String → State → State → Prop} {mc ms : Nat} {free : Addr → Prop} {cc : ByteArray} {maxL : Nat} {ret : Option FieldType} {hh : List (Nat × Nat × Nat × Nat)}
    (hy : plainName y.cls = true) (hw : ws = Cond.codeWith y cc maxL ret hh :: ws')
    (body : ∀ p e s m args below meth c s₁, BodyLoose p l y (headSpec ws rm) cc maxL ret e s m args below meth c s₁ → c.maxLocals = maxL → Pc args s →
      W p l e (headSpec ws rm).room s m args below meth c s.heap [] 0 0 (vx_MQ below Qc XC args s mc ms free) (entryFrame m args maxL)) : vx_Met l y ws rm Pc Qc XC mc ms free := by
  refine MetFree.of_bodyS (code := cc) (maxLocals := maxL) (ret := ret) hy ?_ ?_
  · intro args s m h hn
    obtain ⟨m9, meth, c, hn9, h1, h2, h3, h4, -, h5, h6, -⟩ := Cond.codeWith_spec (atoms_spec (ws := ws) h _ (by rw [hw]; exact List.mem_cons_self))
    cases hn.symm.trans hn9
    exact ⟨meth, c, h1, h2, h3, h4, h5, h6⟩
  · intro p e s m args below meth c s₁ B hml hP _
    have hh0 : s₁.heap = s.heap := by rw [B.state]; rfl
    obtain ⟨t, a1, o, b1, b2, b3⟩ := body p e s m args below meth c s₁ B hml hP s₁ hh0 (Stand.of_body B)
    exact ⟨t, o, a1, b1, b2, b3⟩
/-! ===== END ===== -/

def RX0 : String := "RowTriggers$Chains"
def TX0 : u_T := fun k => match k with
  | _ => ("RowTriggers$Chains", "table", "[I", true)
def tyX0 : Nat → FieldType := fun k => match k with
  | _ => .array .int
abbrev wsX00 : List Cond := u_ws RX0 TX0 1
theorem nmX0 : ∀ a, a < 1 → ∀ b, b < 1 → a ≠ b → (TX0 a).2.1 ≠ (TX0 b).2.1 := by decide +kernel
theorem tyX0_ok : ∀ k, k < 1 → parseFieldDescriptor (TX0 k).2.2.1 = some (tyX0 k) := by decide +kernel
abbrev cX0_init : ByteArray := prog_2_method_1_code
def yX0_init : MethodName := ⟨RX0, "<init>", "()V"⟩
abbrev cX0_nextOf : ByteArray := prog_2_method_2_code
def yX0_nextOf : MethodName := ⟨RX0, "nextOf", "(LRowTriggers$State;I)I"⟩
abbrev cX0_search : ByteArray := prog_2_method_3_code
def yX0_search : MethodName := ⟨RX0, "search", "(LRowTriggers$State;I)I"⟩
abbrev cX0_fillTable : ByteArray := prog_2_method_4_code
def yX0_fillTable : MethodName := ⟨RX0, "fillTable", "(LRowTriggers$State;)V"⟩
def RX1 : String := "RowTriggers$History"
def TX1 : u_T := fun k => match k with
  | 0 => ("RowTriggers$History", "states", "[LRowTriggers$State;", true)
  | 1 => ("RowTriggers$History", "size", "I", false)
  | _ => ("RowTriggers$History", "next", "I", false)
def tyX1 : Nat → FieldType := fun k => match k with
  | 0 => .array (.object "RowTriggers$State")
  | 1 => .int
  | _ => .int
abbrev wsX10 : List Cond := u_ws RX1 TX1 3
theorem nmX1 : ∀ a, a < 3 → ∀ b, b < 3 → a ≠ b → (TX1 a).2.1 ≠ (TX1 b).2.1 := by decide +kernel
theorem tyX1_ok : ∀ k, k < 3 → parseFieldDescriptor (TX1 k).2.2.1 = some (tyX1 k) := by decide +kernel
abbrev cX1_init : ByteArray := prog_3_method_1_code
def yX1_init : MethodName := ⟨RX1, "<init>", "()V"⟩
abbrev cX1_keep : ByteArray := prog_3_method_2_code
def yX1_keep : MethodName := ⟨RX1, "keep", "(LRowTriggers$State;)V"⟩
abbrev cX1_takeBack : ByteArray := prog_3_method_3_code
def yX1_takeBack : MethodName := ⟨RX1, "takeBack", "(LRowTriggers$State;)V"⟩
def RX2 : String := "RowTriggers$Log"
def TX2 : u_T := fun k => match k with
  | 0 => ("RowTriggers$Log", "rules", "[I", true)
  | 1 => ("RowTriggers$Log", "depths", "[I", true)
  | 2 => ("RowTriggers$Log", "size", "I", false)
  | _ => ("RowTriggers$Log", "latest", "I", false)
def tyX2 : Nat → FieldType := fun k => match k with
  | 0 => .array .int
  | 1 => .array .int
  | 2 => .int
  | _ => .int
abbrev wsX20 : List Cond := u_ws RX2 TX2 4
theorem nmX2 : ∀ a, a < 4 → ∀ b, b < 4 → a ≠ b → (TX2 a).2.1 ≠ (TX2 b).2.1 := by decide +kernel
theorem tyX2_ok : ∀ k, k < 4 → parseFieldDescriptor (TX2 k).2.2.1 = some (tyX2 k) := by decide +kernel
abbrev cX2_init : ByteArray := prog_4_method_1_code
def yX2_init : MethodName := ⟨RX2, "<init>", "()V"⟩
abbrev cX2_copyFrom : ByteArray := prog_4_method_2_code
def yX2_copyFrom : MethodName := ⟨RX2, "copyFrom", "(LRowTriggers$Log;)V"⟩
abbrev cX2_placeOf : ByteArray := prog_4_method_3_code
def yX2_placeOf : MethodName := ⟨RX2, "placeOf", "(I)I"⟩
abbrev cX2_note : ByteArray := prog_4_method_4_code
def yX2_note : MethodName := ⟨RX2, "note", "(II)V"⟩
abbrev cX2_forget : ByteArray := prog_4_method_5_code
def yX2_forget : MethodName := ⟨RX2, "forget", "(I)V"⟩
def RX3 : String := "RowTriggers$Rule"
def TX3 : u_T := fun k => match k with
  | 0 => ("RowTriggers$Rule", "event", "I", false)
  | 1 => ("RowTriggers$Rule", "column", "I", false)
  | 2 => ("RowTriggers$Rule", "least", "I", false)
  | 3 => ("RowTriggers$Rule", "action", "I", false)
  | 4 => ("RowTriggers$Rule", "targetRow", "I", false)
  | 5 => ("RowTriggers$Rule", "targetColumn", "I", false)
  | 6 => ("RowTriggers$Rule", "amount", "I", false)
  | 7 => ("RowTriggers$Rule", "muted", "Z", false)
  | _ => ("RowTriggers$Rule", "acts", "I", false)
def tyX3 : Nat → FieldType := fun k => match k with
  | 0 => .int
  | 1 => .int
  | 2 => .int
  | 3 => .int
  | 4 => .int
  | 5 => .int
  | 6 => .int
  | 7 => .boolean
  | _ => .int
abbrev wsX30 : List Cond := u_ws RX3 TX3 9
theorem nmX3 : ∀ a, a < 9 → ∀ b, b < 9 → a ≠ b → (TX3 a).2.1 ≠ (TX3 b).2.1 := by decide +kernel
theorem tyX3_ok : ∀ k, k < 9 → parseFieldDescriptor (TX3 k).2.2.1 = some (tyX3 k) := by decide +kernel
abbrev cX3_init : ByteArray := prog_5_method_1_code
def yX3_init : MethodName := ⟨RX3, "<init>", "()V"⟩
abbrev cX3_start : ByteArray := prog_5_method_2_code
def yX3_start : MethodName := ⟨RX3, "start", "(III)V"⟩
abbrev cX3_copyFrom : ByteArray := prog_5_method_3_code
def yX3_copyFrom : MethodName := ⟨RX3, "copyFrom", "(LRowTriggers$Rule;)V"⟩
abbrev cX3_setsOff : ByteArray := prog_5_method_4_code
def yX3_setsOff : MethodName := ⟨RX3, "setsOff", "(LRowTriggers$Rule;)Z"⟩
def RX4 : String := "RowTriggers$State"
def TX4 : u_T := fun k => match k with
  | 0 => ("RowTriggers$State", "there", "[Z", true)
  | 1 => ("RowTriggers$State", "values", "[I", true)
  | 2 => ("RowTriggers$State", "rules", "[LRowTriggers$Rule;", true)
  | 3 => ("RowTriggers$State", "log", "LRowTriggers$Log;", true)
  | 4 => ("RowTriggers$State", "rulesUsed", "I", false)
  | 5 => ("RowTriggers$State", "depth", "I", false)
  | _ => ("RowTriggers$State", "events", "I", false)
def tyX4 : Nat → FieldType := fun k => match k with
  | 0 => .array .boolean
  | 1 => .array .int
  | 2 => .array (.object "RowTriggers$Rule")
  | 3 => .object "RowTriggers$Log"
  | 4 => .int
  | 5 => .int
  | _ => .int
abbrev wsX40 : List Cond := u_ws RX4 TX4 7
theorem nmX4 : ∀ a, a < 7 → ∀ b, b < 7 → a ≠ b → (TX4 a).2.1 ≠ (TX4 b).2.1 := by decide +kernel
theorem tyX4_ok : ∀ k, k < 7 → parseFieldDescriptor (TX4 k).2.2.1 = some (tyX4 k) := by decide +kernel
abbrev cX4_init : ByteArray := prog_6_method_1_code
def yX4_init : MethodName := ⟨RX4, "<init>", "()V"⟩
abbrev cX4_copyFrom : ByteArray := prog_6_method_2_code
def yX4_copyFrom : MethodName := ⟨RX4, "copyFrom", "(LRowTriggers$State;)V"⟩
abbrev cX4_isThere : ByteArray := prog_6_method_3_code
def yX4_isThere : MethodName := ⟨RX4, "isThere", "(I)Z"⟩
abbrev cX4_rowsThere : ByteArray := prog_6_method_4_code
def yX4_rowsThere : MethodName := ⟨RX4, "rowsThere", "()I"⟩
abbrev cX4_takeRuleAway : ByteArray := prog_6_method_5_code
def yX4_takeRuleAway : MethodName := ⟨RX4, "takeRuleAway", "(I)V"⟩
def RX5 : String := "RowTriggers$Statement"
def TX5 : u_T := fun k => match k with
  | 0 => ("RowTriggers$Statement", "state", "LRowTriggers$State;", true)
  | 1 => ("RowTriggers$Statement", "events", "I", false)
  | 2 => ("RowTriggers$Statement", "deepest", "I", false)
  | _ => ("RowTriggers$Statement", "refusal", "I", false)
def tyX5 : Nat → FieldType := fun k => match k with
  | 0 => .object "RowTriggers$State"
  | 1 => .int
  | 2 => .int
  | _ => .int
abbrev wsX50 : List Cond := u_ws RX5 TX5 4
theorem nmX5 : ∀ a, a < 4 → ∀ b, b < 4 → a ≠ b → (TX5 a).2.1 ≠ (TX5 b).2.1 := by decide +kernel
theorem tyX5_ok : ∀ k, k < 4 → parseFieldDescriptor (TX5 k).2.2.1 = some (tyX5 k) := by decide +kernel
abbrev cX5_init : ByteArray := prog_7_method_1_code
def yX5_init : MethodName := ⟨RX5, "<init>", "()V"⟩
abbrev cX5_begin : ByteArray := prog_7_method_2_code
def yX5_begin : MethodName := ⟨RX5, "begin", "(LRowTriggers$State;)V"⟩
abbrev cX5_putIn : ByteArray := prog_7_method_3_code
def yX5_putIn : MethodName := ⟨RX5, "putIn", "(LRowTriggers$State;IIII)V"⟩
abbrev cX5_change : ByteArray := prog_7_method_4_code
def yX5_change : MethodName := ⟨RX5, "change", "(LRowTriggers$State;III)V"⟩
abbrev cX5_takeOut : ByteArray := prog_7_method_5_code
def yX5_takeOut : MethodName := ⟨RX5, "takeOut", "(LRowTriggers$State;I)V"⟩
abbrev cX5_happen : ByteArray := prog_7_method_6_code
def yX5_happen : MethodName := ⟨RX5, "happen", "(IIIII)V"⟩
abbrev cX5_act : ByteArray := prog_7_method_7_code
def yX5_act : MethodName := ⟨RX5, "act", "(II)V"⟩
abbrev cX5_alterTable : ByteArray := prog_7_method_8_code
def yX5_alterTable : MethodName := ⟨RX5, "alterTable", "(IIII)V"⟩
abbrev cX5_matchingRules : ByteArray := prog_7_method_9_code
def yX5_matchingRules : MethodName := ⟨RX5, "matchingRules", "(IIII)I"⟩
abbrev cX5_hasRefusing : ByteArray := prog_7_method_10_code
def yX5_hasRefusing : MethodName := ⟨RX5, "hasRefusing", "(I)Z"⟩
def RX6 : String := "RowTriggers$Text"
def TX6 : u_T := fun k => match k with
  | 0 => ("RowTriggers$Text", "signs", "[C", true)
  | 1 => ("RowTriggers$Text", "length", "I", false)
  | 2 => ("RowTriggers$Text", "at", "I", false)
  | 3 => ("RowTriggers$Text", "command", "C", false)
  | _ => ("RowTriggers$Text", "numbers", "[I", true)
def tyX6 : Nat → FieldType := fun k => match k with
  | 0 => .array .char
  | 1 => .int
  | 2 => .int
  | 3 => .char
  | _ => .array .int
abbrev wsX60 : List Cond := u_ws RX6 TX6 5
theorem nmX6 : ∀ a, a < 5 → ∀ b, b < 5 → a ≠ b → (TX6 a).2.1 ≠ (TX6 b).2.1 := by decide +kernel
theorem tyX6_ok : ∀ k, k < 5 → parseFieldDescriptor (TX6 k).2.2.1 = some (tyX6 k) := by decide +kernel
abbrev cX6_init : ByteArray := prog_8_method_1_code
def yX6_init : MethodName := ⟨RX6, "<init>", "()V"⟩
def RX7 : String := "RowTriggers"
def TX7 : u_T := fun k => match k with
  | 0 => ("RowTriggers", "now", "LRowTriggers$State;", true)
  | 1 => ("RowTriggers", "trial", "LRowTriggers$Statement;", true)
  | 2 => ("RowTriggers", "chains", "LRowTriggers$Chains;", true)
  | 3 => ("RowTriggers", "text", "LRowTriggers$Text;", true)
  | 4 => ("RowTriggers", "history", "LRowTriggers$History;", true)
  | 5 => ("RowTriggers", "slots", "[LRowTriggers$State;", true)
  | _ => ("RowTriggers", "slotIsFilled", "[Z", true)
def tyX7 : Nat → FieldType := fun k => match k with
  | 0 => .object "RowTriggers$State"
  | 1 => .object "RowTriggers$Statement"
  | 2 => .object "RowTriggers$Chains"
  | 3 => .object "RowTriggers$Text"
  | 4 => .object "RowTriggers$History"
  | 5 => .array (.object "RowTriggers$State")
  | _ => .array .boolean
abbrev wsX70 : List Cond := u_ws RX7 TX7 7
theorem nmX7 : ∀ a, a < 7 → ∀ b, b < 7 → a ≠ b → (TX7 a).2.1 ≠ (TX7 b).2.1 := by decide +kernel
theorem tyX7_ok : ∀ k, k < 7 → parseFieldDescriptor (TX7 k).2.2.1 = some (tyX7 k) := by decide +kernel
abbrev cX7_init : ByteArray := prog_1_method_1_code
def yX7_init : MethodName := ⟨RX7, "<init>", "()V"⟩
abbrev cX7_addRule : ByteArray := prog_1_method_2_code
def yX7_addRule : MethodName := ⟨RX7, "addRule", "(III)I"⟩
abbrev cX7_setAction : ByteArray := prog_1_method_3_code
def yX7_setAction : MethodName := ⟨RX7, "setAction", "(IIIII)I"⟩
abbrev cX7_turnMute : ByteArray := prog_1_method_4_code
def yX7_turnMute : MethodName := ⟨RX7, "turnMute", "(I)Z"⟩
abbrev cX7_dropRule : ByteArray := prog_1_method_5_code
def yX7_dropRule : MethodName := ⟨RX7, "dropRule", "(I)I"⟩
abbrev cX7_setDepth : ByteArray := prog_1_method_6_code
def yX7_setDepth : MethodName := ⟨RX7, "setDepth", "(I)I"⟩
abbrev cX7_insert : ByteArray := prog_1_method_7_code
def yX7_insert : MethodName := ⟨RX7, "insert", "(IIII)I"⟩
abbrev cX7_update : ByteArray := prog_1_method_8_code
def yX7_update : MethodName := ⟨RX7, "update", "(III)I"⟩
abbrev cX7_remove : ByteArray := prog_1_method_9_code
def yX7_remove : MethodName := ⟨RX7, "remove", "(I)I"⟩
abbrev cX7_whyNotUpdate : ByteArray := prog_1_method_10_code
def yX7_whyNotUpdate : MethodName := ⟨RX7, "whyNotUpdate", "(III)I"⟩
abbrev cX7_eventsOfUpdate : ByteArray := prog_1_method_11_code
def yX7_eventsOfUpdate : MethodName := ⟨RX7, "eventsOfUpdate", "(III)I"⟩
abbrev cX7_depthOfUpdate : ByteArray := prog_1_method_12_code
def yX7_depthOfUpdate : MethodName := ⟨RX7, "depthOfUpdate", "(III)I"⟩
abbrev cX7_tryUpdate : ByteArray := prog_1_method_13_code
def yX7_tryUpdate : MethodName := ⟨RX7, "tryUpdate", "(III)V"⟩
abbrev cX7_finishStatement : ByteArray := prog_1_method_14_code
def yX7_finishStatement : MethodName := ⟨RX7, "finishStatement", "()I"⟩
abbrev cX7_hasRow : ByteArray := prog_1_method_15_code
def yX7_hasRow : MethodName := ⟨RX7, "hasRow", "(I)Z"⟩
abbrev cX7_rowCount : ByteArray := prog_1_method_16_code
def yX7_rowCount : MethodName := ⟨RX7, "rowCount", "()I"⟩
abbrev cX7_valueAt : ByteArray := prog_1_method_17_code
def yX7_valueAt : MethodName := ⟨RX7, "valueAt", "(II)I"⟩
abbrev cX7_sumOf : ByteArray := prog_1_method_18_code
def yX7_sumOf : MethodName := ⟨RX7, "sumOf", "(I)I"⟩
abbrev cX7_ruleCount : ByteArray := prog_1_method_19_code
def yX7_ruleCount : MethodName := ⟨RX7, "ruleCount", "()I"⟩
abbrev cX7_actionOf : ByteArray := prog_1_method_20_code
def yX7_actionOf : MethodName := ⟨RX7, "actionOf", "(I)I"⟩
abbrev cX7_isMuted : ByteArray := prog_1_method_21_code
def yX7_isMuted : MethodName := ⟨RX7, "isMuted", "(I)Z"⟩
abbrev cX7_actsOf : ByteArray := prog_1_method_22_code
def yX7_actsOf : MethodName := ⟨RX7, "actsOf", "(I)I"⟩
abbrev cX7_eventCount : ByteArray := prog_1_method_23_code
def yX7_eventCount : MethodName := ⟨RX7, "eventCount", "()I"⟩
abbrev cX7_logSize : ByteArray := prog_1_method_24_code
def yX7_logSize : MethodName := ⟨RX7, "logSize", "()I"⟩
abbrev cX7_loggedRule : ByteArray := prog_1_method_25_code
def yX7_loggedRule : MethodName := ⟨RX7, "loggedRule", "(I)I"⟩
abbrev cX7_loggedDepth : ByteArray := prog_1_method_26_code
def yX7_loggedDepth : MethodName := ⟨RX7, "loggedDepth", "(I)I"⟩
abbrev cX7_canSetOff : ByteArray := prog_1_method_27_code
def yX7_canSetOff : MethodName := ⟨RX7, "canSetOff", "(II)Z"⟩
abbrev cX7_reachOf : ByteArray := prog_1_method_28_code
def yX7_reachOf : MethodName := ⟨RX7, "reachOf", "(I)I"⟩
abbrev cX7_reachByTable : ByteArray := prog_1_method_29_code
def yX7_reachByTable : MethodName := ⟨RX7, "reachByTable", "(I)I"⟩
abbrev cX7_circularRules : ByteArray := prog_1_method_30_code
def yX7_circularRules : MethodName := ⟨RX7, "circularRules", "()I"⟩
abbrev cX7_undo : ByteArray := prog_1_method_39_code
def yX7_undo : MethodName := ⟨RX7, "undo", "()I"⟩
abbrev cX7_undoCount : ByteArray := prog_1_method_40_code
def yX7_undoCount : MethodName := ⟨RX7, "undoCount", "()I"⟩
abbrev cX7_isRow : ByteArray := prog_1_method_43_code
def yX7_isRow : MethodName := ⟨RX7, "isRow", "(I)Z"⟩
abbrev cX7_isColumn : ByteArray := prog_1_method_44_code
def yX7_isColumn : MethodName := ⟨RX7, "isColumn", "(I)Z"⟩
abbrev cX7_isValue : ByteArray := prog_1_method_45_code
def yX7_isValue : MethodName := ⟨RX7, "isValue", "(I)Z"⟩
abbrev cX7_cell : ByteArray := prog_1_method_46_code
def yX7_cell : MethodName := ⟨RX7, "cell", "(II)I"⟩
abbrev cX7_checkRow : ByteArray := prog_1_method_47_code
def yX7_checkRow : MethodName := ⟨RX7, "checkRow", "(I)V"⟩
abbrev cX7_checkColumn : ByteArray := prog_1_method_48_code
def yX7_checkColumn : MethodName := ⟨RX7, "checkColumn", "(I)V"⟩
abbrev cX7_checkValue : ByteArray := prog_1_method_49_code
def yX7_checkValue : MethodName := ⟨RX7, "checkValue", "(I)V"⟩
abbrev cX7_checkRule : ByteArray := prog_1_method_50_code
def yX7_checkRule : MethodName := ⟨RX7, "checkRule", "(I)V"⟩
abbrev cX7_checkAgo : ByteArray := prog_1_method_51_code
def yX7_checkAgo : MethodName := ⟨RX7, "checkAgo", "(I)V"⟩
def RX8 : String := "RowTriggersModel"
def TX8 : u_T := fun k => match k with
  | _ => ("", "", "", false)
def tyX8 : Nat → FieldType := fun k => match k with
  | _ => .int
abbrev wsX80 : List Cond := u_ws RX8 TX8 0
theorem nmX8 : ∀ a, a < 0 → ∀ b, b < 0 → a ≠ b → (TX8 a).2.1 ≠ (TX8 b).2.1 := by decide +kernel
theorem tyX8_ok : ∀ k, k < 0 → parseFieldDescriptor (TX8 k).2.2.1 = some (tyX8 k) := by decide +kernel
def RJ9 : String := "java/lang/Math"
def TJ9 : u_T := fun k => match k with
  | _ => ("", "", "", false)
def tyJ9 : Nat → FieldType := fun k => match k with
  | _ => .int
abbrev wsJ90 : List Cond := u_ws RJ9 TJ9 0
theorem nmJ9 : ∀ a, a < 0 → ∀ b, b < 0 → a ≠ b → (TJ9 a).2.1 ≠ (TJ9 b).2.1 := by decide +kernel
theorem tyJ9_ok : ∀ k, k < 0 → parseFieldDescriptor (TJ9 k).2.2.1 = some (tyJ9 k) := by decide +kernel
abbrev cJ9_floorMod_7cf53 : ByteArray := prog_15_method_50_code
def yJ9_floorMod_7cf53 : MethodName := ⟨RJ9, "floorMod", "(II)I"⟩
abbrev cJ9_max_7cf53 : ByteArray := prog_15_method_65_code
def yJ9_max_7cf53 : MethodName := ⟨RJ9, "max", "(II)I"⟩
abbrev cJ9_min_7cf53 : ByteArray := prog_15_method_69_code
def yJ9_min_7cf53 : MethodName := ⟨RJ9, "min", "(II)I"⟩
def RJ0 : String := "java/lang/String"
def TJ0 : u_T := fun k => match k with
  | _ => ("", "", "", false)
def tyJ0 : Nat → FieldType := fun k => match k with
  | _ => .int
abbrev wsJ00 : List Cond := u_ws RJ0 TJ0 0
theorem nmJ0 : ∀ a, a < 0 → ∀ b, b < 0 → a ≠ b → (TJ0 a).2.1 ≠ (TJ0 b).2.1 := by decide +kernel
theorem tyJ0_ok : ∀ k, k < 0 → parseFieldDescriptor (TJ0 k).2.2.1 = some (tyJ0 k) := by decide +kernel
def RJ10 : String := "java/lang/System"
def TJ10 : u_T := fun k => match k with
  | _ => ("", "", "", false)
def tyJ10 : Nat → FieldType := fun k => match k with
  | _ => .int
abbrev wsJ100 : List Cond := u_ws RJ10 TJ10 0
theorem nmJ10 : ∀ a, a < 0 → ∀ b, b < 0 → a ≠ b → (TJ10 a).2.1 ≠ (TJ10 b).2.1 := by decide +kernel
theorem tyJ10_ok : ∀ k, k < 0 → parseFieldDescriptor (TJ10 k).2.2.1 = some (tyJ10 k) := by decide +kernel
def RL : String := "RowTriggersLaw"
abbrev cL_cell : ByteArray := method_2_code
def yL_cell : MethodName := ⟨RL, "cell", "([II)I"⟩
abbrev cL_low : ByteArray := method_3_code
def yL_low : MethodName := ⟨RL, "low", "(II)I"⟩
abbrev cL_changes : ByteArray := method_4_code
def yL_changes : MethodName := ⟨RL, "changes", "(LRowTriggers;IIII[I)I"⟩
abbrev cL_inserts : ByteArray := method_5_code
def yL_inserts : MethodName := ⟨RL, "inserts", "(LRowTriggers;III[I)I"⟩
abbrev cL_actions : ByteArray := method_6_code
def yL_actions : MethodName := ⟨RL, "actions", "(LRowTriggers;IIZ[I)I"⟩
abbrev cL_act : ByteArray := method_7_code
def yL_act : MethodName := ⟨RL, "act", "(LRowTriggers;I[I)I"⟩
abbrev cL_areAlike : ByteArray := method_8_code
def yL_areAlike : MethodName := ⟨RL, "areAlike", "(LRowTriggers;LRowTriggers;)Z"⟩
abbrev cL_isTableSo : ByteArray := method_9_code
def yL_isTableSo : MethodName := ⟨RL, "isTableSo", "(LRowTriggers;)Z"⟩
abbrev cL_isUpdateSo : ByteArray := method_10_code
def yL_isUpdateSo : MethodName := ⟨RL, "isUpdateSo", "(LRowTriggers;III[I)Z"⟩
abbrev cL_law : ByteArray := code
def yL_law : MethodName := ⟨RL, "law", "([I)Z"⟩
abbrev vwCl : List vw_C := [(RX0, TX0, 1), (RX1, TX1, 3), (RX2, TX2, 4), (RX3, TX3, 9), (RX4, TX4, 7), (RX5, TX5, 4), (RX6, TX6, 5), (RX7, TX7, 7)]
/-! THE CLAIM OUT OF ONE WALK OF THE LAW'S BODY. Your part is whole_start (and what it stands on); all else here is the same for every law, but numbers. -/
def R_law : String := "RowTriggersLaw"
def lw_P (b : Addr) (xs : List Int32) (args : Array Value) (s : State) : Prop := args = #[.ref b] ∧ s.IntsAt b xs ∧ xs.length ≤ 260 ∧ (Jvm.Cond.and given_1 narrow_1).before args s = true
def lw_Q (_ : Array Value) (s : State) (o : Outcome) (t : State) : Prop := o = .returned (some (.int 1)) ∧ Framed s o t [] 600086 7301442
def lw_Z (below : List Frame) (a : Array Value) (s : State) : State → Prop := fun t => ∃ o, t.status = .running ∧ Ended t below o ∧ lw_Q a s o t
/-- the law's own end, with 1 on the stack, nothing written that was there before, its room as the claim has it -/
theorem lw_ret {p : Program} {l : Launch} {e : Env} {s : State} {m : MethodId} {below : List Frame} {meth : Method} {c : Code} {b : Nat} (hx : p.tables.exec = Jvm.exec) (hb : c.code = code) (hr : meth.sig.returnType = ret) (hlocks : meth.locks = false) {pc : Nat} {H : Heap} {ls : Array Slot} (hdg : decode code pc = .ok (.ireturn, 1)) : W p l e room_1 s m #[Value.ref b] below meth c H [] 600086 7301442 (lw_Z below #[Value.ref b] s) (F0 m pc ls [.int 1]) := by
  intro T hT X
  obtain ⟨fs, hret, hrun, hended, hW, hframe⟩ := X.leave (v := some (.int 1)) (hlocks := hlocks) (fun h => by rw [hr] at h; cases h)
  have hmeth' : T.vm.method? m = some meth := X.method'
  refine ⟨T.setFrames fs, ?_, .returned (some (.int 1)), hrun, hended, rfl, ⟨_, rfl⟩, hW, hframe⟩
  jvm_step X.here [X.here.top, hx, hb, hdg, hmeth', hr, ret, narrow_b1]
  (try refine ⟨rfl, ?_⟩); (try refine ⟨rfl, ?_⟩)
  first | (intro acts; rw [hret _ acts rfl rfl rfl]) | rw [hret _ _ rfl rfl rfl]
  exact Steps.refl _
/-- what holds at the law's entry: the machine, the code, the tables' words (any of lw_tbl by 'hts w (by decide +kernel)'), the script of L ints xs at the cell b, what the Statement gives of the start (any of its parts by flat_of_before) -/
def lw_At (p : Program) (s : State) (m : MethodId) (meth : Method) (c : Code) (b L : Nat) (xs : Nat → Int32) : Prop :=
  p.tables.exec = Jvm.exec ∧ c.code = code ∧ meth.sig.returnType = ret ∧ c.maxLocals = 10 ∧ s.vm.findClass R_law = some m.cls ∧ (∀ w ∈ lw_tbl, w.before #[Value.ref b] s = true) ∧ va_X b L xs s s.heap ∧ b < s.heap.size ∧ meth.locks = false ∧ (Jvm.Cond.and given_1 narrow_1).before #[Value.ref b] s = true
end
section
abbrev tbX0_init : List (Nat × Instr × Nat) := [(0, .aload_n 0, 1), (1, .invokespecial 3, 3), (4, .aload_n 0, 1), (5, .bipush 8, 2), (7, .newarray .int, 2), (9, .putfield 9, 3), (12, .return_, 1)]
theorem tkX0_init : ∀ e ∈ tbX0_init, decode cX0_init e.1 = .ok e.2 := by decide +kernel
abbrev tbX0_nextOf : List (Nat × Instr × Nat) := [(0, .iconst 0, 1), (1, .istore_n 2, 1), (2, .iconst 0, 1), (3, .istore_n 3, 1), (4, .iload_n 3, 1), (5, .aload_n 0, 1), (6, .getfield 15, 3), (9, .if_icmp .ge 33, 3), (12, .aload_n 0, 1), (13, .getfield 21, 3), (16, .iload_n 1, 1), (17, .aaload, 1), (18, .aload_n 0, 1), (19, .getfield 21, 3), (22, .iload_n 3, 1), (23, .aaload, 1), (24, .invokevirtual 25, 3), (27, .ifCond .eq 9, 3), (30, .iload_n 2, 1), (31, .iconst 1, 1), (32, .iload_n 3, 1), (33, .ishl, 1), (34, .ior, 1), (35, .istore_n 2, 1), (36, .iinc 3 1, 3), (39, .goto (-35), 3), (42, .iload_n 2, 1), (43, .ireturn, 1)]
theorem tkX0_nextOf : ∀ e ∈ tbX0_nextOf, decode cX0_nextOf e.1 = .ok e.2 := by decide +kernel
abbrev tbX0_search : List (Nat × Instr × Nat) := [(0, .iconst 0, 1), (1, .istore_n 3, 1), (2, .aload_n 1, 1), (3, .iload_n 2, 1), (4, .invokestatic 31, 3), (7, .istore 4, 2), (9, .iconst 0, 1), (10, .istore 5, 2), (12, .iload 5, 2), (14, .bipush 8, 2), (16, .if_icmp .ge 69, 3), (19, .iload 4, 2), (21, .ifCond .eq 64, 3), (24, .iload_n 3, 1), (25, .iload 4, 2), (27, .ior, 1), (28, .istore_n 3, 1), (29, .iconst 0, 1), (30, .istore 6, 2), (32, .iconst 0, 1), (33, .istore 7, 2), (35, .iload 7, 2), (37, .aload_n 1, 1), (38, .getfield 15, 3), (41, .if_icmp .ge 30, 3), (44, .iload 4, 2), (46, .iconst 1, 1), (47, .iload 7, 2), (49, .ishl, 1), (50, .iand, 1), (51, .ifCond .eq 14, 3), (54, .iload 6, 2), (56, .aload_n 1, 1), (57, .iload 7, 2), (59, .invokestatic 31, 3), (62, .ior, 1), (63, .istore 6, 2), (65, .iinc 7 1, 3), (68, .goto (-33), 3), (71, .iload 6, 2), (73, .iload_n 3, 1), (74, .iconst (-1), 1), (75, .ixor, 1), (76, .iand, 1), (77, .istore 4, 2), (79, .iinc 5 1, 3), (82, .goto (-70), 3), (85, .iload_n 3, 1), (86, .ireturn, 1)]
theorem tkX0_search : ∀ e ∈ tbX0_search, decode cX0_search e.1 = .ok e.2 := by decide +kernel
abbrev tbX0_fillTable : List (Nat × Instr × Nat) := [(0, .iconst 0, 1), (1, .istore_n 2, 1), (2, .iload_n 2, 1), (3, .aload_n 1, 1), (4, .getfield 15, 3), (7, .if_icmp .ge 20, 3), (10, .aload_n 0, 1), (11, .getfield 9, 3), (14, .iload_n 2, 1), (15, .aload_n 1, 1), (16, .iload_n 2, 1), (17, .invokestatic 31, 3), (20, .iastore, 1), (21, .iinc 2 1, 3), (24, .goto (-22), 3), (27, .iconst 0, 1), (28, .istore_n 2, 1), (29, .iload_n 2, 1), (30, .aload_n 1, 1), (31, .getfield 15, 3), (34, .if_icmp .ge 53, 3), (37, .iconst 0, 1), (38, .istore_n 3, 1), (39, .iload_n 3, 1), (40, .aload_n 1, 1), (41, .getfield 15, 3), (44, .if_icmp .ge 37, 3), (47, .aload_n 0, 1), (48, .getfield 9, 3), (51, .iload_n 3, 1), (52, .iaload, 1), (53, .iconst 1, 1), (54, .iload_n 2, 1), (55, .ishl, 1), (56, .iand, 1), (57, .ifCond .eq 18, 3), (60, .aload_n 0, 1), (61, .getfield 9, 3), (64, .iload_n 3, 1), (65, .dup2, 1), (66, .iaload, 1), (67, .aload_n 0, 1), (68, .getfield 9, 3), (71, .iload_n 2, 1), (72, .iaload, 1), (73, .ior, 1), (74, .iastore, 1), (75, .iinc 3 1, 3), (78, .goto (-39), 3), (81, .iinc 2 1, 3), (84, .goto (-55), 3), (87, .return_, 1)]
theorem tkX0_fillTable : ∀ e ∈ tbX0_fillTable, decode cX0_fillTable e.1 = .ok e.2 := by decide +kernel
abbrev tbX1_init : List (Nat × Instr × Nat) := [(0, .aload_n 0, 1), (1, .invokespecial 3, 3), (4, .aload_n 0, 1), (5, .bipush 6, 2), (7, .anewarray 9, 3), (10, .putfield 11, 3), (13, .iconst 0, 1), (14, .istore_n 1, 1), (15, .iload_n 1, 1), (16, .bipush 6, 2), (18, .if_icmp .ge 22, 3), (21, .aload_n 0, 1), (22, .getfield 11, 3), (25, .iload_n 1, 1), (26, .new 9, 3), (29, .dup, 1), (30, .invokespecial 17, 3), (33, .aastore, 1), (34, .iinc 1 1, 3), (37, .goto (-22), 3), (40, .return_, 1)]
theorem tkX1_init : ∀ e ∈ tbX1_init, decode cX1_init e.1 = .ok e.2 := by decide +kernel
abbrev tbX1_keep : List (Nat × Instr × Nat) := [(0, .aload_n 0, 1), (1, .getfield 11, 3), (4, .aload_n 0, 1), (5, .getfield 18, 3), (8, .aaload, 1), (9, .aload_n 1, 1), (10, .invokevirtual 22, 3), (13, .aload_n 0, 1), (14, .aload_n 0, 1), (15, .getfield 18, 3), (18, .iconst 1, 1), (19, .iadd, 1), (20, .bipush 6, 2), (22, .irem, 1), (23, .putfield 18, 3), (26, .aload_n 0, 1), (27, .aload_n 0, 1), (28, .getfield 26, 3), (31, .iconst 1, 1), (32, .iadd, 1), (33, .bipush 6, 2), (35, .invokestatic 29, 3), (38, .putfield 26, 3), (41, .return_, 1)]
theorem tkX1_keep : ∀ e ∈ tbX1_keep, decode cX1_keep e.1 = .ok e.2 := by decide +kernel
abbrev tbX1_takeBack : List (Nat × Instr × Nat) := [(0, .aload_n 0, 1), (1, .getfield 26, 3), (4, .ifCond .le 41, 3), (7, .aload_n 0, 1), (8, .aload_n 0, 1), (9, .getfield 18, 3), (12, .iconst 1, 1), (13, .isub, 1), (14, .bipush 6, 2), (16, .invokestatic 35, 3), (19, .putfield 18, 3), (22, .aload_n 1, 1), (23, .aload_n 0, 1), (24, .getfield 11, 3), (27, .aload_n 0, 1), (28, .getfield 18, 3), (31, .aaload, 1), (32, .invokevirtual 22, 3), (35, .aload_n 0, 1), (36, .dup, 1), (37, .getfield 26, 3), (40, .iconst 1, 1), (41, .isub, 1), (42, .putfield 26, 3), (45, .return_, 1)]
theorem tkX1_takeBack : ∀ e ∈ tbX1_takeBack, decode cX1_takeBack e.1 = .ok e.2 := by decide +kernel
abbrev tbX2_init : List (Nat × Instr × Nat) := [(0, .aload_n 0, 1), (1, .invokespecial 3, 3), (4, .aload_n 0, 1), (5, .bipush 16, 2), (7, .newarray .int, 2), (9, .putfield 9, 3), (12, .aload_n 0, 1), (13, .bipush 16, 2), (15, .newarray .int, 2), (17, .putfield 15, 3), (20, .return_, 1)]
theorem tkX2_init : ∀ e ∈ tbX2_init, decode cX2_init e.1 = .ok e.2 := by decide +kernel
abbrev tbX2_copyFrom : List (Nat × Instr × Nat) := [(0, .aload_n 1, 1), (1, .getfield 9, 3), (4, .iconst 0, 1), (5, .aload_n 0, 1), (6, .getfield 9, 3), (9, .iconst 0, 1), (10, .bipush 16, 2), (12, .invokestatic 18, 3), (15, .aload_n 1, 1), (16, .getfield 15, 3), (19, .iconst 0, 1), (20, .aload_n 0, 1), (21, .getfield 15, 3), (24, .iconst 0, 1), (25, .bipush 16, 2), (27, .invokestatic 18, 3), (30, .aload_n 0, 1), (31, .aload_n 1, 1), (32, .getfield 24, 3), (35, .putfield 24, 3), (38, .aload_n 0, 1), (39, .aload_n 1, 1), (40, .getfield 28, 3), (43, .putfield 28, 3), (46, .return_, 1)]
theorem tkX2_copyFrom : ∀ e ∈ tbX2_copyFrom, decode cX2_copyFrom e.1 = .ok e.2 := by decide +kernel
abbrev tbX2_placeOf : List (Nat × Instr × Nat) := [(0, .aload_n 0, 1), (1, .getfield 28, 3), (4, .iload_n 1, 1), (5, .isub, 1), (6, .bipush 16, 2), (8, .invokestatic 31, 3), (11, .ireturn, 1)]
theorem tkX2_placeOf : ∀ e ∈ tbX2_placeOf, decode cX2_placeOf e.1 = .ok e.2 := by decide +kernel
abbrev tbX2_note : List (Nat × Instr × Nat) := [(0, .aload_n 0, 1), (1, .aload_n 0, 1), (2, .getfield 28, 3), (5, .iconst 1, 1), (6, .iadd, 1), (7, .bipush 16, 2), (9, .irem, 1), (10, .putfield 28, 3), (13, .aload_n 0, 1), (14, .getfield 9, 3), (17, .aload_n 0, 1), (18, .getfield 28, 3), (21, .iload_n 1, 1), (22, .iastore, 1), (23, .aload_n 0, 1), (24, .getfield 15, 3), (27, .aload_n 0, 1), (28, .getfield 28, 3), (31, .iload_n 2, 1), (32, .iastore, 1), (33, .aload_n 0, 1), (34, .aload_n 0, 1), (35, .getfield 24, 3), (38, .iconst 1, 1), (39, .iadd, 1), (40, .bipush 16, 2), (42, .invokestatic 37, 3), (45, .putfield 24, 3), (48, .return_, 1)]
theorem tkX2_note : ∀ e ∈ tbX2_note, decode cX2_note e.1 = .ok e.2 := by decide +kernel
abbrev tbX2_forget : List (Nat × Instr × Nat) := [(0, .aload_n 0, 1), (1, .getfield 24, 3), (4, .istore_n 2, 1), (5, .aload_n 0, 1), (6, .iload_n 2, 1), (7, .iconst 1, 1), (8, .isub, 1), (9, .invokevirtual 40, 3), (12, .istore_n 3, 1), (13, .aload_n 0, 1), (14, .iconst 0, 1), (15, .putfield 24, 3), (18, .aload_n 0, 1), (19, .iload_n 3, 1), (20, .iconst 1, 1), (21, .isub, 1), (22, .bipush 16, 2), (24, .invokestatic 31, 3), (27, .putfield 28, 3), (30, .iconst 0, 1), (31, .istore 4, 2), (33, .iload 4, 2), (35, .iload_n 2, 1), (36, .if_icmp .ge 61, 3), (39, .iload_n 3, 1), (40, .iload 4, 2), (42, .iadd, 1), (43, .bipush 16, 2), (45, .invokestatic 31, 3), (48, .istore 5, 2), (50, .aload_n 0, 1), (51, .getfield 9, 3), (54, .iload 5, 2), (56, .iaload, 1), (57, .istore 6, 2), (59, .iload 6, 2), (61, .iload_n 1, 1), (62, .if_icmp .eq 29, 3), (65, .aload_n 0, 1), (66, .iload 6, 2), (68, .iload_n 1, 1), (69, .if_icmp .le 10, 3), (72, .iload 6, 2), (74, .iconst 1, 1), (75, .isub, 1), (76, .goto 5, 3), (79, .iload 6, 2), (81, .aload_n 0, 1), (82, .getfield 15, 3), (85, .iload 5, 2), (87, .iaload, 1), (88, .invokevirtual 44, 3), (91, .iinc 4 1, 3), (94, .goto (-61), 3), (97, .return_, 1)]
theorem tkX2_forget : ∀ e ∈ tbX2_forget, decode cX2_forget e.1 = .ok e.2 := by decide +kernel
abbrev tbX3_init : List (Nat × Instr × Nat) := [(0, .aload_n 0, 1), (1, .invokespecial 3, 3), (4, .return_, 1)]
theorem tkX3_init : ∀ e ∈ tbX3_init, decode cX3_init e.1 = .ok e.2 := by decide +kernel
abbrev tbX3_start : List (Nat × Instr × Nat) := [(0, .aload_n 0, 1), (1, .iload_n 1, 1), (2, .putfield 9, 3), (5, .aload_n 0, 1), (6, .iload_n 2, 1), (7, .putfield 15, 3), (10, .aload_n 0, 1), (11, .iload_n 3, 1), (12, .putfield 18, 3), (15, .aload_n 0, 1), (16, .iconst 0, 1), (17, .putfield 21, 3), (20, .aload_n 0, 1), (21, .iconst 0, 1), (22, .putfield 24, 3), (25, .aload_n 0, 1), (26, .iconst 0, 1), (27, .putfield 27, 3), (30, .aload_n 0, 1), (31, .iconst 0, 1), (32, .putfield 30, 3), (35, .aload_n 0, 1), (36, .iconst 0, 1), (37, .putfield 33, 3), (40, .aload_n 0, 1), (41, .iconst 0, 1), (42, .putfield 37, 3), (45, .return_, 1)]
theorem tkX3_start : ∀ e ∈ tbX3_start, decode cX3_start e.1 = .ok e.2 := by decide +kernel
abbrev tbX3_copyFrom : List (Nat × Instr × Nat) := [(0, .aload_n 0, 1), (1, .aload_n 1, 1), (2, .getfield 9, 3), (5, .putfield 9, 3), (8, .aload_n 0, 1), (9, .aload_n 1, 1), (10, .getfield 15, 3), (13, .putfield 15, 3), (16, .aload_n 0, 1), (17, .aload_n 1, 1), (18, .getfield 18, 3), (21, .putfield 18, 3), (24, .aload_n 0, 1), (25, .aload_n 1, 1), (26, .getfield 21, 3), (29, .putfield 21, 3), (32, .aload_n 0, 1), (33, .aload_n 1, 1), (34, .getfield 24, 3), (37, .putfield 24, 3), (40, .aload_n 0, 1), (41, .aload_n 1, 1), (42, .getfield 27, 3), (45, .putfield 27, 3), (48, .aload_n 0, 1), (49, .aload_n 1, 1), (50, .getfield 30, 3), (53, .putfield 30, 3), (56, .aload_n 0, 1), (57, .aload_n 1, 1), (58, .getfield 33, 3), (61, .putfield 33, 3), (64, .aload_n 0, 1), (65, .aload_n 1, 1), (66, .getfield 37, 3), (69, .putfield 37, 3), (72, .return_, 1)]
theorem tkX3_copyFrom : ∀ e ∈ tbX3_copyFrom, decode cX3_copyFrom e.1 = .ok e.2 := by decide +kernel
abbrev tbX3_setsOff : List (Nat × Instr × Nat) := [(0, .aload_n 0, 1), (1, .getfield 33, 3), (4, .ifCond .ne 10, 3), (7, .aload_n 1, 1), (8, .getfield 33, 3), (11, .ifCond .eq 5, 3), (14, .iconst 0, 1), (15, .ireturn, 1), (16, .aload_n 0, 1), (17, .getfield 21, 3), (20, .iconst 2, 1), (21, .if_icmp .ne 28, 3), (24, .aload_n 1, 1), (25, .getfield 9, 3), (28, .iconst 1, 1), (29, .if_icmp .ne 18, 3), (32, .aload_n 1, 1), (33, .getfield 15, 3), (36, .aload_n 0, 1), (37, .getfield 27, 3), (40, .if_icmp .ne 7, 3), (43, .iconst 1, 1), (44, .goto 4, 3), (47, .iconst 0, 1), (48, .ireturn, 1), (49, .aload_n 0, 1), (50, .getfield 21, 3), (53, .iconst 3, 1), (54, .if_icmp .ne 15, 3), (57, .aload_n 1, 1), (58, .getfield 9, 3), (61, .iconst 2, 1), (62, .if_icmp .ne 7, 3), (65, .iconst 1, 1), (66, .goto 4, 3), (69, .iconst 0, 1), (70, .ireturn, 1)]
theorem tkX3_setsOff : ∀ e ∈ tbX3_setsOff, decode cX3_setsOff e.1 = .ok e.2 := by decide +kernel
abbrev tbX4_init : List (Nat × Instr × Nat) := [(0, .aload_n 0, 1), (1, .invokespecial 3, 3), (4, .aload_n 0, 1), (5, .bipush 6, 2), (7, .newarray .boolean, 2), (9, .putfield 9, 3), (12, .aload_n 0, 1), (13, .bipush 18, 2), (15, .newarray .int, 2), (17, .putfield 15, 3), (20, .aload_n 0, 1), (21, .bipush 8, 2), (23, .anewarray 19, 3), (26, .putfield 21, 3), (29, .aload_n 0, 1), (30, .new 25, 3), (33, .dup, 1), (34, .invokespecial 27, 3), (37, .putfield 28, 3), (40, .aload_n 0, 1), (41, .iconst 3, 1), (42, .putfield 32, 3), (45, .iconst 0, 1), (46, .istore_n 1, 1), (47, .iload_n 1, 1), (48, .bipush 8, 2), (50, .if_icmp .ge 22, 3), (53, .aload_n 0, 1), (54, .getfield 21, 3), (57, .iload_n 1, 1), (58, .new 19, 3), (61, .dup, 1), (62, .invokespecial 36, 3), (65, .aastore, 1), (66, .iinc 1 1, 3), (69, .goto (-22), 3), (72, .return_, 1)]
theorem tkX4_init : ∀ e ∈ tbX4_init, decode cX4_init e.1 = .ok e.2 := by decide +kernel
abbrev tbX4_copyFrom : List (Nat × Instr × Nat) := [(0, .aload_n 1, 1), (1, .getfield 15, 3), (4, .iconst 0, 1), (5, .aload_n 0, 1), (6, .getfield 15, 3), (9, .iconst 0, 1), (10, .bipush 18, 2), (12, .invokestatic 37, 3), (15, .iconst 0, 1), (16, .istore_n 2, 1), (17, .iload_n 2, 1), (18, .bipush 6, 2), (20, .if_icmp .ge 21, 3), (23, .aload_n 0, 1), (24, .getfield 9, 3), (27, .iload_n 2, 1), (28, .aload_n 1, 1), (29, .getfield 9, 3), (32, .iload_n 2, 1), (33, .baload, 1), (34, .bastore, 1), (35, .iinc 2 1, 3), (38, .goto (-21), 3), (41, .iconst 0, 1), (42, .istore_n 2, 1), (43, .iload_n 2, 1), (44, .aload_n 1, 1), (45, .getfield 43, 3), (48, .if_icmp .ge 24, 3), (51, .aload_n 0, 1), (52, .getfield 21, 3), (55, .iload_n 2, 1), (56, .aaload, 1), (57, .aload_n 1, 1), (58, .getfield 21, 3), (61, .iload_n 2, 1), (62, .aaload, 1), (63, .invokevirtual 46, 3), (66, .iinc 2 1, 3), (69, .goto (-26), 3), (72, .aload_n 0, 1), (73, .getfield 28, 3), (76, .aload_n 1, 1), (77, .getfield 28, 3), (80, .invokevirtual 50, 3), (83, .aload_n 0, 1), (84, .aload_n 1, 1), (85, .getfield 43, 3), (88, .putfield 43, 3), (91, .aload_n 0, 1), (92, .aload_n 1, 1), (93, .getfield 32, 3), (96, .putfield 32, 3), (99, .aload_n 0, 1), (100, .aload_n 1, 1), (101, .getfield 53, 3), (104, .putfield 53, 3), (107, .return_, 1)]
theorem tkX4_copyFrom : ∀ e ∈ tbX4_copyFrom, decode cX4_copyFrom e.1 = .ok e.2 := by decide +kernel
abbrev tbX4_isThere : List (Nat × Instr × Nat) := [(0, .iload_n 1, 1), (1, .invokestatic 56, 3), (4, .ifCond .eq 16, 3), (7, .aload_n 0, 1), (8, .getfield 9, 3), (11, .iload_n 1, 1), (12, .baload, 1), (13, .ifCond .eq 7, 3), (16, .iconst 1, 1), (17, .goto 4, 3), (20, .iconst 0, 1), (21, .ireturn, 1)]
theorem tkX4_isThere : ∀ e ∈ tbX4_isThere, decode cX4_isThere e.1 = .ok e.2 := by decide +kernel
abbrev tbX4_rowsThere : List (Nat × Instr × Nat) := [(0, .iconst 0, 1), (1, .istore_n 1, 1), (2, .iconst 0, 1), (3, .istore_n 2, 1), (4, .iload_n 2, 1), (5, .bipush 6, 2), (7, .if_icmp .ge 21, 3), (10, .aload_n 0, 1), (11, .getfield 9, 3), (14, .iload_n 2, 1), (15, .baload, 1), (16, .ifCond .eq 6, 3), (19, .iinc 1 1, 3), (22, .iinc 2 1, 3), (25, .goto (-21), 3), (28, .iload_n 1, 1), (29, .ireturn, 1)]
theorem tkX4_rowsThere : ∀ e ∈ tbX4_rowsThere, decode cX4_rowsThere e.1 = .ok e.2 := by decide +kernel
abbrev tbX4_takeRuleAway : List (Nat × Instr × Nat) := [(0, .iload_n 1, 1), (1, .istore_n 2, 1), (2, .iload_n 2, 1), (3, .iconst 1, 1), (4, .iadd, 1), (5, .aload_n 0, 1), (6, .getfield 43, 3), (9, .if_icmp .ge 26, 3), (12, .aload_n 0, 1), (13, .getfield 21, 3), (16, .iload_n 2, 1), (17, .aaload, 1), (18, .aload_n 0, 1), (19, .getfield 21, 3), (22, .iload_n 2, 1), (23, .iconst 1, 1), (24, .iadd, 1), (25, .aaload, 1), (26, .invokevirtual 46, 3), (29, .iinc 2 1, 3), (32, .goto (-30), 3), (35, .aload_n 0, 1), (36, .dup, 1), (37, .getfield 43, 3), (40, .iconst 1, 1), (41, .isub, 1), (42, .putfield 43, 3), (45, .aload_n 0, 1), (46, .getfield 28, 3), (49, .iload_n 1, 1), (50, .invokevirtual 60, 3), (53, .return_, 1)]
theorem tkX4_takeRuleAway : ∀ e ∈ tbX4_takeRuleAway, decode cX4_takeRuleAway e.1 = .ok e.2 := by decide +kernel
abbrev tbX5_init : List (Nat × Instr × Nat) := [(0, .aload_n 0, 1), (1, .invokespecial 3, 3), (4, .aload_n 0, 1), (5, .new 9, 3), (8, .dup, 1), (9, .invokespecial 11, 3), (12, .putfield 12, 3), (15, .return_, 1)]
theorem tkX5_init : ∀ e ∈ tbX5_init, decode cX5_init e.1 = .ok e.2 := by decide +kernel
abbrev tbX5_begin : List (Nat × Instr × Nat) := [(0, .aload_n 0, 1), (1, .getfield 12, 3), (4, .aload_n 1, 1), (5, .invokevirtual 18, 3), (8, .aload_n 0, 1), (9, .iconst 0, 1), (10, .putfield 22, 3), (13, .aload_n 0, 1), (14, .iconst (-1), 1), (15, .putfield 26, 3), (18, .aload_n 0, 1), (19, .iconst 0, 1), (20, .putfield 29, 3), (23, .return_, 1)]
theorem tkX5_begin : ∀ e ∈ tbX5_begin, decode cX5_begin e.1 = .ok e.2 := by decide +kernel
abbrev tbX5_putIn : List (Nat × Instr × Nat) := [(0, .aload_n 0, 1), (1, .aload_n 1, 1), (2, .invokevirtual 32, 3), (5, .iload_n 2, 1), (6, .invokestatic 35, 3), (9, .ifCond .eq 15, 3), (12, .aload_n 0, 1), (13, .getfield 12, 3), (16, .getfield 39, 3), (19, .iload_n 2, 1), (20, .baload, 1), (21, .ifCond .eq 9, 3), (24, .aload_n 0, 1), (25, .iconst 1, 1), (26, .putfield 29, 3), (29, .return_, 1), (30, .aload_n 0, 1), (31, .getfield 12, 3), (34, .getfield 43, 3), (37, .iload_n 2, 1), (38, .iconst 0, 1), (39, .invokestatic 47, 3), (42, .iload_n 3, 1), (43, .iastore, 1), (44, .aload_n 0, 1), (45, .getfield 12, 3), (48, .getfield 43, 3), (51, .iload_n 2, 1), (52, .iconst 1, 1), (53, .invokestatic 47, 3), (56, .iload 4, 2), (58, .iastore, 1), (59, .aload_n 0, 1), (60, .getfield 12, 3), (63, .getfield 43, 3), (66, .iload_n 2, 1), (67, .iconst 2, 1), (68, .invokestatic 47, 3), (71, .iload 5, 2), (73, .iastore, 1), (74, .aload_n 0, 1), (75, .iconst 0, 1), (76, .iload_n 2, 1), (77, .iconst 0, 1), (78, .iconst 0, 1), (79, .iconst 0, 1), (80, .invokevirtual 51, 3), (83, .return_, 1)]
theorem tkX5_putIn : ∀ e ∈ tbX5_putIn, decode cX5_putIn e.1 = .ok e.2 := by decide +kernel
abbrev tbX5_change : List (Nat × Instr × Nat) := [(0, .aload_n 0, 1), (1, .aload_n 1, 1), (2, .invokevirtual 32, 3), (5, .aload_n 0, 1), (6, .getfield 12, 3), (9, .iload_n 2, 1), (10, .invokevirtual 55, 3), (13, .ifCond .eq 10, 3), (16, .iload_n 3, 1), (17, .invokestatic 58, 3), (20, .ifCond .ne 11, 3), (23, .aload_n 0, 1), (24, .iconst 1, 1), (25, .putfield 29, 3), (28, .goto 31, 3), (31, .aload_n 0, 1), (32, .getfield 12, 3), (35, .getfield 43, 3), (38, .iload_n 2, 1), (39, .iload_n 3, 1), (40, .invokestatic 47, 3), (43, .iaload, 1), (44, .iload 4, 2), (46, .if_icmp .eq 13, 3), (49, .aload_n 0, 1), (50, .iconst 1, 1), (51, .iload_n 2, 1), (52, .iload_n 3, 1), (53, .iload 4, 2), (55, .iconst 0, 1), (56, .invokevirtual 51, 3), (59, .return_, 1)]
theorem tkX5_change : ∀ e ∈ tbX5_change, decode cX5_change e.1 = .ok e.2 := by decide +kernel
abbrev tbX5_takeOut : List (Nat × Instr × Nat) := [(0, .aload_n 0, 1), (1, .aload_n 1, 1), (2, .invokevirtual 32, 3), (5, .aload_n 0, 1), (6, .getfield 12, 3), (9, .iload_n 2, 1), (10, .invokevirtual 55, 3), (13, .ifCond .ne 11, 3), (16, .aload_n 0, 1), (17, .iconst 1, 1), (18, .putfield 29, 3), (21, .goto 12, 3), (24, .aload_n 0, 1), (25, .iconst 2, 1), (26, .iload_n 2, 1), (27, .iconst 0, 1), (28, .iconst 0, 1), (29, .iconst 0, 1), (30, .invokevirtual 51, 3), (33, .return_, 1)]
theorem tkX5_takeOut : ∀ e ∈ tbX5_takeOut, decode cX5_takeOut e.1 = .ok e.2 := by decide +kernel
abbrev tbX5_happen : List (Nat × Instr × Nat) := [(0, .iload 5, 2), (2, .aload_n 0, 1), (3, .getfield 12, 3), (6, .getfield 61, 3), (9, .if_icmp .le 9, 3), (12, .aload_n 0, 1), (13, .iconst 3, 1), (14, .putfield 29, 3), (17, .return_, 1), (18, .aload_n 0, 1), (19, .getfield 22, 3), (22, .bipush 100, 2), (24, .if_icmp .lt 9, 3), (27, .aload_n 0, 1), (28, .iconst 4, 1), (29, .putfield 29, 3), (32, .return_, 1), (33, .aload_n 0, 1), (34, .iload_n 1, 1), (35, .iload_n 2, 1), (36, .iload_n 3, 1), (37, .iload 4, 2), (39, .invokevirtual 64, 3), (42, .istore 6, 2), (44, .aload_n 0, 1), (45, .iload 6, 2), (47, .invokevirtual 68, 3), (50, .ifCond .eq 9, 3), (53, .aload_n 0, 1), (54, .iconst 5, 1), (55, .putfield 29, 3), (58, .return_, 1), (59, .aload_n 0, 1), (60, .iload_n 1, 1), (61, .iload_n 2, 1), (62, .iload_n 3, 1), (63, .iload 4, 2), (65, .invokevirtual 71, 3), (68, .aload_n 0, 1), (69, .dup, 1), (70, .getfield 22, 3), (73, .iconst 1, 1), (74, .iadd, 1), (75, .putfield 22, 3), (78, .aload_n 0, 1), (79, .getfield 12, 3), (82, .dup, 1), (83, .getfield 75, 3), (86, .iconst 1, 1), (87, .iadd, 1), (88, .putfield 75, 3), (91, .aload_n 0, 1), (92, .aload_n 0, 1), (93, .getfield 26, 3), (96, .iload 5, 2), (98, .invokestatic 76, 3), (101, .putfield 26, 3), (104, .iconst 0, 1), (105, .istore 7, 2), (107, .iload 7, 2), (109, .aload_n 0, 1), (110, .getfield 12, 3), (113, .getfield 81, 3), (116, .if_icmp .ge 34, 3), (119, .aload_n 0, 1), (120, .getfield 29, 3), (123, .ifCond .ne 27, 3), (126, .iload 6, 2), (128, .iconst 1, 1), (129, .iload 7, 2), (131, .ishl, 1), (132, .iand, 1), (133, .ifCond .eq 11, 3), (136, .aload_n 0, 1), (137, .iload 7, 2), (139, .iload 5, 2), (141, .invokevirtual 84, 3), (144, .iinc 7 1, 3), (147, .goto (-40), 3), (150, .return_, 1)]
theorem tkX5_happen : ∀ e ∈ tbX5_happen, decode cX5_happen e.1 = .ok e.2 := by decide +kernel
abbrev tbX5_act : List (Nat × Instr × Nat) := [(0, .aload_n 0, 1), (1, .getfield 12, 3), (4, .getfield 88, 3), (7, .iload_n 1, 1), (8, .aaload, 1), (9, .astore_n 3, 1), (10, .aload_n 3, 1), (11, .dup, 1), (12, .getfield 92, 3), (15, .iconst 1, 1), (16, .iadd, 1), (17, .putfield 92, 3), (20, .aload_n 0, 1), (21, .getfield 12, 3), (24, .getfield 97, 3), (27, .iload_n 1, 1), (28, .iload_n 2, 1), (29, .invokevirtual 101, 3), (32, .aload_n 3, 1), (33, .getfield 106, 3), (36, .istore 4, 2), (38, .aload_n 0, 1), (39, .getfield 12, 3), (42, .iload 4, 2), (44, .invokevirtual 55, 3), (47, .ifCond .ne 4, 3), (50, .return_, 1), (51, .aload_n 3, 1), (52, .getfield 109, 3), (55, .iconst 3, 1), (56, .if_icmp .ne 18, 3), (59, .aload_n 0, 1), (60, .iconst 2, 1), (61, .iload 4, 2), (63, .iconst 0, 1), (64, .iconst 0, 1), (65, .iload_n 2, 1), (66, .iconst 1, 1), (67, .iadd, 1), (68, .invokevirtual 51, 3), (71, .goto 74, 3), (74, .aload_n 3, 1), (75, .getfield 109, 3), (78, .iconst 2, 1), (79, .if_icmp .ne 66, 3), (82, .aload_n 0, 1), (83, .getfield 12, 3), (86, .getfield 43, 3), (89, .iload 4, 2), (91, .aload_n 3, 1), (92, .getfield 112, 3), (95, .invokestatic 47, 3), (98, .iaload, 1), (99, .aload_n 3, 1), (100, .getfield 115, 3), (103, .iadd, 1), (104, .istore 5, 2), (106, .iload 5, 2), (108, .invokestatic 118, 3), (111, .ifCond .ne 11, 3), (114, .aload_n 0, 1), (115, .iconst 2, 1), (116, .putfield 29, 3), (119, .goto 26, 3), (122, .aload_n 3, 1), (123, .getfield 115, 3), (126, .ifCond .eq 19, 3), (129, .aload_n 0, 1), (130, .iconst 1, 1), (131, .iload 4, 2), (133, .aload_n 3, 1), (134, .getfield 112, 3), (137, .iload 5, 2), (139, .iload_n 2, 1), (140, .iconst 1, 1), (141, .iadd, 1), (142, .invokevirtual 51, 3), (145, .return_, 1)]
theorem tkX5_act : ∀ e ∈ tbX5_act, decode cX5_act e.1 = .ok e.2 := by decide +kernel
abbrev tbX5_alterTable : List (Nat × Instr × Nat) := [(0, .iload_n 1, 1), (1, .iconst 1, 1), (2, .if_icmp .ne 21, 3), (5, .aload_n 0, 1), (6, .getfield 12, 3), (9, .getfield 43, 3), (12, .iload_n 2, 1), (13, .iload_n 3, 1), (14, .invokestatic 47, 3), (17, .iload 4, 2), (19, .iastore, 1), (20, .goto 21, 3), (23, .aload_n 0, 1), (24, .getfield 12, 3), (27, .getfield 39, 3), (30, .iload_n 2, 1), (31, .iload_n 1, 1), (32, .ifCond .ne 7, 3), (35, .iconst 1, 1), (36, .goto 4, 3), (39, .iconst 0, 1), (40, .bastore, 1), (41, .return_, 1)]
theorem tkX5_alterTable : ∀ e ∈ tbX5_alterTable, decode cX5_alterTable e.1 = .ok e.2 := by decide +kernel
abbrev tbX5_matchingRules : List (Nat × Instr × Nat) := [(0, .iconst 0, 1), (1, .istore 5, 2), (3, .iconst 0, 1), (4, .istore 6, 2), (6, .iload 6, 2), (8, .aload_n 0, 1), (9, .getfield 12, 3), (12, .getfield 81, 3), (15, .if_icmp .ge 104, 3), (18, .aload_n 0, 1), (19, .getfield 12, 3), (22, .getfield 88, 3), (25, .iload 6, 2), (27, .aaload, 1), (28, .astore 7, 2), (30, .aload 7, 2), (32, .getfield 121, 3), (35, .ifCond .ne 78, 3), (38, .aload 7, 2), (40, .getfield 125, 3), (43, .iload_n 1, 1), (44, .if_icmp .ne 69, 3), (47, .iload_n 1, 1), (48, .iconst 1, 1), (49, .if_icmp .ne 12, 3), (52, .aload 7, 2), (54, .getfield 128, 3), (57, .iload_n 3, 1), (58, .if_icmp .ne 55, 3), (61, .iload_n 1, 1), (62, .iconst 1, 1), (63, .if_icmp .ne 8, 3), (66, .iload 4, 2), (68, .goto 20, 3), (71, .aload_n 0, 1), (72, .getfield 12, 3), (75, .getfield 43, 3), (78, .iload_n 2, 1), (79, .aload 7, 2), (81, .getfield 128, 3), (84, .invokestatic 47, 3), (87, .iaload, 1), (88, .istore 8, 2), (90, .iload 5, 2), (92, .iload 8, 2), (94, .aload 7, 2), (96, .getfield 131, 3), (99, .if_icmp .lt 10, 3), (102, .iconst 1, 1), (103, .iload 6, 2), (105, .ishl, 1), (106, .goto 4, 3), (109, .iconst 0, 1), (110, .ior, 1), (111, .istore 5, 2), (113, .iinc 6 1, 3), (116, .goto (-110), 3), (119, .iload 5, 2), (121, .ireturn, 1)]
theorem tkX5_matchingRules : ∀ e ∈ tbX5_matchingRules, decode cX5_matchingRules e.1 = .ok e.2 := by decide +kernel
abbrev tbX5_hasRefusing : List (Nat × Instr × Nat) := [(0, .iconst 0, 1), (1, .istore_n 2, 1), (2, .iload_n 2, 1), (3, .aload_n 0, 1), (4, .getfield 12, 3), (7, .getfield 81, 3), (10, .if_icmp .ge 35, 3), (13, .iload_n 1, 1), (14, .iconst 1, 1), (15, .iload_n 2, 1), (16, .ishl, 1), (17, .iand, 1), (18, .ifCond .eq 21, 3), (21, .aload_n 0, 1), (22, .getfield 12, 3), (25, .getfield 88, 3), (28, .iload_n 2, 1), (29, .aaload, 1), (30, .getfield 109, 3), (33, .iconst 1, 1), (34, .if_icmp .ne 5, 3), (37, .iconst 1, 1), (38, .ireturn, 1), (39, .iinc 2 1, 3), (42, .goto (-40), 3), (45, .iconst 0, 1), (46, .ireturn, 1)]
theorem tkX5_hasRefusing : ∀ e ∈ tbX5_hasRefusing, decode cX5_hasRefusing e.1 = .ok e.2 := by decide +kernel
abbrev tbX6_init : List (Nat × Instr × Nat) := [(0, .aload_n 0, 1), (1, .invokespecial 3, 3), (4, .aload_n 0, 1), (5, .bipush 80, 2), (7, .newarray .char, 2), (9, .putfield 9, 3), (12, .aload_n 0, 1), (13, .iconst 4, 1), (14, .newarray .int, 2), (16, .putfield 15, 3), (19, .return_, 1)]
theorem tkX6_init : ∀ e ∈ tbX6_init, decode cX6_init e.1 = .ok e.2 := by decide +kernel
abbrev tbX7_init : List (Nat × Instr × Nat) := [(0, .aload_n 0, 1), (1, .invokespecial 1, 3), (4, .aload_n 0, 1), (5, .new 7, 3), (8, .dup, 1), (9, .invokespecial 9, 3), (12, .putfield 10, 3), (15, .aload_n 0, 1), (16, .new 16, 3), (19, .dup, 1), (20, .invokespecial 18, 3), (23, .putfield 19, 3), (26, .aload_n 0, 1), (27, .new 23, 3), (30, .dup, 1), (31, .invokespecial 25, 3), (34, .putfield 26, 3), (37, .aload_n 0, 1), (38, .new 30, 3), (41, .dup, 1), (42, .invokespecial 32, 3), (45, .putfield 33, 3), (48, .aload_n 0, 1), (49, .new 37, 3), (52, .dup, 1), (53, .invokespecial 39, 3), (56, .putfield 40, 3), (59, .aload_n 0, 1), (60, .iconst 2, 1), (61, .anewarray 7, 3), (64, .putfield 44, 3), (67, .aload_n 0, 1), (68, .iconst 2, 1), (69, .newarray .boolean, 2), (71, .putfield 48, 3), (74, .iconst 0, 1), (75, .istore_n 1, 1), (76, .iload_n 1, 1), (77, .iconst 2, 1), (78, .if_icmp .ge 22, 3), (81, .aload_n 0, 1), (82, .getfield 44, 3), (85, .iload_n 1, 1), (86, .new 7, 3), (89, .dup, 1), (90, .invokespecial 9, 3), (93, .aastore, 1), (94, .iinc 1 1, 3), (97, .goto (-21), 3), (100, .return_, 1)]
theorem tkX7_init : ∀ e ∈ tbX7_init, decode cX7_init e.1 = .ok e.2 := by decide +kernel
abbrev tbX7_addRule : List (Nat × Instr × Nat) := [(0, .iload_n 1, 1), (1, .ifCond .lt 22, 3), (4, .iload_n 1, 1), (5, .iconst 2, 1), (6, .if_icmp .gt 17, 3), (9, .iload_n 2, 1), (10, .invokestatic 52, 3), (13, .ifCond .eq 10, 3), (16, .iload_n 3, 1), (17, .invokestatic 56, 3), (20, .ifCond .ne 13, 3), (23, .new 59, 3), (26, .dup, 1), (27, .ldc 61, 2), (29, .invokespecial 63, 3), (32, .athrow, 1), (33, .aload_n 0, 1), (34, .getfield 10, 3), (37, .getfield 66, 3), (40, .bipush 8, 2), (42, .if_icmp .lt 13, 3), (45, .new 70, 3), (48, .dup, 1), (49, .ldc 72, 2), (51, .invokespecial 74, 3), (54, .athrow, 1), (55, .aload_n 0, 1), (56, .getfield 40, 3), (59, .aload_n 0, 1), (60, .getfield 10, 3), (63, .invokevirtual 75, 3), (66, .aload_n 0, 1), (67, .getfield 10, 3), (70, .getfield 66, 3), (73, .istore 4, 2), (75, .aload_n 0, 1), (76, .getfield 10, 3), (79, .getfield 79, 3), (82, .iload 4, 2), (84, .aaload, 1), (85, .iload_n 1, 1), (86, .iload_n 2, 1), (87, .iload_n 3, 1), (88, .invokevirtual 83, 3), (91, .aload_n 0, 1), (92, .getfield 10, 3), (95, .dup, 1), (96, .getfield 66, 3), (99, .iconst 1, 1), (100, .iadd, 1), (101, .putfield 66, 3), (104, .iload 4, 2), (106, .ireturn, 1)]
theorem tkX7_addRule : ∀ e ∈ tbX7_addRule, decode cX7_addRule e.1 = .ok e.2 := by decide +kernel
abbrev tbX7_setAction : List (Nat × Instr × Nat) := [(0, .aload_n 0, 1), (1, .iload_n 1, 1), (2, .invokevirtual 89, 3), (5, .iload_n 2, 1), (6, .ifCond .lt 39, 3), (9, .iload_n 2, 1), (10, .iconst 3, 1), (11, .if_icmp .gt 34, 3), (14, .iload_n 3, 1), (15, .invokestatic 93, 3), (18, .ifCond .eq 27, 3), (21, .iload 4, 2), (23, .invokestatic 52, 3), (26, .ifCond .eq 19, 3), (29, .iload 5, 2), (31, .sipush (-999), 3), (34, .if_icmp .lt 11, 3), (37, .iload 5, 2), (39, .sipush 999, 3), (42, .if_icmp .le 13, 3), (45, .new 59, 3), (48, .dup, 1), (49, .ldc 96, 2), (51, .invokespecial 63, 3), (54, .athrow, 1), (55, .aload_n 0, 1), (56, .getfield 40, 3), (59, .aload_n 0, 1), (60, .getfield 10, 3), (63, .invokevirtual 75, 3), (66, .aload_n 0, 1), (67, .getfield 10, 3), (70, .getfield 79, 3), (73, .iload_n 1, 1), (74, .aaload, 1), (75, .astore 6, 2), (77, .aload 6, 2), (79, .getfield 98, 3), (82, .istore 7, 2), (84, .aload 6, 2), (86, .iload_n 2, 1), (87, .putfield 98, 3), (90, .aload 6, 2), (92, .iload_n 3, 1), (93, .putfield 101, 3), (96, .aload 6, 2), (98, .iload 4, 2), (100, .putfield 104, 3), (103, .aload 6, 2), (105, .iload 5, 2), (107, .putfield 107, 3), (110, .iload 7, 2), (112, .ireturn, 1)]
theorem tkX7_setAction : ∀ e ∈ tbX7_setAction, decode cX7_setAction e.1 = .ok e.2 := by decide +kernel
abbrev tbX7_turnMute : List (Nat × Instr × Nat) := [(0, .aload_n 0, 1), (1, .iload_n 1, 1), (2, .invokevirtual 89, 3), (5, .aload_n 0, 1), (6, .getfield 40, 3), (9, .aload_n 0, 1), (10, .getfield 10, 3), (13, .invokevirtual 75, 3), (16, .aload_n 0, 1), (17, .getfield 10, 3), (20, .getfield 79, 3), (23, .iload_n 1, 1), (24, .aaload, 1), (25, .astore_n 2, 1), (26, .aload_n 2, 1), (27, .aload_n 2, 1), (28, .getfield 110, 3), (31, .ifCond .ne 7, 3), (34, .iconst 1, 1), (35, .goto 4, 3), (38, .iconst 0, 1), (39, .putfield 110, 3), (42, .aload_n 2, 1), (43, .getfield 110, 3), (46, .ireturn, 1)]
theorem tkX7_turnMute : ∀ e ∈ tbX7_turnMute, decode cX7_turnMute e.1 = .ok e.2 := by decide +kernel
abbrev tbX7_dropRule : List (Nat × Instr × Nat) := [(0, .aload_n 0, 1), (1, .iload_n 1, 1), (2, .invokevirtual 89, 3), (5, .aload_n 0, 1), (6, .getfield 40, 3), (9, .aload_n 0, 1), (10, .getfield 10, 3), (13, .invokevirtual 75, 3), (16, .aload_n 0, 1), (17, .getfield 10, 3), (20, .getfield 79, 3), (23, .iload_n 1, 1), (24, .aaload, 1), (25, .getfield 114, 3), (28, .istore_n 2, 1), (29, .aload_n 0, 1), (30, .getfield 10, 3), (33, .iload_n 1, 1), (34, .invokevirtual 117, 3), (37, .iload_n 2, 1), (38, .ireturn, 1)]
theorem tkX7_dropRule : ∀ e ∈ tbX7_dropRule, decode cX7_dropRule e.1 = .ok e.2 := by decide +kernel
abbrev tbX7_setDepth : List (Nat × Instr × Nat) := [(0, .iload_n 1, 1), (1, .ifCond .lt 8, 3), (4, .iload_n 1, 1), (5, .iconst 5, 1), (6, .if_icmp .le 13, 3), (9, .new 59, 3), (12, .dup, 1), (13, .ldc 120, 2), (15, .invokespecial 63, 3), (18, .athrow, 1), (19, .aload_n 0, 1), (20, .getfield 40, 3), (23, .aload_n 0, 1), (24, .getfield 10, 3), (27, .invokevirtual 75, 3), (30, .aload_n 0, 1), (31, .getfield 10, 3), (34, .getfield 122, 3), (37, .istore_n 2, 1), (38, .aload_n 0, 1), (39, .getfield 10, 3), (42, .iload_n 1, 1), (43, .putfield 122, 3), (46, .iload_n 2, 1), (47, .ireturn, 1)]
theorem tkX7_setDepth : ∀ e ∈ tbX7_setDepth, decode cX7_setDepth e.1 = .ok e.2 := by decide +kernel
abbrev tbX7_insert : List (Nat × Instr × Nat) := [(0, .iload_n 1, 1), (1, .invokestatic 125, 3), (4, .iload_n 2, 1), (5, .invokestatic 128, 3), (8, .iload_n 3, 1), (9, .invokestatic 128, 3), (12, .iload 4, 2), (14, .invokestatic 128, 3), (17, .aload_n 0, 1), (18, .getfield 19, 3), (21, .aload_n 0, 1), (22, .getfield 10, 3), (25, .iload_n 1, 1), (26, .iload_n 2, 1), (27, .iload_n 3, 1), (28, .iload 4, 2), (30, .invokevirtual 131, 3), (33, .aload_n 0, 1), (34, .invokevirtual 135, 3), (37, .ireturn, 1)]
theorem tkX7_insert : ∀ e ∈ tbX7_insert, decode cX7_insert e.1 = .ok e.2 := by decide +kernel
abbrev tbX7_update : List (Nat × Instr × Nat) := [(0, .aload_n 0, 1), (1, .iload_n 1, 1), (2, .iload_n 2, 1), (3, .iload_n 3, 1), (4, .invokevirtual 139, 3), (7, .aload_n 0, 1), (8, .invokevirtual 135, 3), (11, .ireturn, 1)]
theorem tkX7_update : ∀ e ∈ tbX7_update, decode cX7_update e.1 = .ok e.2 := by decide +kernel
abbrev tbX7_remove : List (Nat × Instr × Nat) := [(0, .iload_n 1, 1), (1, .invokestatic 125, 3), (4, .aload_n 0, 1), (5, .getfield 19, 3), (8, .aload_n 0, 1), (9, .getfield 10, 3), (12, .iload_n 1, 1), (13, .invokevirtual 142, 3), (16, .aload_n 0, 1), (17, .invokevirtual 135, 3), (20, .ireturn, 1)]
theorem tkX7_remove : ∀ e ∈ tbX7_remove, decode cX7_remove e.1 = .ok e.2 := by decide +kernel
abbrev tbX7_whyNotUpdate : List (Nat × Instr × Nat) := [(0, .aload_n 0, 1), (1, .iload_n 1, 1), (2, .iload_n 2, 1), (3, .iload_n 3, 1), (4, .invokevirtual 139, 3), (7, .aload_n 0, 1), (8, .getfield 19, 3), (11, .getfield 146, 3), (14, .ireturn, 1)]
theorem tkX7_whyNotUpdate : ∀ e ∈ tbX7_whyNotUpdate, decode cX7_whyNotUpdate e.1 = .ok e.2 := by decide +kernel
abbrev tbX7_eventsOfUpdate : List (Nat × Instr × Nat) := [(0, .aload_n 0, 1), (1, .iload_n 1, 1), (2, .iload_n 2, 1), (3, .iload_n 3, 1), (4, .invokevirtual 139, 3), (7, .aload_n 0, 1), (8, .getfield 19, 3), (11, .getfield 146, 3), (14, .ifCond .ne 13, 3), (17, .aload_n 0, 1), (18, .getfield 19, 3), (21, .getfield 149, 3), (24, .goto 4, 3), (27, .iconst (-1), 1), (28, .ireturn, 1)]
theorem tkX7_eventsOfUpdate : ∀ e ∈ tbX7_eventsOfUpdate, decode cX7_eventsOfUpdate e.1 = .ok e.2 := by decide +kernel
abbrev tbX7_depthOfUpdate : List (Nat × Instr × Nat) := [(0, .aload_n 0, 1), (1, .iload_n 1, 1), (2, .iload_n 2, 1), (3, .iload_n 3, 1), (4, .invokevirtual 139, 3), (7, .aload_n 0, 1), (8, .getfield 19, 3), (11, .getfield 146, 3), (14, .ifCond .ne 13, 3), (17, .aload_n 0, 1), (18, .getfield 19, 3), (21, .getfield 152, 3), (24, .goto 4, 3), (27, .iconst (-1), 1), (28, .ireturn, 1)]
theorem tkX7_depthOfUpdate : ∀ e ∈ tbX7_depthOfUpdate, decode cX7_depthOfUpdate e.1 = .ok e.2 := by decide +kernel
abbrev tbX7_tryUpdate : List (Nat × Instr × Nat) := [(0, .iload_n 1, 1), (1, .invokestatic 125, 3), (4, .iload_n 2, 1), (5, .invokestatic 155, 3), (8, .iload_n 3, 1), (9, .invokestatic 128, 3), (12, .aload_n 0, 1), (13, .getfield 19, 3), (16, .aload_n 0, 1), (17, .getfield 10, 3), (20, .iload_n 1, 1), (21, .iload_n 2, 1), (22, .iload_n 3, 1), (23, .invokevirtual 158, 3), (26, .return_, 1)]
theorem tkX7_tryUpdate : ∀ e ∈ tbX7_tryUpdate, decode cX7_tryUpdate e.1 = .ok e.2 := by decide +kernel
abbrev tbX7_finishStatement : List (Nat × Instr × Nat) := [(0, .aload_n 0, 1), (1, .getfield 19, 3), (4, .getfield 146, 3), (7, .ifCond .eq 13, 3), (10, .new 70, 3), (13, .dup, 1), (14, .ldc 162, 2), (16, .invokespecial 74, 3), (19, .athrow, 1), (20, .aload_n 0, 1), (21, .getfield 40, 3), (24, .aload_n 0, 1), (25, .getfield 10, 3), (28, .invokevirtual 75, 3), (31, .aload_n 0, 1), (32, .getfield 10, 3), (35, .aload_n 0, 1), (36, .getfield 19, 3), (39, .getfield 164, 3), (42, .invokevirtual 167, 3), (45, .aload_n 0, 1), (46, .getfield 19, 3), (49, .getfield 149, 3), (52, .ireturn, 1)]
theorem tkX7_finishStatement : ∀ e ∈ tbX7_finishStatement, decode cX7_finishStatement e.1 = .ok e.2 := by decide +kernel
abbrev tbX7_hasRow : List (Nat × Instr × Nat) := [(0, .iload_n 1, 1), (1, .invokestatic 125, 3), (4, .aload_n 0, 1), (5, .getfield 10, 3), (8, .iload_n 1, 1), (9, .invokevirtual 170, 3), (12, .ireturn, 1)]
theorem tkX7_hasRow : ∀ e ∈ tbX7_hasRow, decode cX7_hasRow e.1 = .ok e.2 := by decide +kernel
abbrev tbX7_rowCount : List (Nat × Instr × Nat) := [(0, .aload_n 0, 1), (1, .getfield 10, 3), (4, .invokevirtual 173, 3), (7, .ireturn, 1)]
theorem tkX7_rowCount : ∀ e ∈ tbX7_rowCount, decode cX7_rowCount e.1 = .ok e.2 := by decide +kernel
abbrev tbX7_valueAt : List (Nat × Instr × Nat) := [(0, .iload_n 1, 1), (1, .invokestatic 125, 3), (4, .iload_n 2, 1), (5, .invokestatic 155, 3), (8, .aload_n 0, 1), (9, .getfield 10, 3), (12, .iload_n 1, 1), (13, .invokevirtual 170, 3), (16, .ifCond .ne 13, 3), (19, .new 70, 3), (22, .dup, 1), (23, .ldc 176, 2), (25, .invokespecial 74, 3), (28, .athrow, 1), (29, .aload_n 0, 1), (30, .getfield 10, 3), (33, .getfield 178, 3), (36, .iload_n 1, 1), (37, .iload_n 2, 1), (38, .invokestatic 182, 3), (41, .iaload, 1), (42, .ireturn, 1)]
theorem tkX7_valueAt : ∀ e ∈ tbX7_valueAt, decode cX7_valueAt e.1 = .ok e.2 := by decide +kernel
abbrev tbX7_sumOf : List (Nat × Instr × Nat) := [(0, .iload_n 1, 1), (1, .invokestatic 155, 3), (4, .iconst 0, 1), (5, .istore_n 2, 1), (6, .iconst 0, 1), (7, .istore_n 3, 1), (8, .iload_n 3, 1), (9, .bipush 6, 2), (11, .if_icmp .ge 36, 3), (14, .aload_n 0, 1), (15, .getfield 10, 3), (18, .iload_n 3, 1), (19, .invokevirtual 170, 3), (22, .ifCond .eq 19, 3), (25, .iload_n 2, 1), (26, .aload_n 0, 1), (27, .getfield 10, 3), (30, .getfield 178, 3), (33, .iload_n 3, 1), (34, .iload_n 1, 1), (35, .invokestatic 182, 3), (38, .iaload, 1), (39, .iadd, 1), (40, .istore_n 2, 1), (41, .iinc 3 1, 3), (44, .goto (-36), 3), (47, .iload_n 2, 1), (48, .ireturn, 1)]
theorem tkX7_sumOf : ∀ e ∈ tbX7_sumOf, decode cX7_sumOf e.1 = .ok e.2 := by decide +kernel
abbrev tbX7_ruleCount : List (Nat × Instr × Nat) := [(0, .aload_n 0, 1), (1, .getfield 10, 3), (4, .getfield 66, 3), (7, .ireturn, 1)]
theorem tkX7_ruleCount : ∀ e ∈ tbX7_ruleCount, decode cX7_ruleCount e.1 = .ok e.2 := by decide +kernel
abbrev tbX7_actionOf : List (Nat × Instr × Nat) := [(0, .aload_n 0, 1), (1, .iload_n 1, 1), (2, .invokevirtual 89, 3), (5, .aload_n 0, 1), (6, .getfield 10, 3), (9, .getfield 79, 3), (12, .iload_n 1, 1), (13, .aaload, 1), (14, .getfield 98, 3), (17, .ireturn, 1)]
theorem tkX7_actionOf : ∀ e ∈ tbX7_actionOf, decode cX7_actionOf e.1 = .ok e.2 := by decide +kernel
abbrev tbX7_isMuted : List (Nat × Instr × Nat) := [(0, .aload_n 0, 1), (1, .iload_n 1, 1), (2, .invokevirtual 89, 3), (5, .aload_n 0, 1), (6, .getfield 10, 3), (9, .getfield 79, 3), (12, .iload_n 1, 1), (13, .aaload, 1), (14, .getfield 110, 3), (17, .ireturn, 1)]
theorem tkX7_isMuted : ∀ e ∈ tbX7_isMuted, decode cX7_isMuted e.1 = .ok e.2 := by decide +kernel
abbrev tbX7_actsOf : List (Nat × Instr × Nat) := [(0, .aload_n 0, 1), (1, .iload_n 1, 1), (2, .invokevirtual 89, 3), (5, .aload_n 0, 1), (6, .getfield 10, 3), (9, .getfield 79, 3), (12, .iload_n 1, 1), (13, .aaload, 1), (14, .getfield 114, 3), (17, .ireturn, 1)]
theorem tkX7_actsOf : ∀ e ∈ tbX7_actsOf, decode cX7_actsOf e.1 = .ok e.2 := by decide +kernel
abbrev tbX7_eventCount : List (Nat × Instr × Nat) := [(0, .aload_n 0, 1), (1, .getfield 10, 3), (4, .getfield 186, 3), (7, .ireturn, 1)]
theorem tkX7_eventCount : ∀ e ∈ tbX7_eventCount, decode cX7_eventCount e.1 = .ok e.2 := by decide +kernel
abbrev tbX7_logSize : List (Nat × Instr × Nat) := [(0, .aload_n 0, 1), (1, .getfield 10, 3), (4, .getfield 187, 3), (7, .getfield 191, 3), (10, .ireturn, 1)]
theorem tkX7_logSize : ∀ e ∈ tbX7_logSize, decode cX7_logSize e.1 = .ok e.2 := by decide +kernel
abbrev tbX7_loggedRule : List (Nat × Instr × Nat) := [(0, .aload_n 0, 1), (1, .iload_n 1, 1), (2, .invokevirtual 196, 3), (5, .aload_n 0, 1), (6, .getfield 10, 3), (9, .getfield 187, 3), (12, .getfield 199, 3), (15, .aload_n 0, 1), (16, .getfield 10, 3), (19, .getfield 187, 3), (22, .iload_n 1, 1), (23, .invokevirtual 201, 3), (26, .iaload, 1), (27, .ireturn, 1)]
theorem tkX7_loggedRule : ∀ e ∈ tbX7_loggedRule, decode cX7_loggedRule e.1 = .ok e.2 := by decide +kernel
abbrev tbX7_loggedDepth : List (Nat × Instr × Nat) := [(0, .aload_n 0, 1), (1, .iload_n 1, 1), (2, .invokevirtual 196, 3), (5, .aload_n 0, 1), (6, .getfield 10, 3), (9, .getfield 187, 3), (12, .getfield 205, 3), (15, .aload_n 0, 1), (16, .getfield 10, 3), (19, .getfield 187, 3), (22, .iload_n 1, 1), (23, .invokevirtual 201, 3), (26, .iaload, 1), (27, .ireturn, 1)]
theorem tkX7_loggedDepth : ∀ e ∈ tbX7_loggedDepth, decode cX7_loggedDepth e.1 = .ok e.2 := by decide +kernel
abbrev tbX7_canSetOff : List (Nat × Instr × Nat) := [(0, .aload_n 0, 1), (1, .iload_n 1, 1), (2, .invokevirtual 89, 3), (5, .aload_n 0, 1), (6, .iload_n 2, 1), (7, .invokevirtual 89, 3), (10, .aload_n 0, 1), (11, .getfield 10, 3), (14, .getfield 79, 3), (17, .iload_n 1, 1), (18, .aaload, 1), (19, .aload_n 0, 1), (20, .getfield 10, 3), (23, .getfield 79, 3), (26, .iload_n 2, 1), (27, .aaload, 1), (28, .invokevirtual 208, 3), (31, .ireturn, 1)]
theorem tkX7_canSetOff : ∀ e ∈ tbX7_canSetOff, decode cX7_canSetOff e.1 = .ok e.2 := by decide +kernel
abbrev tbX7_reachOf : List (Nat × Instr × Nat) := [(0, .aload_n 0, 1), (1, .iload_n 1, 1), (2, .invokevirtual 89, 3), (5, .aload_n 0, 1), (6, .getfield 26, 3), (9, .aload_n 0, 1), (10, .getfield 10, 3), (13, .iload_n 1, 1), (14, .invokevirtual 212, 3), (17, .ireturn, 1)]
theorem tkX7_reachOf : ∀ e ∈ tbX7_reachOf, decode cX7_reachOf e.1 = .ok e.2 := by decide +kernel
abbrev tbX7_reachByTable : List (Nat × Instr × Nat) := [(0, .aload_n 0, 1), (1, .iload_n 1, 1), (2, .invokevirtual 89, 3), (5, .aload_n 0, 1), (6, .getfield 26, 3), (9, .aload_n 0, 1), (10, .getfield 10, 3), (13, .invokevirtual 216, 3), (16, .aload_n 0, 1), (17, .getfield 26, 3), (20, .getfield 219, 3), (23, .iload_n 1, 1), (24, .iaload, 1), (25, .ireturn, 1)]
theorem tkX7_reachByTable : ∀ e ∈ tbX7_reachByTable, decode cX7_reachByTable e.1 = .ok e.2 := by decide +kernel
abbrev tbX7_circularRules : List (Nat × Instr × Nat) := [(0, .aload_n 0, 1), (1, .getfield 26, 3), (4, .aload_n 0, 1), (5, .getfield 10, 3), (8, .invokevirtual 216, 3), (11, .iconst 0, 1), (12, .istore_n 1, 1), (13, .iconst 0, 1), (14, .istore_n 2, 1), (15, .iload_n 2, 1), (16, .aload_n 0, 1), (17, .getfield 10, 3), (20, .getfield 66, 3), (23, .if_icmp .ge 25, 3), (26, .iload_n 1, 1), (27, .aload_n 0, 1), (28, .getfield 26, 3), (31, .getfield 219, 3), (34, .iload_n 2, 1), (35, .iaload, 1), (36, .iconst 1, 1), (37, .iload_n 2, 1), (38, .ishl, 1), (39, .iand, 1), (40, .ior, 1), (41, .istore_n 1, 1), (42, .iinc 2 1, 3), (45, .goto (-30), 3), (48, .iload_n 1, 1), (49, .ireturn, 1)]
theorem tkX7_circularRules : ∀ e ∈ tbX7_circularRules, decode cX7_circularRules e.1 = .ok e.2 := by decide +kernel
abbrev tbX7_undo : List (Nat × Instr × Nat) := [(0, .aload_n 0, 1), (1, .getfield 40, 3), (4, .getfield 269, 3), (7, .ifCond .ne 14, 3), (10, .new 70, 3), (13, .dup, 1), (14, .ldc_w 270, 3), (17, .invokespecial 74, 3), (20, .athrow, 1), (21, .aload_n 0, 1), (22, .getfield 40, 3), (25, .aload_n 0, 1), (26, .getfield 10, 3), (29, .invokevirtual 272, 3), (32, .aload_n 0, 1), (33, .getfield 40, 3), (36, .getfield 269, 3), (39, .ireturn, 1)]
theorem tkX7_undo : ∀ e ∈ tbX7_undo, decode cX7_undo e.1 = .ok e.2 := by decide +kernel
abbrev tbX7_undoCount : List (Nat × Instr × Nat) := [(0, .aload_n 0, 1), (1, .getfield 40, 3), (4, .getfield 269, 3), (7, .ireturn, 1)]
theorem tkX7_undoCount : ∀ e ∈ tbX7_undoCount, decode cX7_undoCount e.1 = .ok e.2 := by decide +kernel
abbrev tbX7_isRow : List (Nat × Instr × Nat) := [(0, .iload_n 0, 1), (1, .ifCond .lt 13, 3), (4, .iload_n 0, 1), (5, .bipush 6, 2), (7, .if_icmp .ge 7, 3), (10, .iconst 1, 1), (11, .goto 4, 3), (14, .iconst 0, 1), (15, .ireturn, 1)]
theorem tkX7_isRow : ∀ e ∈ tbX7_isRow, decode cX7_isRow e.1 = .ok e.2 := by decide +kernel
abbrev tbX7_isColumn : List (Nat × Instr × Nat) := [(0, .iload_n 0, 1), (1, .ifCond .lt 12, 3), (4, .iload_n 0, 1), (5, .iconst 3, 1), (6, .if_icmp .ge 7, 3), (9, .iconst 1, 1), (10, .goto 4, 3), (13, .iconst 0, 1), (14, .ireturn, 1)]
theorem tkX7_isColumn : ∀ e ∈ tbX7_isColumn, decode cX7_isColumn e.1 = .ok e.2 := by decide +kernel
abbrev tbX7_isValue : List (Nat × Instr × Nat) := [(0, .iload_n 0, 1), (1, .ifCond .lt 14, 3), (4, .iload_n 0, 1), (5, .sipush 999, 3), (8, .if_icmp .gt 7, 3), (11, .iconst 1, 1), (12, .goto 4, 3), (15, .iconst 0, 1), (16, .ireturn, 1)]
theorem tkX7_isValue : ∀ e ∈ tbX7_isValue, decode cX7_isValue e.1 = .ok e.2 := by decide +kernel
abbrev tbX7_cell : List (Nat × Instr × Nat) := [(0, .iload_n 0, 1), (1, .iconst 3, 1), (2, .imul, 1), (3, .iload_n 1, 1), (4, .iadd, 1), (5, .ireturn, 1)]
theorem tkX7_cell : ∀ e ∈ tbX7_cell, decode cX7_cell e.1 = .ok e.2 := by decide +kernel
abbrev tbX7_checkRow : List (Nat × Instr × Nat) := [(0, .iload_n 0, 1), (1, .invokestatic 93, 3), (4, .ifCond .ne 14, 3), (7, .new 280, 3), (10, .dup, 1), (11, .ldc_w 282, 3), (14, .invokespecial 284, 3), (17, .athrow, 1), (18, .return_, 1)]
theorem tkX7_checkRow : ∀ e ∈ tbX7_checkRow, decode cX7_checkRow e.1 = .ok e.2 := by decide +kernel
abbrev tbX7_checkColumn : List (Nat × Instr × Nat) := [(0, .iload_n 0, 1), (1, .invokestatic 52, 3), (4, .ifCond .ne 14, 3), (7, .new 280, 3), (10, .dup, 1), (11, .ldc_w 285, 3), (14, .invokespecial 284, 3), (17, .athrow, 1), (18, .return_, 1)]
theorem tkX7_checkColumn : ∀ e ∈ tbX7_checkColumn, decode cX7_checkColumn e.1 = .ok e.2 := by decide +kernel
abbrev tbX7_checkValue : List (Nat × Instr × Nat) := [(0, .iload_n 0, 1), (1, .invokestatic 56, 3), (4, .ifCond .ne 14, 3), (7, .new 59, 3), (10, .dup, 1), (11, .ldc_w 287, 3), (14, .invokespecial 63, 3), (17, .athrow, 1), (18, .return_, 1)]
theorem tkX7_checkValue : ∀ e ∈ tbX7_checkValue, decode cX7_checkValue e.1 = .ok e.2 := by decide +kernel
abbrev tbX7_checkRule : List (Nat × Instr × Nat) := [(0, .iload_n 1, 1), (1, .ifCond .lt 14, 3), (4, .iload_n 1, 1), (5, .aload_n 0, 1), (6, .getfield 10, 3), (9, .getfield 66, 3), (12, .if_icmp .lt 14, 3), (15, .new 280, 3), (18, .dup, 1), (19, .ldc_w 289, 3), (22, .invokespecial 284, 3), (25, .athrow, 1), (26, .return_, 1)]
theorem tkX7_checkRule : ∀ e ∈ tbX7_checkRule, decode cX7_checkRule e.1 = .ok e.2 := by decide +kernel
abbrev tbX7_checkAgo : List (Nat × Instr × Nat) := [(0, .iload_n 1, 1), (1, .ifCond .lt 17, 3), (4, .iload_n 1, 1), (5, .aload_n 0, 1), (6, .getfield 10, 3), (9, .getfield 187, 3), (12, .getfield 191, 3), (15, .if_icmp .lt 14, 3), (18, .new 280, 3), (21, .dup, 1), (22, .ldc_w 291, 3), (25, .invokespecial 284, 3), (28, .athrow, 1), (29, .return_, 1)]
theorem tkX7_checkAgo : ∀ e ∈ tbX7_checkAgo, decode cX7_checkAgo e.1 = .ok e.2 := by decide +kernel
abbrev tbJ9_floorMod_7cf53 : List (Nat × Instr × Nat) := [(0, .iload_n 0, 1), (1, .iload_n 1, 1), (2, .irem, 1), (3, .istore_n 2, 1), (4, .iload_n 0, 1), (5, .iload_n 1, 1), (6, .ixor, 1), (7, .ifCond .ge 11, 3), (10, .iload_n 2, 1), (11, .ifCond .eq 7, 3), (14, .iload_n 2, 1), (15, .iload_n 1, 1), (16, .iadd, 1), (17, .ireturn, 1), (18, .iload_n 2, 1), (19, .ireturn, 1)]
theorem tkJ9_floorMod_7cf53 : ∀ e ∈ tbJ9_floorMod_7cf53, decode cJ9_floorMod_7cf53 e.1 = .ok e.2 := by decide +kernel
abbrev tbJ9_max_7cf53 : List (Nat × Instr × Nat) := [(0, .iload_n 0, 1), (1, .iload_n 1, 1), (2, .if_icmp .lt 7, 3), (5, .iload_n 0, 1), (6, .goto 4, 3), (9, .iload_n 1, 1), (10, .ireturn, 1)]
theorem tkJ9_max_7cf53 : ∀ e ∈ tbJ9_max_7cf53, decode cJ9_max_7cf53 e.1 = .ok e.2 := by decide +kernel
abbrev tbJ9_min_7cf53 : List (Nat × Instr × Nat) := [(0, .iload_n 0, 1), (1, .iload_n 1, 1), (2, .if_icmp .gt 7, 3), (5, .iload_n 0, 1), (6, .goto 4, 3), (9, .iload_n 1, 1), (10, .ireturn, 1)]
theorem tkJ9_min_7cf53 : ∀ e ∈ tbJ9_min_7cf53, decode cJ9_min_7cf53 e.1 = .ok e.2 := by decide +kernel
abbrev tbL_cell : List (Nat × Instr × Nat) := [(0, .iload_n 1, 1), (1, .aload_n 0, 1), (2, .arraylength, 1), (3, .if_icmp .ge 9, 3), (6, .aload_n 0, 1), (7, .iload_n 1, 1), (8, .iaload, 1), (9, .goto 17, 3), (12, .sipush 7919, 3), (15, .iload_n 1, 1), (16, .bipush 7, 2), (18, .iadd, 1), (19, .imul, 1), (20, .iload_n 1, 1), (21, .sipush 1327, 3), (24, .iadd, 1), (25, .imul, 1), (26, .ireturn, 1)]
theorem tkL_cell : ∀ e ∈ tbL_cell, decode cL_cell e.1 = .ok e.2 := by decide +kernel
abbrev tbL_low : List (Nat × Instr × Nat) := [(0, .iload_n 0, 1), (1, .ldc 7, 2), (3, .iand, 1), (4, .iload_n 1, 1), (5, .irem, 1), (6, .ireturn, 1)]
theorem tkL_low : ∀ e ∈ tbL_low, decode cL_low e.1 = .ok e.2 := by decide +kernel
abbrev tbL_changes : List (Nat × Instr × Nat) := [(0, .aload 5, 2), (2, .iconst 0, 1), (3, .iload_n 1, 1), (4, .ifCond .ne 14, 3), (7, .aload_n 0, 1), (8, .iload_n 2, 1), (9, .iload_n 3, 1), (10, .iload 4, 2), (12, .invokevirtual 8, 3), (15, .goto 71, 3), (18, .iload_n 1, 1), (19, .iconst 1, 1), (20, .if_icmp .ne 19, 3), (23, .aload_n 0, 1), (24, .iload_n 2, 1), (25, .invokevirtual 14, 3), (28, .ifCond .eq 7, 3), (31, .iconst 1, 1), (32, .goto 54, 3), (35, .iconst 0, 1), (36, .goto 50, 3), (39, .iload_n 1, 1), (40, .iconst 2, 1), (41, .if_icmp .ne 11, 3), (44, .aload_n 0, 1), (45, .iload_n 2, 1), (46, .invokevirtual 18, 3), (49, .goto 37, 3), (52, .iload_n 1, 1), (53, .iconst 3, 1), (54, .if_icmp .ne 11, 3), (57, .aload_n 0, 1), (58, .iload_n 2, 1), (59, .invokevirtual 22, 3), (62, .goto 24, 3), (65, .iload_n 1, 1), (66, .iconst 4, 1), (67, .if_icmp .ne 14, 3), (70, .aload_n 0, 1), (71, .iload_n 2, 1), (72, .iload_n 3, 1), (73, .iload 4, 2), (75, .invokevirtual 25, 3), (78, .goto 8, 3), (81, .aload_n 0, 1), (82, .iload_n 2, 1), (83, .invokevirtual 28, 3), (86, .iastore, 1), (87, .goto 15, 3), (90, .astore 6, 2), (92, .iconst 1, 1), (93, .ireturn, 1), (94, .astore 6, 2), (96, .iconst 2, 1), (97, .ireturn, 1), (98, .astore 6, 2), (100, .iconst 3, 1), (101, .ireturn, 1), (102, .iconst 0, 1), (103, .ireturn, 1)]
theorem tkL_changes : ∀ e ∈ tbL_changes, decode cL_changes e.1 = .ok e.2 := by decide +kernel
abbrev tbL_inserts : List (Nat × Instr × Nat) := [(0, .aload 4, 2), (2, .iconst 0, 1), (3, .aload_n 0, 1), (4, .iload_n 1, 1), (5, .iload_n 2, 1), (6, .iload_n 3, 1), (7, .invokestatic 37, 3), (10, .iload_n 2, 1), (11, .iconst 4, 1), (12, .ishr, 1), (13, .iload_n 3, 1), (14, .invokestatic 37, 3), (17, .iload_n 2, 1), (18, .bipush 8, 2), (20, .ishr, 1), (21, .iload_n 3, 1), (22, .invokestatic 37, 3), (25, .invokevirtual 43, 3), (28, .iastore, 1), (29, .goto 15, 3), (32, .astore 5, 2), (34, .iconst 1, 1), (35, .ireturn, 1), (36, .astore 5, 2), (38, .iconst 2, 1), (39, .ireturn, 1), (40, .astore 5, 2), (42, .iconst 3, 1), (43, .ireturn, 1), (44, .iconst 0, 1), (45, .ireturn, 1)]
theorem tkL_inserts : ∀ e ∈ tbL_inserts, decode cL_inserts e.1 = .ok e.2 := by decide +kernel
abbrev tbL_actions : List (Nat × Instr × Nat) := [(0, .aload 4, 2), (2, .iconst 0, 1), (3, .aload_n 0, 1), (4, .iload_n 1, 1), (5, .iload_n 2, 1), (6, .bipush 11, 2), (8, .ishr, 1), (9, .iconst 3, 1), (10, .iand, 1), (11, .ifCond .le 7, 3), (14, .iconst 2, 1), (15, .goto 20, 3), (18, .iload_n 2, 1), (19, .bipush 6, 2), (21, .ishr, 1), (22, .iload_n 3, 1), (23, .ifCond .eq 7, 3), (26, .iconst 4, 1), (27, .goto 5, 3), (30, .bipush 6, 2), (32, .invokestatic 37, 3), (35, .iload_n 2, 1), (36, .iload_n 3, 1), (37, .ifCond .eq 7, 3), (40, .iconst 3, 1), (41, .goto 5, 3), (44, .bipush 7, 2), (46, .invokestatic 37, 3), (49, .iload_n 2, 1), (50, .iconst 3, 1), (51, .ishr, 1), (52, .iconst 3, 1), (53, .invokestatic 37, 3), (56, .iload_n 2, 1), (57, .iconst 5, 1), (58, .ishr, 1), (59, .sipush 160, 3), (62, .invokestatic 37, 3), (65, .bipush 60, 2), (67, .isub, 1), (68, .invokevirtual 47, 3), (71, .iastore, 1), (72, .goto 11, 3), (75, .astore 5, 2), (77, .iconst 1, 1), (78, .ireturn, 1), (79, .astore 5, 2), (81, .iconst 2, 1), (82, .ireturn, 1), (83, .iconst 0, 1), (84, .ireturn, 1)]
theorem tkL_actions : ∀ e ∈ tbL_actions, decode cL_actions e.1 = .ok e.2 := by decide +kernel
abbrev tbL_act : List (Nat × Instr × Nat) := [(0, .iload_n 1, 1), (1, .iconst 5, 1), (2, .ishr, 1), (3, .istore_n 3, 1), (4, .iload_n 1, 1), (5, .bipush 22, 2), (7, .ishr, 1), (8, .bipush 9, 2), (10, .invokestatic 37, 3), (13, .ifCond .le 7, 3), (16, .iconst 1, 1), (17, .goto 4, 3), (20, .iconst 0, 1), (21, .istore 4, 2), (23, .iload_n 1, 1), (24, .bipush 24, 2), (26, .invokestatic 37, 3), (29, .istore 5, 2), (31, .iload_n 3, 1), (32, .iload 4, 2), (34, .ifCond .eq 17, 3), (37, .aload_n 0, 1), (38, .invokevirtual 51, 3), (41, .ifCond .le 10, 3), (44, .aload_n 0, 1), (45, .invokevirtual 51, 3), (48, .goto 5, 3), (51, .bipush 9, 2), (53, .invokestatic 37, 3), (56, .istore 6, 2), (58, .iload_n 3, 1), (59, .iconst 2, 1), (60, .ishr, 1), (61, .iload 4, 2), (63, .ifCond .eq 7, 3), (66, .iconst 3, 1), (67, .goto 5, 3), (70, .bipush 8, 2), (72, .invokestatic 37, 3), (75, .istore 7, 2), (77, .iload 5, 2), (79, .iconst 5, 1), (80, .if_icmp .ge 63, 3), (83, .aload_n 0, 1), (84, .iconst 0, 1), (85, .iload_n 3, 1), (86, .iload 4, 2), (88, .ifCond .eq 7, 3), (91, .iconst 3, 1), (92, .goto 4, 3), (95, .iconst 4, 1), (96, .invokestatic 37, 3), (99, .iload_n 3, 1), (100, .iconst 2, 1), (101, .ishr, 1), (102, .iconst 3, 1), (103, .invokestatic 37, 3), (106, .iload_n 3, 1), (107, .iconst 4, 1), (108, .ishr, 1), (109, .iload_n 3, 1), (110, .iconst 1, 1), (111, .iand, 1), (112, .ifCond .ne 9, 3), (115, .sipush 400, 3), (118, .goto 17, 3), (121, .iload 4, 2), (123, .ifCond .eq 9, 3), (126, .sipush 1000, 3), (129, .goto 6, 3), (132, .sipush 1200, 3), (135, .invokestatic 37, 3), (138, .aload_n 2, 1), (139, .invokestatic 55, 3), (142, .ireturn, 1), (143, .iload 5, 2), (145, .bipush 10, 2), (147, .if_icmp .ge 16, 3), (150, .aload_n 0, 1), (151, .iload 6, 2), (153, .iload_n 3, 1), (154, .iconst 3, 1), (155, .ishr, 1), (156, .iload 4, 2), (158, .aload_n 2, 1), (159, .invokestatic 59, 3), (162, .ireturn, 1), (163, .iload 5, 2), (165, .bipush 13, 2), (167, .if_icmp .ge 28, 3), (170, .aload_n 0, 1), (171, .iload 7, 2), (173, .iload_n 3, 1), (174, .iconst 3, 1), (175, .ishr, 1), (176, .iload 4, 2), (178, .ifCond .eq 9, 3), (181, .sipush 1000, 3), (184, .goto 6, 3), (187, .sipush 1100, 3), (190, .aload_n 2, 1), (191, .invokestatic 63, 3), (194, .ireturn, 1), (195, .iload 5, 2), (197, .bipush 20, 2), (199, .if_icmp .ge 42, 3), (202, .aload_n 0, 1), (203, .iconst 4, 1), (204, .iload 7, 2), (206, .iload_n 3, 1), (207, .iconst 5, 1), (208, .ishr, 1), (209, .iconst 3, 1), (210, .invokestatic 37, 3), (213, .iload_n 3, 1), (214, .bipush 7, 2), (216, .ishr, 1), (217, .iload 4, 2), (219, .ifCond .eq 9, 3), (222, .sipush 1000, 3), (225, .goto 6, 3), (228, .sipush 1100, 3), (231, .invokestatic 37, 3), (234, .aload_n 2, 1), (235, .invokestatic 55, 3), (238, .goto 87, 3), (241, .iload 5, 2), (243, .bipush 20, 2), (245, .if_icmp .ne 16, 3), (248, .aload_n 0, 1), (249, .iconst 5, 1), (250, .iload 7, 2), (252, .iconst 0, 1), (253, .iconst 0, 1), (254, .aload_n 2, 1), (255, .invokestatic 55, 3), (258, .goto 67, 3), (261, .iload 5, 2), (263, .bipush 21, 2), (265, .if_icmp .ne 16, 3), (268, .aload_n 0, 1), (269, .iconst 1, 1), (270, .iload 6, 2), (272, .iconst 0, 1), (273, .iconst 0, 1), (274, .aload_n 2, 1), (275, .invokestatic 55, 3), (278, .goto 47, 3), (281, .iload 5, 2), (283, .bipush 22, 2), (285, .if_icmp .ne 30, 3), (288, .aload_n 0, 1), (289, .iconst 3, 1), (290, .iload_n 3, 1), (291, .iload 4, 2), (293, .ifCond .eq 8, 3), (296, .bipush 6, 2), (298, .goto 5, 3), (301, .bipush 7, 2), (303, .invokestatic 37, 3), (306, .iconst 0, 1), (307, .iconst 0, 1), (308, .aload_n 2, 1), (309, .invokestatic 55, 3), (312, .goto 13, 3), (315, .aload_n 0, 1), (316, .iconst 2, 1), (317, .iload 6, 2), (319, .iconst 0, 1), (320, .iconst 0, 1), (321, .aload_n 2, 1), (322, .invokestatic 55, 3), (325, .ireturn, 1)]
theorem tkL_act : ∀ e ∈ tbL_act, decode cL_act e.1 = .ok e.2 := by decide +kernel
abbrev tbL_areAlike : List (Nat × Instr × Nat) := [(0, .aload_n 0, 1), (1, .invokevirtual 67, 3), (4, .aload_n 1, 1), (5, .invokevirtual 67, 3), (8, .if_icmp .ne 51, 3), (11, .aload_n 0, 1), (12, .invokevirtual 70, 3), (15, .aload_n 1, 1), (16, .invokevirtual 70, 3), (19, .if_icmp .ne 40, 3), (22, .aload_n 0, 1), (23, .invokevirtual 73, 3), (26, .aload_n 1, 1), (27, .invokevirtual 73, 3), (30, .if_icmp .ne 29, 3), (33, .aload_n 0, 1), (34, .invokevirtual 51, 3), (37, .aload_n 1, 1), (38, .invokevirtual 51, 3), (41, .if_icmp .ne 18, 3), (44, .aload_n 0, 1), (45, .invokevirtual 76, 3), (48, .aload_n 1, 1), (49, .invokevirtual 76, 3), (52, .if_icmp .ne 7, 3), (55, .iconst 1, 1), (56, .goto 4, 3), (59, .iconst 0, 1), (60, .istore_n 2, 1), (61, .iconst 0, 1), (62, .istore_n 3, 1), (63, .iload_n 3, 1), (64, .bipush 6, 2), (66, .if_icmp .ge 82, 3), (69, .iload_n 2, 1), (70, .ifCond .eq 20, 3), (73, .aload_n 0, 1), (74, .iload_n 3, 1), (75, .invokevirtual 79, 3), (78, .aload_n 1, 1), (79, .iload_n 3, 1), (80, .invokevirtual 79, 3), (83, .if_icmp .ne 7, 3), (86, .iconst 1, 1), (87, .goto 4, 3), (90, .iconst 0, 1), (91, .istore_n 2, 1), (92, .iconst 0, 1), (93, .istore 4, 2), (95, .iload 4, 2), (97, .iconst 3, 1), (98, .if_icmp .ge 44, 3), (101, .iload_n 2, 1), (102, .ifCond .eq 40, 3), (105, .aload_n 0, 1), (106, .iload_n 3, 1), (107, .invokevirtual 79, 3), (110, .ifCond .eq 32, 3), (113, .aload_n 0, 1), (114, .iload_n 3, 1), (115, .iload 4, 2), (117, .invokevirtual 82, 3), (120, .aload_n 1, 1), (121, .iload_n 3, 1), (122, .iload 4, 2), (124, .invokevirtual 82, 3), (127, .if_icmp .ne 7, 3), (130, .iconst 1, 1), (131, .goto 4, 3), (134, .iconst 0, 1), (135, .istore_n 2, 1), (136, .iinc 4 1, 3), (139, .goto (-44), 3), (142, .iinc 3 1, 3), (145, .goto (-82), 3), (148, .iconst 0, 1), (149, .istore_n 3, 1), (150, .iload_n 3, 1), (151, .aload_n 0, 1), (152, .invokevirtual 51, 3), (155, .if_icmp .ge 58, 3), (158, .iload_n 2, 1), (159, .ifCond .eq 54, 3), (162, .aload_n 0, 1), (163, .iload_n 3, 1), (164, .invokevirtual 85, 3), (167, .aload_n 1, 1), (168, .iload_n 3, 1), (169, .invokevirtual 85, 3), (172, .if_icmp .ne 33, 3), (175, .aload_n 0, 1), (176, .iload_n 3, 1), (177, .invokevirtual 88, 3), (180, .aload_n 1, 1), (181, .iload_n 3, 1), (182, .invokevirtual 88, 3), (185, .if_icmp .ne 20, 3), (188, .aload_n 0, 1), (189, .iload_n 3, 1), (190, .invokevirtual 91, 3), (193, .aload_n 1, 1), (194, .iload_n 3, 1), (195, .invokevirtual 91, 3), (198, .if_icmp .ne 7, 3), (201, .iconst 1, 1), (202, .goto 4, 3), (205, .iconst 0, 1), (206, .istore_n 2, 1), (207, .iinc 3 1, 3), (210, .goto (-60), 3), (213, .iconst 0, 1), (214, .istore_n 3, 1), (215, .iload_n 3, 1), (216, .aload_n 0, 1), (217, .invokevirtual 73, 3), (220, .if_icmp .ge 45, 3), (223, .iload_n 2, 1), (224, .ifCond .eq 41, 3), (227, .aload_n 0, 1), (228, .iload_n 3, 1), (229, .invokevirtual 94, 3), (232, .aload_n 1, 1), (233, .iload_n 3, 1), (234, .invokevirtual 94, 3), (237, .if_icmp .ne 20, 3), (240, .aload_n 0, 1), (241, .iload_n 3, 1), (242, .invokevirtual 97, 3), (245, .aload_n 1, 1), (246, .iload_n 3, 1), (247, .invokevirtual 97, 3), (250, .if_icmp .ne 7, 3), (253, .iconst 1, 1), (254, .goto 4, 3), (257, .iconst 0, 1), (258, .istore_n 2, 1), (259, .iinc 3 1, 3), (262, .goto (-47), 3), (265, .iload_n 2, 1), (266, .ireturn, 1)]
theorem tkL_areAlike : ∀ e ∈ tbL_areAlike, decode cL_areAlike e.1 = .ok e.2 := by decide +kernel
abbrev tbL_isTableSo : List (Nat × Instr × Nat) := [(0, .iconst 0, 1), (1, .istore_n 1, 1), (2, .iconst 0, 1), (3, .istore_n 2, 1), (4, .aload_n 0, 1), (5, .invokevirtual 51, 3), (8, .bipush 8, 2), (10, .if_icmp .gt 16, 3), (13, .aload_n 0, 1), (14, .invokevirtual 73, 3), (17, .bipush 16, 2), (19, .if_icmp .gt 7, 3), (22, .iconst 1, 1), (23, .goto 4, 3), (26, .iconst 0, 1), (27, .istore_n 3, 1), (28, .iconst 0, 1), (29, .istore 4, 2), (31, .iload 4, 2), (33, .bipush 6, 2), (35, .if_icmp .ge 85, 3), (38, .iload_n 1, 1), (39, .aload_n 0, 1), (40, .iload 4, 2), (42, .invokevirtual 79, 3), (45, .ifCond .eq 7, 3), (48, .iconst 1, 1), (49, .goto 4, 3), (52, .iconst 0, 1), (53, .iadd, 1), (54, .istore_n 1, 1), (55, .iconst 0, 1), (56, .istore 5, 2), (58, .iload 5, 2), (60, .iconst 3, 1), (61, .if_icmp .ge 53, 3), (64, .aload_n 0, 1), (65, .iload 4, 2), (67, .invokevirtual 79, 3), (70, .ifCond .eq 44, 3), (73, .iload_n 3, 1), (74, .ifCond .eq 32, 3), (77, .aload_n 0, 1), (78, .iload 4, 2), (80, .iload 5, 2), (82, .invokevirtual 82, 3), (85, .ifCond .lt 21, 3), (88, .aload_n 0, 1), (89, .iload 4, 2), (91, .iload 5, 2), (93, .invokevirtual 82, 3), (96, .sipush 1000, 3), (99, .if_icmp .ge 7, 3), (102, .iconst 1, 1), (103, .goto 4, 3), (106, .iconst 0, 1), (107, .istore_n 3, 1), (108, .iinc 5 1, 3), (111, .goto (-53), 3), (114, .iinc 4 1, 3), (117, .goto (-86), 3), (120, .iconst 0, 1), (121, .istore 4, 2), (123, .iload 4, 2), (125, .aload_n 0, 1), (126, .invokevirtual 51, 3), (129, .if_icmp .ge 222, 3), (132, .aload_n 0, 1), (133, .iload 4, 2), (135, .invokevirtual 100, 3), (138, .istore 5, 2), (140, .iconst 0, 1), (141, .istore 6, 2), (143, .iconst 0, 1), (144, .istore 7, 2), (146, .iload 7, 2), (148, .aload_n 0, 1), (149, .invokevirtual 73, 3), (152, .if_icmp .ge 30, 3), (155, .iload 6, 2), (157, .aload_n 0, 1), (158, .iload 7, 2), (160, .invokevirtual 94, 3), (163, .iload 4, 2), (165, .if_icmp .ne 7, 3), (168, .iconst 1, 1), (169, .goto 4, 3), (172, .iconst 0, 1), (173, .iadd, 1), (174, .istore 6, 2), (176, .iinc 7 1, 3), (179, .goto (-33), 3), (182, .iload_n 2, 1), (183, .iload 5, 2), (185, .iconst 1, 1), (186, .iload 4, 2), (188, .ishl, 1), (189, .iand, 1), (190, .ior, 1), (191, .istore_n 2, 1), (192, .iload_n 3, 1), (193, .ifCond .eq 64, 3), (196, .iload 5, 2), (198, .aload_n 0, 1), (199, .iload 4, 2), (201, .invokevirtual 103, 3), (204, .if_icmp .ne 53, 3), (207, .iload 5, 2), (209, .iconst 1, 1), (210, .aload_n 0, 1), (211, .invokevirtual 51, 3), (214, .ishl, 1), (215, .if_icmp .ge 42, 3), (218, .iload 6, 2), (220, .aload_n 0, 1), (221, .iload 4, 2), (223, .invokevirtual 91, 3), (226, .if_icmp .gt 31, 3), (229, .aload_n 0, 1), (230, .iload 4, 2), (232, .invokevirtual 88, 3), (235, .ifCond .ne 13, 3), (238, .aload_n 0, 1), (239, .iload 4, 2), (241, .invokevirtual 85, 3), (244, .iconst 1, 1), (245, .if_icmp .gt 8, 3), (248, .iload 5, 2), (250, .ifCond .ne 7, 3), (253, .iconst 1, 1), (254, .goto 4, 3), (257, .iconst 0, 1), (258, .istore_n 3, 1), (259, .iconst 0, 1), (260, .istore 7, 2), (262, .iload 7, 2), (264, .aload_n 0, 1), (265, .invokevirtual 51, 3), (268, .if_icmp .ge 77, 3), (271, .aload_n 0, 1), (272, .iload 4, 2), (274, .iload 7, 2), (276, .invokevirtual 106, 3), (279, .istore 8, 2), (281, .iload_n 3, 1), (282, .ifCond .eq 55, 3), (285, .iload 8, 2), (287, .ifCond .eq 32, 3), (290, .iload 5, 2), (292, .iload 7, 2), (294, .ishr, 1), (295, .iconst 1, 1), (296, .iand, 1), (297, .iconst 1, 1), (298, .if_icmp .ne 39, 3), (301, .iload 5, 2), (303, .aload_n 0, 1), (304, .iload 7, 2), (306, .invokevirtual 100, 3), (309, .iand, 1), (310, .aload_n 0, 1), (311, .iload 7, 2), (313, .invokevirtual 100, 3), (316, .if_icmp .ne 21, 3), (319, .iload 8, 2), (321, .ifCond .eq 12, 3), (324, .aload_n 0, 1), (325, .iload 7, 2), (327, .invokevirtual 88, 3), (330, .ifCond .ne 7, 3), (333, .iconst 1, 1), (334, .goto 4, 3), (337, .iconst 0, 1), (338, .istore_n 3, 1), (339, .iinc 7 1, 3), (342, .goto (-80), 3), (345, .iinc 4 1, 3), (348, .goto (-225), 3), (351, .iconst 0, 1), (352, .istore 4, 2), (354, .iload 4, 2), (356, .aload_n 0, 1), (357, .invokevirtual 73, 3), (360, .if_icmp .ge 52, 3), (363, .iload_n 3, 1), (364, .ifCond .eq 40, 3), (367, .aload_n 0, 1), (368, .iload 4, 2), (370, .invokevirtual 97, 3), (373, .ifCond .lt 31, 3), (376, .aload_n 0, 1), (377, .iload 4, 2), (379, .invokevirtual 97, 3), (382, .bipush 6, 2), (384, .if_icmp .ge 20, 3), (387, .aload_n 0, 1), (388, .iload 4, 2), (390, .invokevirtual 94, 3), (393, .aload_n 0, 1), (394, .invokevirtual 51, 3), (397, .if_icmp .ge 7, 3), (400, .iconst 1, 1), (401, .goto 4, 3), (404, .iconst 0, 1), (405, .istore_n 3, 1), (406, .iinc 4 1, 3), (409, .goto (-55), 3), (412, .iload_n 3, 1), (413, .ifCond .eq 47, 3), (416, .aload_n 0, 1), (417, .invokevirtual 67, 3), (420, .iload_n 1, 1), (421, .if_icmp .ne 39, 3), (424, .aload_n 0, 1), (425, .invokevirtual 76, 3), (428, .iload_n 2, 1), (429, .if_icmp .ne 31, 3), (432, .iload_n 1, 1), (433, .ifCond .gt 23, 3), (436, .aload_n 0, 1), (437, .iconst 0, 1), (438, .invokevirtual 110, 3), (441, .aload_n 0, 1), (442, .iconst 1, 1), (443, .invokevirtual 110, 3), (446, .iadd, 1), (447, .aload_n 0, 1), (448, .iconst 2, 1), (449, .invokevirtual 110, 3), (452, .iadd, 1), (453, .ifCond .ne 7, 3), (456, .iconst 1, 1), (457, .goto 4, 3), (460, .iconst 0, 1), (461, .ireturn, 1)]
theorem tkL_isTableSo : ∀ e ∈ tbL_isTableSo, decode cL_isTableSo e.1 = .ok e.2 := by decide +kernel
abbrev tbL_isUpdateSo : List (Nat × Instr × Nat) := [(0, .aload_n 0, 1), (1, .iload_n 1, 1), (2, .iload_n 2, 1), (3, .iload_n 3, 1), (4, .invokevirtual 113, 3), (7, .istore 5, 2), (9, .aload_n 0, 1), (10, .iload_n 1, 1), (11, .iload_n 2, 1), (12, .iload_n 3, 1), (13, .invokevirtual 116, 3), (16, .istore 6, 2), (18, .aload_n 0, 1), (19, .iload_n 1, 1), (20, .iload_n 2, 1), (21, .iload_n 3, 1), (22, .invokevirtual 119, 3), (25, .istore 7, 2), (27, .aload_n 0, 1), (28, .invokevirtual 70, 3), (31, .istore 8, 2), (33, .aload_n 0, 1), (34, .invokevirtual 73, 3), (37, .istore 9, 2), (39, .aload_n 0, 1), (40, .invokevirtual 122, 3), (43, .istore 10, 2), (45, .aload_n 0, 1), (46, .iload_n 1, 1), (47, .invokevirtual 79, 3), (50, .istore 11, 2), (52, .iload 11, 2), (54, .ifCond .eq 17, 3), (57, .aload_n 0, 1), (58, .iload_n 1, 1), (59, .iload_n 2, 1), (60, .invokevirtual 82, 3), (63, .iload_n 3, 1), (64, .if_icmp .ne 7, 3), (67, .iconst 1, 1), (68, .goto 4, 3), (71, .iconst 0, 1), (72, .istore 12, 2), (74, .aload_n 0, 1), (75, .iconst 4, 1), (76, .iload_n 1, 1), (77, .iload_n 2, 1), (78, .iload_n 3, 1), (79, .aload 4, 2), (81, .invokestatic 55, 3), (84, .istore 13, 2), (86, .iload 13, 2), (88, .iload 5, 2), (90, .ifCond .ne 7, 3), (93, .iconst 0, 1), (94, .goto 4, 3), (97, .iconst 3, 1), (98, .if_icmp .ne 131, 3), (101, .iload 5, 2), (103, .iconst 1, 1), (104, .if_icmp .ne 7, 3), (107, .iconst 1, 1), (108, .goto 4, 3), (111, .iconst 0, 1), (112, .iload 11, 2), (114, .ifCond .ne 7, 3), (117, .iconst 1, 1), (118, .goto 4, 3), (121, .iconst 0, 1), (122, .if_icmp .ne 107, 3), (125, .iload 12, 2), (127, .ifCond .eq 13, 3), (130, .iload 5, 2), (132, .ifCond .ne 97, 3), (135, .iload 6, 2), (137, .ifCond .ne 92, 3), (140, .iload 5, 2), (142, .ifCond .ne 64, 3), (145, .iload 6, 2), (147, .ifCond .lt 82, 3), (150, .iload 6, 2), (152, .bipush 100, 2), (154, .if_icmp .gt 75, 3), (157, .iload 6, 2), (159, .ifCond .ne 7, 3), (162, .iconst 1, 1), (163, .goto 4, 3), (166, .iconst 0, 1), (167, .iload 12, 2), (169, .if_icmp .ne 60, 3), (172, .iload 7, 2), (174, .iconst (-1), 1), (175, .if_icmp .ne 7, 3), (178, .iconst 1, 1), (179, .goto 4, 3), (182, .iconst 0, 1), (183, .iload 6, 2), (185, .ifCond .ne 7, 3), (188, .iconst 1, 1), (189, .goto 4, 3), (192, .iconst 0, 1), (193, .if_icmp .ne 36, 3), (196, .iload 7, 2), (198, .bipush 6, 2), (200, .if_icmp .ge 29, 3), (203, .goto 22, 3), (206, .iload 6, 2), (208, .iconst (-1), 1), (209, .if_icmp .ne 20, 3), (212, .iload 7, 2), (214, .iconst (-1), 1), (215, .if_icmp .ne 14, 3), (218, .iload 5, 2), (220, .bipush 6, 2), (222, .if_icmp .ge 7, 3), (225, .iconst 1, 1), (226, .goto 4, 3), (229, .iconst 0, 1), (230, .istore 14, 2), (232, .iload 13, 2), (234, .ifCond .eq 41, 3), (237, .iload 14, 2), (239, .ifCond .eq 34, 3), (242, .aload_n 0, 1), (243, .invokevirtual 70, 3), (246, .iload 8, 2), (248, .if_icmp .ne 25, 3), (251, .aload_n 0, 1), (252, .invokevirtual 73, 3), (255, .iload 9, 2), (257, .if_icmp .ne 16, 3), (260, .aload_n 0, 1), (261, .invokevirtual 122, 3), (264, .iload 10, 2), (266, .if_icmp .ne 7, 3), (269, .iconst 1, 1), (270, .goto 4, 3), (273, .iconst 0, 1), (274, .ireturn, 1), (275, .iload 14, 2), (277, .ifCond .eq 62, 3), (280, .aload 4, 2), (282, .iconst 0, 1), (283, .iaload, 1), (284, .iload 6, 2), (286, .if_icmp .ne 53, 3), (289, .aload_n 0, 1), (290, .invokevirtual 70, 3), (293, .iload 8, 2), (295, .iload 6, 2), (297, .iadd, 1), (298, .if_icmp .ne 41, 3), (301, .aload_n 0, 1), (302, .invokevirtual 73, 3), (305, .iload 9, 2), (307, .bipush 16, 2), (309, .if_icmp .ge 8, 3), (312, .iload 9, 2), (314, .goto 5, 3), (317, .bipush 16, 2), (319, .if_icmp .lt 20, 3), (322, .aload_n 0, 1), (323, .invokevirtual 51, 3), (326, .ifCond .gt 9, 3), (329, .iload 6, 2), (331, .iconst 1, 1), (332, .if_icmp .gt 7, 3), (335, .iconst 1, 1), (336, .goto 4, 3), (339, .iconst 0, 1), (340, .istore 14, 2), (342, .iload 14, 2), (344, .ifCond .eq 57, 3), (347, .aload_n 0, 1), (348, .invokevirtual 125, 3), (351, .ifCond .lt 50, 3), (354, .aload_n 0, 1), (355, .invokevirtual 70, 3), (358, .iload 8, 2), (360, .if_icmp .ne 41, 3), (363, .aload_n 0, 1), (364, .invokevirtual 73, 3), (367, .iload 9, 2), (369, .if_icmp .ne 32, 3), (372, .iload 11, 2), (374, .ifCond .eq 23, 3), (377, .aload_n 0, 1), (378, .iload_n 1, 1), (379, .iload_n 2, 1), (380, .invokevirtual 82, 3), (383, .iload_n 3, 1), (384, .if_icmp .ne 7, 3), (387, .iconst 1, 1), (388, .goto 4, 3), (391, .iconst 0, 1), (392, .iload 12, 2), (394, .if_icmp .ne 7, 3), (397, .iconst 1, 1), (398, .goto 4, 3), (401, .iconst 0, 1), (402, .ireturn, 1)]
theorem tkL_isUpdateSo : ∀ e ∈ tbL_isUpdateSo, decode cL_isUpdateSo e.1 = .ok e.2 := by decide +kernel
abbrev tbL_law : List (Nat × Instr × Nat) := [(0, .new 9, 3), (3, .dup, 1), (4, .invokespecial 128, 3), (7, .astore_n 1, 1), (8, .new 9, 3), (11, .dup, 1), (12, .invokespecial 128, 3), (15, .astore_n 2, 1), (16, .iconst 1, 1), (17, .newarray .int, 2), (19, .astore_n 3, 1), (20, .iconst 0, 1), (21, .istore 4, 2), (23, .iload 4, 2), (25, .bipush 64, 2), (27, .if_icmp .ge 225, 3), (30, .aload_n 0, 1), (31, .iload 4, 2), (33, .invokestatic 129, 3), (36, .istore 5, 2), (38, .aload_n 1, 1), (39, .invokevirtual 122, 3), (42, .istore 6, 2), (44, .aload_n 1, 1), (45, .iload 5, 2), (47, .aload_n 3, 1), (48, .invokestatic 133, 3), (51, .istore 7, 2), (53, .aload_n 3, 1), (54, .iconst 0, 1), (55, .iaload, 1), (56, .istore 8, 2), (58, .iload 7, 2), (60, .ifCond .eq 22, 3), (63, .aload_n 1, 1), (64, .aload_n 2, 1), (65, .invokestatic 137, 3), (68, .ifCond .eq 12, 3), (71, .aload_n 1, 1), (72, .invokevirtual 122, 3), (75, .iload 6, 2), (77, .if_icmp .eq 5, 3), (80, .iconst 0, 1), (81, .ireturn, 1), (82, .iload 7, 2), (84, .ifCond .ne 65, 3), (87, .iload 5, 2), (89, .bipush 9, 2), (91, .ishr, 1), (92, .iconst 1, 1), (93, .iand, 1), (94, .ifCond .ne 55, 3), (97, .aload_n 1, 1), (98, .invokevirtual 125, 3), (101, .istore 9, 2), (103, .iload 9, 2), (105, .iload 6, 2), (107, .bipush 6, 2), (109, .if_icmp .ne 7, 3), (112, .iconst 5, 1), (113, .goto 5, 3), (116, .iload 6, 2), (118, .if_icmp .ne 29, 3), (121, .aload_n 1, 1), (122, .aload_n 2, 1), (123, .invokestatic 137, 3), (126, .ifCond .eq 21, 3), (129, .aload_n 1, 1), (130, .iload 5, 2), (132, .aload_n 3, 1), (133, .invokestatic 133, 3), (136, .ifCond .ne 11, 3), (139, .aload_n 3, 1), (140, .iconst 0, 1), (141, .iaload, 1), (142, .iload 8, 2), (144, .if_icmp .eq 5, 3), (147, .iconst 0, 1), (148, .ireturn, 1), (149, .aload_n 2, 1), (150, .iload 5, 2), (152, .aload_n 3, 1), (153, .invokestatic 133, 3), (156, .iload 7, 2), (158, .if_icmp .ne 31, 3), (161, .iload 7, 2), (163, .ifCond .ne 11, 3), (166, .aload_n 3, 1), (167, .iconst 0, 1), (168, .iaload, 1), (169, .iload 8, 2), (171, .if_icmp .ne 18, 3), (174, .aload_n 1, 1), (175, .aload_n 2, 1), (176, .invokestatic 137, 3), (179, .ifCond .eq 10, 3), (182, .aload_n 1, 1), (183, .invokestatic 141, 3), (186, .ifCond .ne 5, 3), (189, .iconst 0, 1), (190, .ireturn, 1), (191, .iload 4, 2), (193, .iconst 2, 1), (194, .irem, 1), (195, .iconst 1, 1), (196, .if_icmp .ne 40, 3), (199, .aload_n 1, 1), (200, .iload 5, 2), (202, .bipush 6, 2), (204, .ishr, 1), (205, .iconst 4, 1), (206, .invokestatic 37, 3), (209, .iload 5, 2), (211, .bipush 8, 2), (213, .ishr, 1), (214, .iconst 3, 1), (215, .invokestatic 37, 3), (218, .iload 5, 2), (220, .bipush 10, 2), (222, .ishr, 1), (223, .sipush 1000, 3), (226, .invokestatic 37, 3), (229, .aload_n 3, 1), (230, .invokestatic 145, 3), (233, .ifCond .eq 11, 3), (236, .aload_n 1, 1), (237, .aload_n 2, 1), (238, .invokestatic 137, 3), (241, .ifCond .ne 5, 3), (244, .iconst 0, 1), (245, .ireturn, 1), (246, .iinc 4 1, 3), (249, .goto (-226), 3), (252, .aload_n 1, 1), (253, .invokestatic 141, 3), (256, .ireturn, 1)]
theorem tkL_law : ∀ e ∈ tbL_law, decode cL_law e.1 = .ok e.2 := by decide +kernel
end
section
/-! ===== THE PURE MACHINE: a method's walk, told over cells that have logical addresses (k < 1000: made by the run, at B + lay k; the others lie below B and stay as they are) ===== -/
theorem tk {cc : ByteArray} {tb : List (Nat × Instr × Nat)} (h : ∀ e ∈ tb, decode cc e.1 = .ok e.2) (i : Nat) {pc : Nat} {ins : Instr} {n : Nat} (hi : tb[i]? = some (pc, ins, n)) : decode cc pc = .ok (ins, n) := by
  have h1 := h (pc, ins, n) (List.mem_of_getElem? hi)
  dsimp only at h1
  exact h1
def UU : List Cond := lw_tbl.filter goodWord
theorem UU_in (i : Nat) {w : Cond} (h : lw_tbl[i]? = some w) (g : goodWord w = true) : w ∈ UU := List.mem_filter.mpr ⟨List.mem_of_getElem? h, g⟩
theorem UU_good : GoodIn UU UU := fun w h => ⟨h, good_of_word (List.mem_filter.mp h).2⟩
def un_ok : Cond → Bool
  | .declares _ => true
  | .castable .. => true
  | .methodLinkNest .. => true
  | _ => false
def UN : List Cond := lw_tbl.filter un_ok
theorem UN_in (i : Nat) {w : Cond} (h : lw_tbl[i]? = some w) (g : un_ok w = true) : w ∈ UN := List.mem_filter.mpr ⟨List.mem_of_getElem? h, g⟩
def layT : List Nat := [1, 2, 3, 4, 5, 6, 7, 8, 9, 10, 11, 12, 13, 14, 15, 500, 17, 18, 19, 20, 21, 22, 23, 24, 25, 26, 27, 28, 29, 30, 31, 501, 39, 40, 41, 42, 43, 44, 45, 46, 47, 48, 49, 50, 51, 52, 53, 502, 54, 55, 56, 57, 58, 59, 60, 61, 62, 63, 64, 65, 66, 67, 68, 503, 69, 70, 71, 72, 73, 74, 75, 76, 77, 78, 79, 80, 81, 82, 83, 504, 84, 85, 86, 87, 88, 89, 90, 91, 92, 93, 94, 95, 96, 97, 98, 505, 99, 100, 101, 102, 103, 104, 105, 106, 107, 108, 109, 110, 111, 112, 113, 506, 114, 115, 116, 117, 118, 119, 120, 121, 122, 123, 124, 125, 126, 127, 128, 507, 131, 132, 133, 134, 135, 136, 137, 138, 139, 140, 141, 142, 143, 144, 145, 508, 146, 147, 148, 149, 150, 151, 152, 153, 154, 155, 156, 157, 158, 159, 160, 509, 0, 16, 32, 33, 34, 35, 36, 37, 38, 129, 130]
def lay (k : Nat) : Nat := layT.getD k 0
theorem lay_lt : ∀ i, i < 171 → layT.getD i 0 < 161 ∨ (500 ≤ layT.getD i 0 ∧ layT.getD i 0 < 510) := by decide +kernel
theorem lay_ne : ∀ i, i < 171 → ∀ j, j < 171 → layT.getD i 0 = layT.getD j 0 → i = j := by decide +kernel
/-- the other object's place -/
def swp (k : Nat) : Nat := if k < 171 then k + 256 else if 256 ≤ k ∧ k < 427 then k - 256 else k
theorem swp_swp (k : Nat) : swp (swp k) = k := by
  unfold swp
  by_cases h : k < 171
  · rw [if_pos h, if_neg (by omega), if_pos (by omega)]; omega
  · rw [if_neg h]
    by_cases h2 : 256 ≤ k ∧ k < 427
    · rw [if_pos h2, if_pos (by omega)]; omega
    · rw [if_neg h2, if_neg h, if_neg h2]
theorem swp_lt {k : Nat} (h : k < 1000) : swp k < 1000 := by unfold swp; split <;> (try split) <;> omega
/-- the law's places: one object, the other, out -/
def layL (k : Nat) : Nat := if k < 171 then lay k else if 256 ≤ k ∧ k < 427 then 161 + lay (k - 256) else if k = 171 then 322 else 2000 + k
theorem layL_inj {i j : Nat} (h : layL i = layL j) : i = j := by
  unfold layL lay at h
  by_cases a : i < 171
  · have a2 := lay_lt i a
    rw [if_pos a] at h
    by_cases b : j < 171
    · rw [if_pos b] at h; exact lay_ne i a j b h
    · rw [if_neg b] at h
      by_cases c : 256 ≤ j ∧ j < 427
      · have c2 := lay_lt (j - 256) (by omega)
        rw [if_pos c] at h; omega
      · rw [if_neg c] at h; split at h <;> omega
  · rw [if_neg a] at h
    by_cases c : 256 ≤ i ∧ i < 427
    · have c2 := lay_lt (i - 256) (by omega)
      rw [if_pos c] at h
      by_cases b : j < 171
      · have b2 := lay_lt j b
        rw [if_pos b] at h; omega
      · rw [if_neg b] at h
        by_cases e : 256 ≤ j ∧ j < 427
        · rw [if_pos e] at h
          have := lay_ne (i - 256) (by omega) (j - 256) (by omega) (by omega)
          omega
        · rw [if_neg e] at h; split at h <;> omega
    · rw [if_neg c] at h
      by_cases b : j < 171
      · have b2 := lay_lt j b
        rw [if_pos b] at h; split at h <;> omega
      · rw [if_neg b] at h
        by_cases e : 256 ≤ j ∧ j < 427
        · have e2 := lay_lt (j - 256) (by omega)
          rw [if_pos e] at h; split at h <;> omega
        · rw [if_neg e] at h; split at h <;> split at h <;> omega
/-- the machine's side of a run: classes' numbers and slots, array classes, the first address of its own, the cells' addresses (below 1000: places behind the first; 1020: the script; 5000: the place where the object in hand begins) -/
abbrev PG : Type := va_G × (FieldType → ClassId) × Nat × (Nat → Nat)
def ad (G : PG) (k : Nat) : Nat := if k < 1000 then G.2.2.1 + G.2.2.2 k else G.2.2.2 1020
theorem ad_lo {G : PG} {k : Nat} (h : k < 1000) : ad G k = G.2.2.1 + G.2.2.2 k := if_pos h
def LG (G : PG) : Prop := G.2.2.2 5000 = 0 ∧ ∀ k, k < 1000 → G.2.2.2 k = layL k
theorem ad_hi {G : PG} {k : Nat} (h : 1000 ≤ k) : ad G k = G.2.2.2 1020 := if_neg (by omega)
def cv (G : PG) : Value → Value
  | .ref k => .ref (ad G k)
  | .int x => .int x
  | .long x => .long x
  | .float x => .float x
  | .double x => .double x
  | .null => .null
  | .retAddr x => .retAddr x
theorem cv_cat (G : PG) (v : Value) : (cv G v).category = v.category := by cases v <;> rfl
abbrev Cel : Type := (FieldType × Nat × (Nat → Value)) ⊕ (Nat × (Nat → Value))
abbrev Hp : Type := Option Nat × (Nat → Option Cel)
abbrev Out : Type := Option Value ⊕ String
def upH (h : Hp) (k : Nat) (c : Cel) : Hp := (h.1, fun j => if j = k then some c else h.2 j)
theorem upH_same (h : Hp) (k : Nat) (c : Cel) : (upH h k c).2 k = some c := if_pos rfl
theorem upH_ne (h : Hp) {k j : Nat} (c : Cel) (n : j ≠ k) : (upH h k c).2 j = h.2 j := if_neg n
abbrev tyl : List FieldType := [.int, .boolean, .char, .int, .object "RowTriggers$Rule", .object "RowTriggers$State"]
def tys (G : PG) : List (ClassId × FieldType) := tyl.map fun t => (G.2.1 t, t)
def at_c (G : PG) (a : Nat) (c : Cel) (H : Heap) : Prop := match c with
  | .inl x => H[a]? = some (arrV (G.2.1 x.1) x.2.1 (fun j => cv G (x.2.2 j)))
  | .inr o => ∃ r : vw_C, vwCl[o.1]? = some r ∧ t_OB a (G.1.1 o.1) r.2.2 (G.1.2 o.1) H (fun k => cv G (o.2 k))
theorem at_c.kept {G : PG} {a : Nat} {c : Cel} {H H1 : Heap} (h : at_c G a c H) (hq : H1[a]? = H[a]?) : at_c G a c H1 := by
  cases c with
  | inl x => exact hq.trans h
  | inr o =>
    obtain ⟨r, h1, h2⟩ := h
    exact ⟨r, h1, h2.kept hq⟩
theorem at_c.lt {G : PG} {a : Nat} {c : Cel} {H : Heap} (h : at_c G a c H) : a < H.size := by
  cases c with
  | inl x => exact (Array.getElem?_eq_some_iff.mp h).1
  | inr o =>
    obtain ⟨r, h1, cell, h2, -⟩ := h
    exact (Array.getElem?_eq_some_iff.mp h2).1
/-- the heap H holds the cells h -/
def Rp (G : PG) (h : Hp) (H : Heap) : Prop := (∀ z, h.1 = some z → H.size = G.2.2.1 + G.2.2.2 5000 + z ∧ ∀ k, k < 171 → G.2.2.2 k = G.2.2.2 5000 + lay k) ∧ G.2.2.1 ≤ H.size ∧ (∀ k c, h.2 k = some c → k < 1000 ∧ at_c G (ad G k) c H) ∧ ∀ i j, i < 1000 → j < 1000 → G.2.2.2 i = G.2.2.2 j → i = j
/-- a cell is changed: the others stay -/
theorem Rp.put {G : PG} {h : Hp} {H H1 : Heap} (R : Rp G h H) {k : Nat} {c0 c : Cel} (h0 : h.2 k = some c0) (z : H1.size = H.size) (o : ∀ q : Nat, q ≠ ad G k → H1[q]? = H[q]?) (hc : at_c G (ad G k) c H1) : Rp G (upH h k c) H1 := by
  refine ⟨fun y hy => by rw [z]; exact R.1 y hy, by rw [z]; exact R.2.1, fun j cj hj => ?_, R.2.2.2⟩
  by_cases e : j = k
  · subst e
    rw [upH_same] at hj
    cases hj
    exact ⟨(R.2.2.1 _ _ h0).1, hc⟩
  · rw [upH_ne _ _ e] at hj
    obtain ⟨l1, l2⟩ := R.2.2.1 _ _ hj
    refine ⟨l1, l2.kept (o _ ?_)⟩
    have lk := (R.2.2.1 _ _ h0).1
    rw [ad_lo l1, ad_lo lk]
    intro q
    exact e (R.2.2.2 _ _ l1 lk (by omega))
/-- a cell is made, at the place that is next -/
theorem Rp.push {G : PG} {h : Hp} {H H1 : Heap} (R : Rp G h H) {k y : Nat} {c : Cel} (hk : k < 1000) (hz : h.1 = some y) (hL : G.2.2.2 k = G.2.2.2 5000 + y) (z : H1.size = H.size + 1) (o : ∀ q : Nat, q < H.size → H1[q]? = H[q]?) (hc : at_c G H.size c H1) : Rp G (some (y + 1), (upH h k c).2) H1 := by
  have e1 := (R.1 _ hz).1
  have ea : ad G k = H.size := by rw [ad_lo hk, e1]; omega
  refine ⟨fun y2 hy => by cases hy; exact ⟨by omega, (R.1 _ hz).2⟩, by omega, fun j cj hj => ?_, R.2.2.2⟩
  by_cases e : j = k
  · subst e
    rw [upH_same] at hj
    cases hj
    exact ⟨hk, by rw [ea]; exact hc⟩
  · rw [upH_ne _ _ e] at hj
    obtain ⟨l1, l2⟩ := R.2.2.1 _ _ hj
    exact ⟨l1, l2.kept (o _ l2.lt)⟩
theorem Rp.grow {G : PG} {h : Hp} {H H1 : Heap} (R : Rp G h H) (z : H.size ≤ H1.size) (o : ∀ q : Nat, q < H.size → H1[q]? = H[q]?) : Rp G (none, h.2) H1 :=
  ⟨fun _ hy => (nomatch hy), Nat.le_trans R.2.1 z, fun j cj hj => ⟨(R.2.2.1 _ _ hj).1, (R.2.2.1 _ _ hj).2.kept (o _ (R.2.2.1 _ _ hj).2.lt)⟩, R.2.2.2⟩
abbrev fr (G : PG) : Nat → Prop := fun q => G.2.2.1 ≤ q
def strs : List (Nat × String) := [(61, "event, column or least is out of range"), (72, "there are 8 rules"), (289, "there is no such rule"), (96, "action, row, column or amount is out of range"), (120, "depth is out of range"), (282, "there is no such row"), (287, "a value is out of range"), (162, "the row does not allow it, or the statement is refused"), (285, "there is no such column"), (176, "the row is not there"), (291, "the log has not so many acts"), (270, "no state is recorded")]
def ncs : List (String × String) := [("java/lang/IllegalArgumentException", "java/lang/IllegalStateException"), ("java/lang/IllegalArgumentException", "java/lang/IndexOutOfBoundsException"), ("java/lang/IllegalStateException", "java/lang/IllegalArgumentException"), ("java/lang/IllegalStateException", "java/lang/IndexOutOfBoundsException"), ("java/lang/IndexOutOfBoundsException", "java/lang/IllegalArgumentException"), ("java/lang/IndexOutOfBoundsException", "java/lang/IllegalStateException")]
/-- what of the old world a method may need; the law's script -/
def OW (G : PG) (U : State) : Prop :=
  (vx_Zq Bundle.tN "UNASSIGNED_STACK" Bundle.steD (fr G) U U.heap ∧ vx_Zq Bundle.tN "SUPPRESSED_SENTINEL" Bundle.listD (fr G) U U.heap) ∧
  (∀ q ∈ strs, ∃ sa, vk_R "RowTriggers" q.1 q.2 sa U) ∧ (∀ w ∈ UN, va_Nw w U) ∧ (∀ q ∈ ncs, va_Nc q.1 q.2 U) ∧
  (∃ xn xs, va_X (G.2.2.2 1020) xn xs U U.heap ∧ xn ≤ 260 ∧ G.2.2.2 1020 < G.2.2.1 ∧ G.2.2.2 1020 < U.heap.size) ∧ va_AO "RowTriggers$Rule" U ∧ va_AO "RowTriggers$State" U
theorem un_warm {w : Cond} (hg : un_ok w = true) {s U : State} (hW : s.WarmedH U.vm) (h : va_Nw w s) : va_Nw w U := by
  cases w <;> first | exact va_Nw.warmD hW h | exact va_Nw.warmC hW h | exact va_Nw.warmM hW h | cases hg
theorem OW.go {G : PG} {s U : State} {H : Heap} {locs : List Loc} (h : OW G s) (hS : va_S (fr G) s.heap H locs) (hH : U.heap = H) (hW : s.WarmedH U.vm) : OW G U := by
  subst hH
  obtain ⟨⟨a1, a2⟩, a3, a4, a5, ⟨xn, xs, a6, a7, a8, a9⟩, b1, b2⟩ := h
  exact ⟨⟨vx_Zq.moved hW.alike (a1.kept hS.2.1), vx_Zq.moved hW.alike (a2.kept hS.2.1)⟩, fun q hq => (a3 q hq).imp fun sa h => vk_R.warm hW h, fun w hw => un_warm (List.mem_filter.mp hw).2 hW (a4 w hw), fun q hq => va_Nc.moved hW.alike (a5 q hq),
    ⟨xn, xs, (a6.moved hW.alike).kept (hS.2.1 _ a9 (fun q => absurd a8 (Nat.not_lt.mpr q))), a7, a8, Nat.lt_of_lt_of_le a9 hS.1⟩, va_AO.moved hW.alike b1, va_AO.moved hW.alike b2⟩
/-- a method: name, code, locals, what it returns, its handlers, its kind (0: it returns; 1: it may throw; 2: the law), the law's script -/
abbrev Mth : Type := MethodName × ByteArray × Nat × Option FieldType × List (Nat × Nat × Nat × Nat) × Nat × Nat × (Nat → Int32)
abbrev mY (M : Mth) : MethodName := M.1
abbrev mC (M : Mth) : ByteArray := M.2.1
abbrev mL (M : Mth) : Nat := M.2.2.1
abbrev mR (M : Mth) : Option FieldType := M.2.2.2.1
abbrev mH (M : Mth) : List (Nat × Nat × Nat × Nat) := M.2.2.2.2.1
abbrev mK (M : Mth) : Nat := M.2.2.2.2.2.1
abbrev mN (M : Mth) : Nat := M.2.2.2.2.2.2.1
abbrev mX (M : Mth) : Nat → Int32 := M.2.2.2.2.2.2.2
def Cx (M : Mth) (d N : Nat) (Q : Out → Hp → Prop) (p : Program) (l : Launch) (R : Room) (s : State) (m : MethodId) (args : Array Value) (meth : Method) (c : Code) (G : PG) : Prop :=
  (p.tables.exec = Jvm.exec ∧ c.code = mC M ∧ c.maxLocals = mL M ∧ meth.sig.returnType = mR M ∧ s.vm.findClass (mY M).cls = some m.cls ∧ meth.name = (mY M).name) ∧
  (∀ w ∈ UU, w.before args s = true) ∧ meth.locks = false ∧ c.exceptionTable.toList = tableOf (mH M) ∧ va_K G.1 vwCl (tys G) s ∧ OW G s ∧ G.2.2.1 ≤ s.heap.size ∧ (d ≤ R.frames ∧ 64 * d ≤ R.locals ∧ N ≤ R.cells ∧ 1000 * N ≤ R.slots) ∧ l.stackTraces = false ∧
  (mK M = 2 → (∀ o h, Q o h → o = .inl (some (.int 1))) ∧ LG G ∧ G.2.2.1 = s.heap.size ∧ R = room_1 ∧ N ≤ 7000 ∧ ∃ b, args = #[.ref b])
def PQ (G : PG) (Q : Out → Hp → Prop) : Array Value → State → Outcome → State → Prop := fun _ st o t => (∃ (r : Option Value) (h' : Hp), o = .returned (r.map (cv G)) ∧ Q (.inl r) h' ∧ Rp G h' t.heap) ∧ va_F (fr G) st t
def PX (G : PG) (Q : Out → Hp → Prop) : String → State → State → Prop := fun E st t => (∃ h', Q (.inr E) h' ∧ Rp G h' t.heap) ∧ va_F (fr G) st t
def PZ (M : Mth) (N : Nat) (Q : Out → Hp → Prop) (below : List Frame) (args : Array Value) (s : State) (G : PG) : State → Prop :=
  if mK M = 0 then MQ below (PQ G Q) args s N (1000 * N) (fr G) else if mK M = 1 then vx_MQ below (PQ G Q) (PX G Q) args s N (1000 * N) (fr G) else lw_Z below args s
/-- locals: the known ones -/
def lvS (G : PG) (lsA : Array Slot) (L : Nat) (ls : List (Option Value)) : Prop := lsA.size = L ∧ lv_wf lsA ∧ ∀ (i : Nat) (v : Value), ls[i]? = some (some v) → lsA[i]? = some (.val (cv G v))
def PW (M : Mth) (d n pc : Nat) (ls : List (Option Value)) (st : List Value) (h : Hp) (Q : Out → Hp → Prop) : Prop :=
  ∀ (p : Program) (l : Launch) (e : Env) (R : Room) (s : State) (m : MethodId) (args : Array Value) (below : List Frame) (meth : Method) (c : Code) (G : PG) (N : Nat) (H : Heap) (locs : List Loc) (cells slots : Nat) (lsA : Array Slot),
    Cx M d N Q p l R s m args meth c G → cells + n ≤ N → slots + 1000 * n ≤ 1000 * N → Rp G h H → va_S (fr G) s.heap H locs → lvS G lsA (mL M) ls →
    W p l e R s m args below meth c H locs cells slots (PZ M N Q below args s G) (F0 m pc lsA (st.map (cv G)))
def rmd (d n : Nat) : Room := { frames := d, cells := n, slots := 1000 * n, locals := 64 * d }
def wsM (M : Mth) : List Cond := if mH M = [] then .code (mY M) (mC M) (mL M) (mR M) :: UU else .codeWith (mY M) (mC M) (mL M) (mR M) (mH M) :: UU
def PP (G : PG) (args : List Value) (h : Hp) : Array Value → State → Prop := va_Pc (args.map (cv G)) (fun U => Rp G h U.heap ∧ va_K G.1 vwCl (tys G) U ∧ OW G U ∧ G.2.2.1 ≤ U.heap.size)
/-- the contract of a method at these arguments and cells -/
def CT (M : Mth) (d n : Nat) (args : List Value) (h : Hp) (Q : Out → Hp → Prop) : Prop :=
  ∀ (l : Launch), l.stackTraces = false → ∀ G : PG,
    if mK M = 0 then Met l (mY M) (wsM M) (rmd d n) (PP G args h) (PQ G Q) n (1000 * n) (fr G)
    else vx_Met l (mY M) (wsM M) (rmd d n) (PP G args h) (PQ G Q) (PX G Q) n (1000 * n) (fr G)
theorem PP.blind {G : PG} {args : List Value} {h : Hp} : FrameBlind (PP G args h) := by
  intro a U g mk q
  obtain ⟨q1, q2, q3, q4, q5⟩ := q
  refine ⟨q1, q2, va_K.moved (u := U) (U := U.calling g mk a) (Vm.Alike.refl U.vm) q3, ?_, q5⟩
  exact OW.go (H := U.heap) (locs := []) q4 va_S.rf rfl (State.WarmedH.refl U)
/-- entry locals -/
def els : List Value → List (Option Value)
  | [] => []
  | .long x :: t => some (.long x) :: none :: els t
  | .double x :: t => some (.double x) :: none :: els t
  | v :: t => some v :: els t

theorem lvS.has {G : PG} {lsA : Array Slot} {L : Nat} {ls : List (Option Value)} (h : lvS G lsA L ls) : lv_has lsA L ((List.range ls.length).filterMap (fun j => (ls.getD j none).map (fun w => (j, cv G w)))) := by
  refine ⟨h.1, h.2.1, fun q hq => ?_⟩
  obtain ⟨j, -, hj⟩ := List.mem_filterMap.mp hq
  cases hg : ls.getD j none with
  | none => rw [hg] at hj; cases hj
  | some w =>
    rw [hg] at hj
    cases hj
    refine h.2.2 j w ?_
    rw [List.getD_eq_getElem?_getD] at hg
    cases hx : ls[j]? with
    | none => rw [hx] at hg; cases hg
    | some o => rw [hx] at hg; exact congrArg some hg
theorem lvS.mem {G : PG} {ls : List (Option Value)} {i : Nat} {v : Value} (h : ls[i]? = some (some v)) : (i, cv G v) ∈ (List.range ls.length).filterMap (fun j => (ls.getD j none).map (fun w => (j, cv G w))) := by
  refine List.mem_filterMap.mpr ⟨i, List.mem_range.mpr (List.getElem?_eq_some_iff.mp h).1, ?_⟩
  rw [List.getD_eq_getElem?_getD, h]
  rfl
def nlong : Option Value → Bool
  | some (.long _) => false
  | some (.double _) => false
  | _ => true
theorem nlong_cat {v : Value} (h : nlong (some v) = true) : v.category ≠ 2 := by
  cases v <;> first | (cases h; done) | (intro z; cases z)
theorem lvS.of1 {G : PG} {lsA : Array Slot} {L : Nat} {ls : List (Option Value)} {i : Nat} {v : Value} (hp : ∀ j, j + 1 = i → ∀ w, ls[j]? = some w → nlong w = true) (h : lv_has lsA L ((i, cv G v) :: ((List.range ls.length).filterMap (fun j => (ls.getD j none).map (fun w => (j, cv G w)))).filter (fun q => !(q.1 == i) && !(q.1 + 1 == i && q.2.category == 2)))) : lvS G lsA L (ls.set i (some v)) := by
  refine ⟨h.1, h.2.1, fun j w hj => ?_⟩
  by_cases e : j = i
  · subst e
    have hl : j < (ls.set j (some v)).length := (List.getElem?_eq_some_iff.mp hj).1
    rw [List.length_set] at hl
    rw [List.getElem?_set_self hl] at hj
    cases hj
    exact h.2.2 (j, cv G v) List.mem_cons_self
  · rw [List.getElem?_set_ne (Ne.symm e)] at hj
    refine h.2.2 (j, cv G w) (List.mem_cons_of_mem _ (List.mem_filter.mpr ⟨lvS.mem hj, ?_⟩))
    have e1 : (j == i) = false := beq_eq_false_iff_ne.mpr e
    show (!(j == i) && !(j + 1 == i && (cv G w).category == 2)) = true
    rw [e1, cv_cat]
    by_cases e2 : j + 1 = i
    · have := nlong_cat (hp j e2 _ hj)
      simp [this]
    · simp [e2]
theorem lvS.of2 {G : PG} {lsA : Array Slot} {L : Nat} {ls : List (Option Value)} {i : Nat} {x : Int64} (hp : ∀ j, j + 1 = i → ∀ w, ls[j]? = some w → nlong w = true) (h : lv_has lsA L ((i, Value.long x) :: ((List.range ls.length).filterMap (fun j => (ls.getD j none).map (fun w => (j, cv G w)))).filter (fun q => !(q.1 == i) && (!(q.1 == i + 1) && !(q.1 + 1 == i && q.2.category == 2))))) : lvS G lsA L ((ls.set i (some (.long x))).set (i + 1) none) := by
  refine ⟨h.1, h.2.1, fun j w hj => ?_⟩
  by_cases e9 : j = i + 1
  · subst e9
    have hl : i + 1 < ((ls.set i (some (.long x))).set (i + 1) none).length := (List.getElem?_eq_some_iff.mp hj).1
    rw [List.length_set] at hl
    rw [List.getElem?_set_self hl] at hj
    cases hj
  · rw [List.getElem?_set_ne (Ne.symm e9)] at hj
    by_cases e : j = i
    · subst e
      have hl : j < (ls.set j (some (.long x))).length := (List.getElem?_eq_some_iff.mp hj).1
      rw [List.length_set] at hl
      rw [List.getElem?_set_self hl] at hj
      cases hj
      exact h.2.2 (j, .long x) List.mem_cons_self
    · rw [List.getElem?_set_ne (Ne.symm e)] at hj
      refine h.2.2 (j, cv G w) (List.mem_cons_of_mem _ (List.mem_filter.mpr ⟨lvS.mem hj, ?_⟩))
      have e1 : (j == i) = false := beq_eq_false_iff_ne.mpr e
      have e3 : (j == i + 1) = false := beq_eq_false_iff_ne.mpr e9
      show (!(j == i) && (!(j == i + 1) && !(j + 1 == i && (cv G w).category == 2))) = true
      rw [e1, e3, cv_cat]
      by_cases e2 : j + 1 = i
      · have := nlong_cat (hp j e2 _ hj)
        simp [this]
      · simp [e2]
section PWR
variable {M : Mth} {d n pc : Nat} {ls : List (Option Value)} {st : List Value} {h : Hp} {Q : Out → Hp → Prop}
theorem pw_lift {pc' : Nat} {st' : List Value} (k : PW M d n pc' ls st' h Q) (stp : ∀ {p : Program} {l : Launch} {e : Env} {R : Room} {s : State} {m : MethodId} {args : Array Value} {below : List Frame} {meth : Method} {c : Code} {H : Heap} {locs : List Loc} {cells slots : Nat} {Z : State → Prop} {lsA : Array Slot} (G : PG), p.tables.exec = Jvm.exec → c.code = mC M → W p l e R s m args below meth c H locs cells slots Z (F0 m pc' lsA (st'.map (cv G))) → W p l e R s m args below meth c H locs cells slots Z (F0 m pc lsA (st.map (cv G)))) : PW M d n pc ls st h Q :=
  fun p l e R s m args below meth c G N H locs cells slots lsA C hc hs hR hS hl => stp G C.1.1 C.1.2.1 (k p l e R s m args below meth c G N H locs cells slots lsA C hc hs hR hS hl)
theorem pw_if2 {c : Prop} {pc1 pc2 : Nat} {st' : List Value} (kt : c → PW M d n pc1 ls st' h Q) (kf : ¬ c → PW M d n pc2 ls st' h Q) (stp : ∀ {p : Program} {l : Launch} {e : Env} {R : Room} {s : State} {m : MethodId} {args : Array Value} {below : List Frame} {meth : Method} {c9 : Code} {H : Heap} {locs : List Loc} {cells slots : Nat} {Z : State → Prop} {lsA : Array Slot} (G : PG), p.tables.exec = Jvm.exec → c9.code = mC M → (c → W p l e R s m args below meth c9 H locs cells slots Z (F0 m pc1 lsA (st'.map (cv G)))) → (¬ c → W p l e R s m args below meth c9 H locs cells slots Z (F0 m pc2 lsA (st'.map (cv G)))) → W p l e R s m args below meth c9 H locs cells slots Z (F0 m pc lsA (st.map (cv G)))) : PW M d n pc ls st h Q :=
  fun p l e R s m args below meth c G N H locs cells slots lsA C hc hs hR hS hl => stp G C.1.1 C.1.2.1 (fun z => kt z p l e R s m args below meth c G N H locs cells slots lsA C hc hs hR hS hl) (fun z => kf z p l e R s m args below meth c G N H locs cells slots lsA C hc hs hR hS hl)
/-- fewer locals are known -/
theorem pw_forget {ls' : List (Option Value)} (hl : ∀ (i : Nat) (v : Value), ls'[i]? = some (some v) → ls[i]? = some (some v)) (k : PW M d n pc ls' st h Q) : PW M d n pc ls st h Q :=
  fun p l e R s m args below meth c G N H locs cells slots lsA C hc hs hR hS hl' => k p l e R s m args below meth c G N H locs cells slots lsA C hc hs hR hS ⟨hl'.1, hl'.2.1, fun i v q => hl'.2.2 i v (hl i v q)⟩
theorem pw_conseq {Q' : Out → Hp → Prop} (hQ : ∀ o h, Q' o h → Q o h) (hM : mK M ≠ 2) (k : PW M d n pc ls st h Q') : PW M d n pc ls st h Q := by
  intro p l e R s m args below meth c G N H locs cells slots lsA C hc hs hR hS hl T hT X
  obtain ⟨c1, c2, c3, c4, c5, c6, c7, c8, c9, c10⟩ := C
  obtain ⟨t, a, b⟩ := k p l e R s m args below meth c G N H locs cells slots lsA ⟨c1, c2, c3, c4, c5, c6, c7, c8, c9, fun z => absurd z hM⟩ hc hs hR hS hl T hT X
  refine ⟨t, a, ?_⟩
  unfold PZ at b ⊢
  by_cases m0 : mK M = 0
  · rw [if_pos m0] at b ⊢
    obtain ⟨o, b1, b2, ⟨⟨r, h', b3, b4, b5⟩, b6⟩, b7⟩ := b
    exact ⟨o, b1, b2, ⟨⟨r, h', b3, hQ _ _ b4, b5⟩, b6⟩, b7⟩
  · rw [if_neg m0] at b ⊢
    by_cases m1 : mK M = 1
    · rw [if_pos m1] at b ⊢
      obtain ⟨o, b1, b2, b3⟩ := b
      refine ⟨o, b1, b2, ?_⟩
      rcases b3 with ⟨⟨⟨r, h', b3, b4, b5⟩, b6⟩, b7⟩ | ⟨q, b3, E, ce, L, ⟨⟨h', b4, b5⟩, b6⟩, b7⟩
      · exact Or.inl ⟨⟨⟨r, h', b3, hQ _ _ b4, b5⟩, b6⟩, b7⟩
      · exact Or.inr ⟨q, b3, E, ce, L, ⟨⟨h', hQ _ _ b4, b5⟩, b6⟩, b7⟩
    · rw [if_neg m1] at b ⊢
      exact b
theorem pw_iload_n {k : Fin 4} {x : Int32} (hd : decode (mC M) pc = .ok (.iload_n k, 1)) (hl : ls[(k : Nat)]? = some (some (.int x))) (kk : PW M d n (pc + 1) ls (.int x :: st) h Q) : PW M d n pc ls st h Q :=
  fun p l e R s m args below meth c G N H locs cells slots lsA C hc hs hR hS hv => lv_iload_n C.1.1 C.1.2.1 hd rfl (hv.2.2 _ _ hl) (kk p l e R s m args below meth c G N H locs cells slots lsA C hc hs hR hS hv)
theorem pw_iload {k : Nat} {x : Int32} (hd : decode (mC M) pc = .ok (.iload k, 2)) (hl : ls[k]? = some (some (.int x))) (kk : PW M d n (pc + 2) ls (.int x :: st) h Q) : PW M d n pc ls st h Q :=
  fun p l e R s m args below meth c G N H locs cells slots lsA C hc hs hR hS hv => lv_iload C.1.1 C.1.2.1 hd (hv.2.2 _ _ hl) (kk p l e R s m args below meth c G N H locs cells slots lsA C hc hs hR hS hv)
theorem pw_aload_n {k : Fin 4} {x : Nat} (hd : decode (mC M) pc = .ok (.aload_n k, 1)) (hl : ls[(k : Nat)]? = some (some (.ref x))) (kk : PW M d n (pc + 1) ls (.ref x :: st) h Q) : PW M d n pc ls st h Q :=
  fun p l e R s m args below meth c G N H locs cells slots lsA C hc hs hR hS hv => lv_aload_n C.1.1 C.1.2.1 hd rfl (hv.2.2 _ _ hl) (kk p l e R s m args below meth c G N H locs cells slots lsA C hc hs hR hS hv)
theorem pw_aload {k : Nat} {x : Nat} (hd : decode (mC M) pc = .ok (.aload k, 2)) (hl : ls[k]? = some (some (.ref x))) (kk : PW M d n (pc + 2) ls (.ref x :: st) h Q) : PW M d n pc ls st h Q :=
  fun p l e R s m args below meth c G N H locs cells slots lsA C hc hs hR hS hv => lv_aload C.1.1 C.1.2.1 hd (hv.2.2 _ _ hl) (kk p l e R s m args below meth c G N H locs cells slots lsA C hc hs hR hS hv)
theorem pw_lload_n {k : Fin 4} {x : Int64} (hd : decode (mC M) pc = .ok (.lload_n k, 1)) (hl : ls[(k : Nat)]? = some (some (.long x))) (kk : PW M d n (pc + 1) ls (.long x :: st) h Q) : PW M d n pc ls st h Q :=
  fun p l e R s m args below meth c G N H locs cells slots lsA C hc hs hR hS hv => lv_lload_n C.1.1 C.1.2.1 hd rfl (hv.2.2 _ _ hl) (kk p l e R s m args below meth c G N H locs cells slots lsA C hc hs hR hS hv)
theorem pw_lload {k : Nat} {x : Int64} (hd : decode (mC M) pc = .ok (.lload k, 2)) (hl : ls[k]? = some (some (.long x))) (kk : PW M d n (pc + 2) ls (.long x :: st) h Q) : PW M d n pc ls st h Q :=
  fun p l e R s m args below meth c G N H locs cells slots lsA C hc hs hR hS hv => lv_lload C.1.1 C.1.2.1 hd (hv.2.2 _ _ hl) (kk p l e R s m args below meth c G N H locs cells slots lsA C hc hs hR hS hv)
theorem pw_istore_n {k : Fin 4} {x : Int32} {ls1 : List (Option Value)} (hd : decode (mC M) pc = .ok (.istore_n k, 1)) (hp : ∀ j, j + 1 = (k : Nat) → ∀ w, ls[j]? = some w → nlong w = true) (hn : (k : Nat) < mL M) (e : ls.set (k : Nat) (some (.int x)) = ls1) (kk : PW M d n (pc + 1) ls1 st h Q) : PW M d n pc ls (.int x :: st) h Q := by
  subst e
  intro p l e R s m args below meth c G N H locs cells slots lsA C hc hs hR hS hv
  exact lv_istore_n C.1.1 C.1.2.1 hd rfl hv.has hn rfl (fun lsB hB => kk p l e R s m args below meth c G N H locs cells slots lsB C hc hs hR hS (lvS.of1 hp hB))
theorem pw_istore {k : Nat} {x : Int32} {ls1 : List (Option Value)} (hd : decode (mC M) pc = .ok (.istore k, 2)) (hp : ∀ j, j + 1 = k → ∀ w, ls[j]? = some w → nlong w = true) (hn : k < mL M) (e : ls.set k (some (.int x)) = ls1) (kk : PW M d n (pc + 2) ls1 st h Q) : PW M d n pc ls (.int x :: st) h Q := by
  subst e
  intro p l e R s m args below meth c G N H locs cells slots lsA C hc hs hR hS hv
  exact lv_istore C.1.1 C.1.2.1 hd hv.has hn rfl (fun lsB hB => kk p l e R s m args below meth c G N H locs cells slots lsB C hc hs hR hS (lvS.of1 hp hB))
theorem pw_astore_n {k : Fin 4} {x : Nat} {ls1 : List (Option Value)} (hd : decode (mC M) pc = .ok (.astore_n k, 1)) (hp : ∀ j, j + 1 = (k : Nat) → ∀ w, ls[j]? = some w → nlong w = true) (hn : (k : Nat) < mL M) (e : ls.set (k : Nat) (some (.ref x)) = ls1) (kk : PW M d n (pc + 1) ls1 st h Q) : PW M d n pc ls (.ref x :: st) h Q := by
  subst e
  intro p l e R s m args below meth c G N H locs cells slots lsA C hc hs hR hS hv
  exact lv_astore_n C.1.1 C.1.2.1 hd rfl hv.has hn rfl (fun lsB hB => kk p l e R s m args below meth c G N H locs cells slots lsB C hc hs hR hS (lvS.of1 hp hB))
theorem pw_astore {k : Nat} {x : Nat} {ls1 : List (Option Value)} (hd : decode (mC M) pc = .ok (.astore k, 2)) (hp : ∀ j, j + 1 = k → ∀ w, ls[j]? = some w → nlong w = true) (hn : k < mL M) (e : ls.set k (some (.ref x)) = ls1) (kk : PW M d n (pc + 2) ls1 st h Q) : PW M d n pc ls (.ref x :: st) h Q := by
  subst e
  intro p l e R s m args below meth c G N H locs cells slots lsA C hc hs hR hS hv
  exact lv_astore C.1.1 C.1.2.1 hd hv.has hn rfl (fun lsB hB => kk p l e R s m args below meth c G N H locs cells slots lsB C hc hs hR hS (lvS.of1 hp hB))
theorem pw_lstore_n {k : Fin 4} {x : Int64} {ls1 : List (Option Value)} (hd : decode (mC M) pc = .ok (.lstore_n k, 1)) (hp : ∀ j, j + 1 = (k : Nat) → ∀ w, ls[j]? = some w → nlong w = true) (hn : (k : Nat) + 1 < mL M) (e : (ls.set (k : Nat) (some (.long x))).set ((k : Nat) + 1) none = ls1) (kk : PW M d n (pc + 1) ls1 st h Q) : PW M d n pc ls (.long x :: st) h Q := by
  subst e
  intro p l e R s m args below meth c G N H locs cells slots lsA C hc hs hR hS hv
  exact lv_lstore_n C.1.1 C.1.2.1 hd rfl hv.has hn rfl (fun lsB hB => kk p l e R s m args below meth c G N H locs cells slots lsB C hc hs hR hS (lvS.of2 hp hB))
theorem pw_lstore {k : Nat} {x : Int64} {ls1 : List (Option Value)} (hd : decode (mC M) pc = .ok (.lstore k, 2)) (hp : ∀ j, j + 1 = k → ∀ w, ls[j]? = some w → nlong w = true) (hn : k + 1 < mL M) (e : (ls.set k (some (.long x))).set (k + 1) none = ls1) (kk : PW M d n (pc + 2) ls1 st h Q) : PW M d n pc ls (.long x :: st) h Q := by
  subst e
  intro p l e R s m args below meth c G N H locs cells slots lsA C hc hs hR hS hv
  exact lv_lstore C.1.1 C.1.2.1 hd hv.has hn rfl (fun lsB hB => kk p l e R s m args below meth c G N H locs cells slots lsB C hc hs hR hS (lvS.of2 hp hB))
theorem pw_iinc {i : Nat} {z : Int} {x v : Int32} {ls1 : List (Option Value)} (hd : decode (mC M) pc = .ok (.iinc i z, 3)) (hl : ls[i]? = some (some (.int x))) (hp : ∀ j, j + 1 = i → ∀ w, ls[j]? = some w → nlong w = true) (hn : i < mL M) (hv : x + Int32.ofInt z = v) (e : ls.set i (some (.int v)) = ls1) (kk : PW M d n (pc + 3) ls1 st h Q) : PW M d n pc ls st h Q := by
  subst e
  intro p l e R s m args below meth c G N H locs cells slots lsA C hc hs hR hS hw
  obtain ⟨j, hj⟩ := List.getElem?_of_mem (lvS.mem (G := G) hl)
  exact lv_iinc C.1.1 C.1.2.1 hd hw.has hj hv hn rfl (fun lsB hB => kk p l e R s m args below meth c G N H locs cells slots lsB C hc hs hR hS (lvS.of1 hp hB))
theorem pw_iconst {z : Int} {v : Int32} (hd : decode (mC M) pc = .ok (.iconst z, 1)) (hv : Int32.ofInt z = v) (k : PW M d n (pc + 1) ls (.int v :: st) h Q) : PW M d n pc ls (st) h Q := pw_lift k (fun G hx hb w => lv_iconst hx hb hd hv w)
theorem pw_bipush {z : Int} {v : Int32} (hd : decode (mC M) pc = .ok (.bipush z, 2)) (hv : (Int8.ofInt z).toInt32 = v) (k : PW M d n (pc + 2) ls (.int v :: st) h Q) : PW M d n pc ls (st) h Q := pw_lift k (fun G hx hb w => lv_bipush hx hb hd hv w)
theorem pw_sipush {z : Int} {v : Int32} (hd : decode (mC M) pc = .ok (.sipush z, 3)) (hv : (Int16.ofInt z).toInt32 = v) (k : PW M d n (pc + 3) ls (.int v :: st) h Q) : PW M d n pc ls (st) h Q := pw_lift k (fun G hx hb w => lv_sipush hx hb hd hv w)
theorem pw_lconst {z : Fin 2} {v : Int64} (hd : decode (mC M) pc = .ok (.lconst z, 1)) (hv : Int64.ofNat (z : Nat) = v) (k : PW M d n (pc + 1) ls (.long v :: st) h Q) : PW M d n pc ls (st) h Q := pw_lift k (fun G hx hb w => lv_lconst hx hb hd hv w)
theorem pw_iadd {x y : Int32} (hd : decode (mC M) pc = .ok (.iadd, 1)) (k : PW M d n (pc + 1) ls (.int (x + y) :: st) h Q) : PW M d n pc ls (.int y :: .int x :: st) h Q := pw_lift k (fun G hx hb w => lv_iadd hx hb hd w)
theorem pw_isub {x y : Int32} (hd : decode (mC M) pc = .ok (.isub, 1)) (k : PW M d n (pc + 1) ls (.int (x - y) :: st) h Q) : PW M d n pc ls (.int y :: .int x :: st) h Q := pw_lift k (fun G hx hb w => lv_isub hx hb hd w)
theorem pw_imul {x y : Int32} (hd : decode (mC M) pc = .ok (.imul, 1)) (k : PW M d n (pc + 1) ls (.int (x * y) :: st) h Q) : PW M d n pc ls (.int y :: .int x :: st) h Q := pw_lift k (fun G hx hb w => lv_imul hx hb hd w)
theorem pw_iand {x y : Int32} (hd : decode (mC M) pc = .ok (.iand, 1)) (k : PW M d n (pc + 1) ls (.int (x &&& y) :: st) h Q) : PW M d n pc ls (.int y :: .int x :: st) h Q := pw_lift k (fun G hx hb w => lv_iand hx hb hd w)
theorem pw_ior {x y : Int32} (hd : decode (mC M) pc = .ok (.ior, 1)) (k : PW M d n (pc + 1) ls (.int (x ||| y) :: st) h Q) : PW M d n pc ls (.int y :: .int x :: st) h Q := pw_lift k (fun G hx hb w => lv_ior hx hb hd w)
theorem pw_ixor {x y : Int32} (hd : decode (mC M) pc = .ok (.ixor, 1)) (k : PW M d n (pc + 1) ls (.int (x ^^^ y) :: st) h Q) : PW M d n pc ls (.int y :: .int x :: st) h Q := pw_lift k (fun G hx hb w => lv_ixor hx hb hd w)
theorem pw_ishl {x y : Int32} (hd : decode (mC M) pc = .ok (.ishl, 1)) (k : PW M d n (pc + 1) ls (.int (x <<< (y &&& 31)) :: st) h Q) : PW M d n pc ls (.int y :: .int x :: st) h Q := pw_lift k (fun G hx hb w => lv_ishl hx hb hd w)
theorem pw_ishr {x y : Int32} (hd : decode (mC M) pc = .ok (.ishr, 1)) (k : PW M d n (pc + 1) ls (.int (x >>> (y &&& 31)) :: st) h Q) : PW M d n pc ls (.int y :: .int x :: st) h Q := pw_lift k (fun G hx hb w => lv_ishr hx hb hd w)
theorem pw_irem {x y : Int32} (hd : decode (mC M) pc = .ok (.irem, 1)) (hne : ¬ y = 0) (k : PW M d n (pc + 1) ls (.int (x - x / y * y) :: st) h Q) : PW M d n pc ls (.int y :: .int x :: st) h Q := pw_lift k (fun G hx hb w => lv_irem hx hb hd hne w)
theorem pw_land {x y : Int64} (hd : decode (mC M) pc = .ok (.land, 1)) (k : PW M d n (pc + 1) ls (.long (x &&& y) :: st) h Q) : PW M d n pc ls (.long y :: .long x :: st) h Q := pw_lift k (fun G hx hb w => lv_land hx hb hd w)
theorem pw_lor {x y : Int64} (hd : decode (mC M) pc = .ok (.lor, 1)) (k : PW M d n (pc + 1) ls (.long (x ||| y) :: st) h Q) : PW M d n pc ls (.long y :: .long x :: st) h Q := pw_lift k (fun G hx hb w => lv_lor hx hb hd w)
theorem pw_lshl {x v : Int64} {y : Int32} (hd : decode (mC M) pc = .ok (.lshl, 1)) (hv : x <<< (y.toInt64 &&& 63) = v) (k : PW M d n (pc + 1) ls (.long v :: st) h Q) : PW M d n pc ls (.int y :: .long x :: st) h Q := pw_lift k (fun G hx hb w => lv_lshl hx hb hd hv w)
theorem pw_lshr {x v : Int64} {y : Int32} (hd : decode (mC M) pc = .ok (.lshr, 1)) (hv : x >>> (y.toInt64 &&& 63) = v) (k : PW M d n (pc + 1) ls (.long v :: st) h Q) : PW M d n pc ls (.int y :: .long x :: st) h Q := pw_lift k (fun G hx hb w => lv_lshr hx hb hd hv w)
theorem pw_lushr {x v : Int64} {y : Int32} (hd : decode (mC M) pc = .ok (.lushr, 1)) (hv : (x.toUInt64 >>> (y.toInt64.toUInt64 &&& Int64.toUInt64 63)).toInt64 = v) (k : PW M d n (pc + 1) ls (.long v :: st) h Q) : PW M d n pc ls (.int y :: .long x :: st) h Q := pw_lift k (fun G hx hb w => lv_lushr hx hb hd hv w)
theorem pw_i2l {x : Int32} {v : Int64} (hd : decode (mC M) pc = .ok (.i2l, 1)) (hv : x.toInt64 = v) (k : PW M d n (pc + 1) ls (.long v :: st) h Q) : PW M d n pc ls (.int x :: st) h Q := pw_lift k (fun G hx hb w => lv_i2l hx hb hd hv w)
theorem pw_l2i {x : Int64} {v : Int32} (hd : decode (mC M) pc = .ok (.l2i, 1)) (hv : x.toInt32 = v) (k : PW M d n (pc + 1) ls (.int v :: st) h Q) : PW M d n pc ls (.long x :: st) h Q := pw_lift k (fun G hx hb w => lv_l2i hx hb hd hv w)
theorem pw_i2c {x v : Int32} (hd : decode (mC M) pc = .ok (.i2c, 1)) (hv : (x.toUInt32 % 65536).toInt32 = v) (k : PW M d n (pc + 1) ls (.int v :: st) h Q) : PW M d n pc ls (.int x :: st) h Q := pw_lift k (fun G hx hb w => lv_i2c hx hb hd hv w)
theorem pw_lcmp {x y : Int64} (hd : decode (mC M) pc = .ok (.lcmp, 1)) (k : PW M d n (pc + 1) ls (.int (lg_cmp x y) :: st) h Q) : PW M d n pc ls (.long y :: .long x :: st) h Q := pw_lift k (fun G hx hb w => W.lcmp hx hb hd w)
theorem pw_dup {v : Value} (hd : decode (mC M) pc = .ok (.dup, 1)) (hv : v.category = 1) (k : PW M d n (pc + 1) ls (v :: v :: st) h Q) : PW M d n pc ls (v :: st) h Q := pw_lift k (fun G hx hb w => lv_dup hx hb hd (by rw [cv_cat]; exact hv) w)
theorem pw_dup2 {v u : Value} (hd : decode (mC M) pc = .ok (.dup2, 1)) (hv : v.category = 1) (hu : u.category = 1) (k : PW M d n (pc + 1) ls (v :: u :: v :: u :: st) h Q) : PW M d n pc ls (v :: u :: st) h Q := pw_lift k (fun G hx hb w => lv_dup2_11 hx hb hd (by rw [cv_cat]; exact hv) (by rw [cv_cat]; exact hu) w)
theorem pw_pop {v : Value} (hd : decode (mC M) pc = .ok (.pop, 1)) (hv : v.category = 1) (k : PW M d n (pc + 1) ls (st) h Q) : PW M d n pc ls (v :: st) h Q := pw_lift k (fun G hx hb w => lv_pop hx hb hd (by rw [cv_cat]; exact hv) w)
theorem pw_goto {off : Int} {tgt : Nat} (hd : decode (mC M) pc = .ok (.goto off, 3)) (ht : (pc : Int) + off = (tgt : Int)) (k : PW M d n tgt ls st h Q) : PW M d n pc ls st h Q := pw_lift k (fun G hx hb w => lv_goto hx hb hd ht w)
theorem pw_if_eq {x : Int32} {off : Int} {tgt : Nat} (hd : decode (mC M) pc = .ok (.ifCond .eq off, 3)) (ht : (pc : Int) + off = (tgt : Int)) (kt : x = 0 → PW M d n tgt ls st h Q) (kf : ¬ (x = 0) → PW M d n (pc + 3) ls st h Q) : PW M d n pc ls (.int x :: st) h Q := pw_if2 kt kf (fun G hx hb a b => lv_if_eq hx hb hd ht a b)
theorem pw_if_lt {x : Int32} {off : Int} {tgt : Nat} (hd : decode (mC M) pc = .ok (.ifCond .lt off, 3)) (ht : (pc : Int) + off = (tgt : Int)) (kt : x < 0 → PW M d n tgt ls st h Q) (kf : ¬ (x < 0) → PW M d n (pc + 3) ls st h Q) : PW M d n pc ls (.int x :: st) h Q := pw_if2 kt kf (fun G hx hb a b => lv_if_lt hx hb hd ht a b)
theorem pw_if_ge {x : Int32} {off : Int} {tgt : Nat} (hd : decode (mC M) pc = .ok (.ifCond .ge off, 3)) (ht : (pc : Int) + off = (tgt : Int)) (kt : 0 ≤ x → PW M d n tgt ls st h Q) (kf : ¬ (0 ≤ x) → PW M d n (pc + 3) ls st h Q) : PW M d n pc ls (.int x :: st) h Q := pw_if2 kt kf (fun G hx hb a b => lv_if_ge hx hb hd ht a b)
theorem pw_if_gt {x : Int32} {off : Int} {tgt : Nat} (hd : decode (mC M) pc = .ok (.ifCond .gt off, 3)) (ht : (pc : Int) + off = (tgt : Int)) (kt : 0 < x → PW M d n tgt ls st h Q) (kf : ¬ (0 < x) → PW M d n (pc + 3) ls st h Q) : PW M d n pc ls (.int x :: st) h Q := pw_if2 kt kf (fun G hx hb a b => lv_if_gt hx hb hd ht a b)
theorem pw_if_le {x : Int32} {off : Int} {tgt : Nat} (hd : decode (mC M) pc = .ok (.ifCond .le off, 3)) (ht : (pc : Int) + off = (tgt : Int)) (kt : x ≤ 0 → PW M d n tgt ls st h Q) (kf : ¬ (x ≤ 0) → PW M d n (pc + 3) ls st h Q) : PW M d n pc ls (.int x :: st) h Q := pw_if2 kt kf (fun G hx hb a b => lv_if_le hx hb hd ht a b)
theorem pw_icmp_eq {x y : Int32} {off : Int} {tgt : Nat} (hd : decode (mC M) pc = .ok (.if_icmp .eq off, 3)) (ht : (pc : Int) + off = (tgt : Int)) (kt : x = y → PW M d n tgt ls st h Q) (kf : ¬ (x = y) → PW M d n (pc + 3) ls st h Q) : PW M d n pc ls (.int y :: .int x :: st) h Q := pw_if2 kt kf (fun G hx hb a b => lv_icmp_eq hx hb hd ht a b)
theorem pw_icmp_lt {x y : Int32} {off : Int} {tgt : Nat} (hd : decode (mC M) pc = .ok (.if_icmp .lt off, 3)) (ht : (pc : Int) + off = (tgt : Int)) (kt : x < y → PW M d n tgt ls st h Q) (kf : ¬ (x < y) → PW M d n (pc + 3) ls st h Q) : PW M d n pc ls (.int y :: .int x :: st) h Q := pw_if2 kt kf (fun G hx hb a b => lv_icmp_lt hx hb hd ht a b)
theorem pw_icmp_ge {x y : Int32} {off : Int} {tgt : Nat} (hd : decode (mC M) pc = .ok (.if_icmp .ge off, 3)) (ht : (pc : Int) + off = (tgt : Int)) (kt : y ≤ x → PW M d n tgt ls st h Q) (kf : ¬ (y ≤ x) → PW M d n (pc + 3) ls st h Q) : PW M d n pc ls (.int y :: .int x :: st) h Q := pw_if2 kt kf (fun G hx hb a b => lv_icmp_ge hx hb hd ht a b)
theorem pw_icmp_gt {x y : Int32} {off : Int} {tgt : Nat} (hd : decode (mC M) pc = .ok (.if_icmp .gt off, 3)) (ht : (pc : Int) + off = (tgt : Int)) (kt : y < x → PW M d n tgt ls st h Q) (kf : ¬ (y < x) → PW M d n (pc + 3) ls st h Q) : PW M d n pc ls (.int y :: .int x :: st) h Q := pw_if2 kt kf (fun G hx hb a b => lv_icmp_gt hx hb hd ht a b)
theorem pw_icmp_le {x y : Int32} {off : Int} {tgt : Nat} (hd : decode (mC M) pc = .ok (.if_icmp .le off, 3)) (ht : (pc : Int) + off = (tgt : Int)) (kt : x ≤ y → PW M d n tgt ls st h Q) (kf : ¬ (x ≤ y) → PW M d n (pc + 3) ls st h Q) : PW M d n pc ls (.int y :: .int x :: st) h Q := pw_if2 kt kf (fun G hx hb a b => lv_icmp_le hx hb hd ht a b)
theorem pw_if_ne {x : Int32} {off : Int} {tgt : Nat} (hd : decode (mC M) pc = .ok (.ifCond .ne off, 3)) (ht : (pc : Int) + off = (tgt : Int)) (kt : ¬ x = 0 → PW M d n tgt ls st h Q) (kf : x = 0 → PW M d n (pc + 3) ls st h Q) : PW M d n pc ls (.int x :: st) h Q := pw_if2 (c := x = 0) kf kt (fun G hx hb a b => lv_if_ne hx hb hd ht b a)
theorem pw_icmp_ne {x y : Int32} {off : Int} {tgt : Nat} (hd : decode (mC M) pc = .ok (.if_icmp .ne off, 3)) (ht : (pc : Int) + off = (tgt : Int)) (kt : ¬ x = y → PW M d n tgt ls st h Q) (kf : x = y → PW M d n (pc + 3) ls st h Q) : PW M d n pc ls (.int y :: .int x :: st) h Q := pw_if2 (c := x = y) kf kt (fun G hx hb a b => lv_icmp_ne hx hb hd ht b a)
end PWR
end
section
theorem cv_int (G : PG) (x : Int32) : cv G (.int x) = .int x := rfl
theorem Rp.at {G : PG} {h : Hp} {H : Heap} (R : Rp G h H) {k : Nat} {c : Cel} (h0 : h.2 k = some c) : at_c G (ad G k) c H := (R.2.2.1 _ _ h0).2
theorem Rp.fr {G : PG} {h : Hp} {H : Heap} (R : Rp G h H) {k : Nat} {c : Cel} (h0 : h.2 k = some c) : fr G (ad G k) := by
  show G.2.2.1 ≤ ad G k
  rw [ad_lo (R.2.2.1 _ _ h0).1]
  omega
/-- class ci of vwCl, its name, fields, how many; its words are good -/
abbrev Cls (ci : Nat) (C : String) (T : u_T) (N : Nat) (ty : Nat → FieldType) : Prop := vwCl[ci]? = some (C, T, N) ∧ (∀ w ∈ u_ws C T N, w ∈ UU) ∧ (∀ k, k < N → parseFieldDescriptor (T k).2.2.1 = some (ty k)) ∧ (∀ a, a < N → ∀ b, b < N → a ≠ b → (T a).2.1 ≠ (T b).2.1)
def stF (fs : Nat → Value) (k : Nat) (v : Value) : Nat → Value := fun j => if j = k then v else fs j
theorem stF_cv (G : PG) (fs : Nat → Value) (k : Nat) (v : Value) (j : Nat) : updV (fun i => cv G (fs i)) k (cv G v) j = cv G (stF fs k v j) := by
  unfold updV stF
  by_cases e : j = k <;> simp [e]
theorem arr_cv (G : PG) (c : ClassId) (N : Nat) (fs : Nat → Value) (k : Nat) (v : Value) : arrV c N (updV (fun i => cv G (fs i)) k (cv G v)) = arrV c N (fun j => cv G (stF fs k v j)) := by
  congr 1
  funext j
  exact stF_cv G fs k v j
section PWH
variable {M : Mth} {d n pc : Nat} {ls : List (Option Value)} {st : List Value} {h : Hp} {Q : Out → Hp → Prop}
theorem pw_getfield {idx a ci k N : Nat} {C : String} {T : u_T} {ty : Nat → FieldType} {fs : Nat → Value} (hcl : Cls ci C T N ty) (hd : decode (mC M) pc = .ok (.getfield idx, 3)) (hc : h.2 a = some (.inr (ci, fs))) (hk : k < N) (hlk : Cond.fieldLink (mY M).cls idx (T k).1 (T k).2.1 (T k).2.2.1 ∈ UU) (kk : PW M d n (pc + 3) ls (fs k :: st) h Q) : PW M d n pc ls (.ref a :: st) h Q := by
  intro p l e R s m args below meth c G N9 H locs cells slots lsA C9 hc9 hs9 hR hS hv
  obtain ⟨r, h1, cell, q1, q2, q3, q4⟩ := hR.at hc
  obtain ⟨g1, g2, g3, g4⟩ := hcl
  have hr : r = (C, T, N) := Option.some.inj (h1.symm.trans g1)
  subst hr
  have hts := C9.2.1
  obtain ⟨hS9, hfc, kC, hkC, hkind⟩ := C9.2.2.2.2.1.1 ci _ g1
  obtain ⟨cf, kf, fi, f, hi, hsl⟩ := hS9 k hk
  exact W.getf C9.1.1 C9.1.2.1 C9.1.2.2.2.2.1 (hts _ hlk) hi (u_facts hfc hkC (u_lays hts g2 hk) hi).1 q1 (by rw [q3]; exact fun h => by cases h) (v := cv G (fs k)) (by rw [hsl]; exact q4 k hk) (g := F0 m pc lsA ((Value.ref a :: st).map (cv G))) rfl rfl hd (kk p l e R s m args below meth c G N9 H locs cells slots lsA C9 hc9 hs9 hR hS hv)
theorem pw_putfield {idx a ci k N : Nat} {C : String} {T : u_T} {ty : Nat → FieldType} {fs : Nat → Value} {v : Value} (hcl : Cls ci C T N ty) (hd : decode (mC M) pc = .ok (.putfield idx, 3)) (hc : h.2 a = some (.inr (ci, fs))) (hk : k < N) (hlk : Cond.fieldLink (mY M).cls idx (T k).1 (T k).2.1 (T k).2.2.1 ∈ UU) (hfin : (T k).2.2.2 = false) (hv : ∀ G : PG, narrow (ty k) (cv G v) = cv G v ∧ fits (ty k) (cv G v) = true) (kk : PW M d n (pc + 3) ls st (upH h a (.inr (ci, stF fs k v))) Q) : PW M d n pc ls (v :: .ref a :: st) h Q := by
  intro p l e R s m args below meth c G N9 H locs cells slots lsA C9 hc9 hs9 hR hS hw
  obtain ⟨r, h1, cell, q1, q2, q3, q4⟩ := hR.at hc
  obtain ⟨g1, g2, g3, g4⟩ := hcl
  have hr : r = (C, T, N) := Option.some.inj (h1.symm.trans g1)
  subst hr
  have hts := C9.2.1
  have hown := C9.1.2.2.2.2.1
  have hK := C9.2.2.2.2.1
  have hap := va_apart (own := (mY M).cls) hts g2 ty g3 g4 hK g1
  obtain ⟨hS9, hfc, kC, hkC, hkind⟩ := hK.1 ci _ g1
  obtain ⟨cf, kf, fi, f, hi, hsl⟩ := hS9 k hk
  have hlay := hts _ (g2 _ (u_in_lay hk))
  unfold u_lay at hlay
  rw [if_neg (by rw [hfin]; decide)] at hlay
  have hst := (u_facts hfc hkC (u_lays hts g2 hk) hi).1
  have h6 := u_store hfc hkC hkind hlay hi (g3 k hk) (hv G).1 (hv G).2
  refine W.putK C9.1.1 C9.1.2.1 (f := f) ⟨hown, hts _ hlk, ⟨_, _, _, hi⟩, hst⟩ (by rw [q2]; exact h6) q1 q3 (by rw [hsl]; exact k2_hasslot (q4 k hk)) (g := F0 m pc lsA ((v :: Value.ref a :: st).map (cv G))) rfl rfl hd fun H' e1 e2 e3 => ?_
  rw [hsl] at e1
  exact kk p l e R s m args below meth c G N9 H' _ cells slots lsA C9 hc9 hs9 (hR.put hc e2 e3 ⟨_, g1, t_OB.to (V := updV (fun i => cv G (fs i)) k (cv G v)) ⟨_, e1, q2, q3, t_set q4 hap hk (cv G v)⟩ (fun j _ => stF_cv G fs k v j)⟩) (hS.put e2 e3 (hR.fr hc)) hw
theorem pw_putfinal {idx a ci k N : Nat} {C : String} {T : u_T} {ty : Nat → FieldType} {fs : Nat → Value} {v : Value} (hcl : Cls ci C T N ty) (hd : decode (mC M) pc = .ok (.putfield idx, 3)) (hc : h.2 a = some (.inr (ci, fs))) (hk : k < N) (hlk : Cond.fieldLink (mY M).cls idx (T k).1 (T k).2.1 (T k).2.2.1 ∈ UU) (hfin : (T k).2.2.2 = true) (hin : (mY M).name = "<init>") (hdecl : (T k).1 = (mY M).cls) (hv : ∀ G : PG, narrow (ty k) (cv G v) = cv G v ∧ fits (ty k) (cv G v) = true) (kk : PW M d n (pc + 3) ls st (upH h a (.inr (ci, stF fs k v))) Q) : PW M d n pc ls (v :: .ref a :: st) h Q := by
  intro p l e R s m args below meth c G N9 H locs cells slots lsA C9 hc9 hs9 hR hS hw
  obtain ⟨r, h1, cell, q1, q2, q3, q4⟩ := hR.at hc
  obtain ⟨g1, g2, g3, g4⟩ := hcl
  have hr : r = (C, T, N) := Option.some.inj (h1.symm.trans g1)
  subst hr
  have hts := C9.2.1
  have hown := C9.1.2.2.2.2.1
  have hK := C9.2.2.2.2.1
  have hap := va_apart (own := (mY M).cls) hts g2 ty g3 g4 hK g1
  obtain ⟨hS9, hfc, kC, hkC, hkind⟩ := hK.1 ci _ g1
  obtain ⟨cf, kf, fi, f, hi, hsl⟩ := hS9 k hk
  have hlay := hts _ (g2 _ (u_in_lay hk))
  unfold u_lay at hlay
  rw [if_pos hfin] at hlay
  have hst := (u_facts hfc hkC (u_lays hts g2 hk) hi).1
  have hcf : m.cls = cf := by
    obtain ⟨_, _, c', _, _, _, -, -, hf', -, -, -, hown2, -⟩ := Cond.laysFinal_spec hlay
    have e1 : c' = cf := by have := hi.symm.trans hf'; simp at this; exact this.1.symm
    rw [hdecl] at hown2
    rw [← e1]; exact Option.some.inj (hown.symm.trans hown2)
  have h6 := u_fits hfc hkC hkind (Or.inr hlay) hi (g3 k hk) (hv G).1 (hv G).2
  refine W.putFinK C9.1.1 C9.1.2.1 hown (hts _ hlk) hi hst hcf (C9.1.2.2.2.2.2.trans hin) (by rw [q2]; exact h6) q1 q3 (by rw [hsl]; exact k2_hasslot (q4 k hk)) (g := F0 m pc lsA ((v :: Value.ref a :: st).map (cv G))) rfl rfl hd fun H' e1 e2 e3 => ?_
  rw [hsl] at e1
  exact kk p l e R s m args below meth c G N9 H' _ cells slots lsA C9 hc9 hs9 (hR.put hc e2 e3 ⟨_, g1, t_OB.to (V := updV (fun i => cv G (fs i)) k (cv G v)) ⟨_, e1, q2, q3, t_set q4 hap hk (cv G v)⟩ (fun j _ => stF_cv G fs k v j)⟩) (hS.put e2 e3 (hR.fr hc)) hw
theorem pw_iald {a n0 : Nat} {f : Nat → Value} {i : Int32} (hd : decode (mC M) pc = .ok (.iaload, 1)) (hc : h.2 a = some (.inl (.int, n0, f))) (hin : vp_in i n0) (kk : PW M d n (pc + 1) ls (f i.toNatClampNeg :: st) h Q) : PW M d n pc ls (.int i :: .ref a :: st) h Q := by
  intro p l e R s m args below meth c G N9 H locs cells slots lsA C9 hc9 hs9 hR hS hw
  have hlt : i.toNatClampNeg < n0 := Nat.not_le.mp fun q => hin (Or.inr q)
  exact W.iald (v := cv G (f i.toNatClampNeg)) C9.1.1 C9.1.2.1 (hR.at hc) ((C9.2.2.2.2.1.2 0 _ rfl).1 n0 (fun j => cv G (f j))) (fun q => by cases q) (by show ¬ (i < 0 ∨ (arrV _ _ _).slots.size ≤ _); rw [arrV_size]; exact hin) (by show (arrV _ _ _).slots[_]? = _; rw [arrV_read _ _ hlt]) (g := F0 m pc lsA ((Value.int i :: Value.ref a :: st).map (cv G))) rfl rfl hd (kk p l e R s m args below meth c G N9 H locs cells slots lsA C9 hc9 hs9 hR hS hw)
theorem pw_zald {a n0 : Nat} {f : Nat → Value} {i : Int32} (hd : decode (mC M) pc = .ok (.baload, 1)) (hc : h.2 a = some (.inl (.boolean, n0, f))) (hin : vp_in i n0) (kk : PW M d n (pc + 1) ls (f i.toNatClampNeg :: st) h Q) : PW M d n pc ls (.int i :: .ref a :: st) h Q := by
  intro p l e R s m args below meth c G N9 H locs cells slots lsA C9 hc9 hs9 hR hS hw
  have hlt : i.toNatClampNeg < n0 := Nat.not_le.mp fun q => hin (Or.inr q)
  exact W.zald (v := cv G (f i.toNatClampNeg)) C9.1.1 C9.1.2.1 (hR.at hc) ((C9.2.2.2.2.1.2 1 _ rfl).1 n0 (fun j => cv G (f j))) (fun q => by cases q) (by show ¬ (i < 0 ∨ (arrV _ _ _).slots.size ≤ _); rw [arrV_size]; exact hin) (by show (arrV _ _ _).slots[_]? = _; rw [arrV_read _ _ hlt]) (g := F0 m pc lsA ((Value.int i :: Value.ref a :: st).map (cv G))) rfl rfl hd (kk p l e R s m args below meth c G N9 H locs cells slots lsA C9 hc9 hs9 hR hS hw)
theorem pw_cald {a n0 : Nat} {f : Nat → Value} {i : Int32} (hd : decode (mC M) pc = .ok (.caload, 1)) (hc : h.2 a = some (.inl (.char, n0, f))) (hin : vp_in i n0) (kk : PW M d n (pc + 1) ls (f i.toNatClampNeg :: st) h Q) : PW M d n pc ls (.int i :: .ref a :: st) h Q := by
  intro p l e R s m args below meth c G N9 H locs cells slots lsA C9 hc9 hs9 hR hS hw
  have hlt : i.toNatClampNeg < n0 := Nat.not_le.mp fun q => hin (Or.inr q)
  exact W.cald (v := cv G (f i.toNatClampNeg)) C9.1.1 C9.1.2.1 (hR.at hc) ((C9.2.2.2.2.1.2 2 _ rfl).1 n0 (fun j => cv G (f j))) (fun q => by cases q) (by show ¬ (i < 0 ∨ (arrV _ _ _).slots.size ≤ _); rw [arrV_size]; exact hin) (by show (arrV _ _ _).slots[_]? = _; rw [arrV_read _ _ hlt]) (g := F0 m pc lsA ((Value.int i :: Value.ref a :: st).map (cv G))) rfl rfl hd (kk p l e R s m args below meth c G N9 H locs cells slots lsA C9 hc9 hs9 hR hS hw)
theorem pw_aald {a n0 t0 : Nat} {E : String} {f : Nat → Value} {i : Int32} (hd : decode (mC M) pc = .ok (.aaload, 1)) (hc : h.2 a = some (.inl (.object E, n0, f))) (ht : tyl[t0]? = some (.object E)) (hin : vp_in i n0) (kk : PW M d n (pc + 1) ls (f i.toNatClampNeg :: st) h Q) : PW M d n pc ls (.int i :: .ref a :: st) h Q := by
  intro p l e R s m args below meth c G N9 H locs cells slots lsA C9 hc9 hs9 hR hS hw
  have hlt : i.toNatClampNeg < n0 := Nat.not_le.mp fun q => hin (Or.inr q)
  have ht9 : (tys G)[t0]? = some (G.2.1 (.object E), .object E) := by unfold tys; rw [List.getElem?_map, ht]; rfl
  exact W.aald (v := cv G (f i.toNatClampNeg)) (ty := .object E) C9.1.1 C9.1.2.1 (hR.at hc) ((C9.2.2.2.2.1.2 t0 _ ht9).1 n0 (fun j => cv G (f j))) rfl (fun q => by cases q) (by show ¬ (i < 0 ∨ (arrV _ _ _).slots.size ≤ _); rw [arrV_size]; exact hin) (by show (arrV _ _ _).slots[_]? = _; rw [arrV_read _ _ hlt]) (g := F0 m pc lsA ((Value.int i :: Value.ref a :: st).map (cv G))) rfl rfl hd (kk p l e R s m args below meth c G N9 H locs cells slots lsA C9 hc9 hs9 hR hS hw)
theorem pw_iast {a n0 : Nat} {f : Nat → Value} {i : Int32} {x : Int32} (hd : decode (mC M) pc = .ok (.iastore, 1)) (hc : h.2 a = some (.inl (.int, n0, f))) (hin : vp_in i n0) (kk : PW M d n (pc + 1) ls st (upH h a (.inl (.int, n0, stF f i.toNatClampNeg (.int x)))) Q) : PW M d n pc ls (.int x :: .int i :: .ref a :: st) h Q := by
  intro p l e_ R s m args below meth c G N9 H locs cells slots lsA C9 hc9 hs9 hR hS hw
  refine W.iast C9.1.1 C9.1.2.1 (hR.at hc) ((C9.2.2.2.2.1.2 0 _ rfl).1 n0 (fun j => cv G (f j))) (fun q => by cases q) (by show ¬ (i < 0 ∨ (arrV _ _ _).slots.size ≤ _); rw [arrV_size]; exact hin) (g := F0 m pc lsA ((Value.int x :: Value.int i :: Value.ref a :: st).map (cv G))) rfl rfl hd fun H1 e z oq => ?_
  refine kk p l e_ R s m args below meth c G N9 H1 _ cells slots lsA C9 hc9 hs9 (hR.put hc z oq ?_) (hS.put z oq (hR.fr hc)) hw
  show H1[ad G a]? = some (arrV _ _ _)
  rw [e]
  rw [arrV_store]
  exact congrArg some (arr_cv G _ n0 f _ (.int x))
theorem pw_zast {a n0 : Nat} {f : Nat → Value} {i : Int32} {x : Int32} (hd : decode (mC M) pc = .ok (.bastore, 1)) (hc : h.2 a = some (.inl (.boolean, n0, f))) (hin : vp_in i n0) (hn : narrow .boolean (.int x) = .int x) (kk : PW M d n (pc + 1) ls st (upH h a (.inl (.boolean, n0, stF f i.toNatClampNeg (.int x)))) Q) : PW M d n pc ls (.int x :: .int i :: .ref a :: st) h Q := by
  intro p l e_ R s m args below meth c G N9 H locs cells slots lsA C9 hc9 hs9 hR hS hw
  refine W.zast C9.1.1 C9.1.2.1 (hR.at hc) ((C9.2.2.2.2.1.2 1 _ rfl).1 n0 (fun j => cv G (f j))) (fun q => by cases q) (by show ¬ (i < 0 ∨ (arrV _ _ _).slots.size ≤ _); rw [arrV_size]; exact hin) (g := F0 m pc lsA ((Value.int x :: Value.int i :: Value.ref a :: st).map (cv G))) rfl rfl hd fun H1 e z oq => ?_
  refine kk p l e_ R s m args below meth c G N9 H1 _ cells slots lsA C9 hc9 hs9 (hR.put hc z oq ?_) (hS.put z oq (hR.fr hc)) hw
  show H1[ad G a]? = some (arrV _ _ _)
  rw [e, hn]
  rw [arrV_store]
  exact congrArg some (arr_cv G _ n0 f _ (.int x))
theorem pw_cast {a n0 : Nat} {f : Nat → Value} {i : Int32} {x : Int32} (hd : decode (mC M) pc = .ok (.castore, 1)) (hc : h.2 a = some (.inl (.char, n0, f))) (hin : vp_in i n0) (hn : narrow .char (.int x) = .int x) (kk : PW M d n (pc + 1) ls st (upH h a (.inl (.char, n0, stF f i.toNatClampNeg (.int x)))) Q) : PW M d n pc ls (.int x :: .int i :: .ref a :: st) h Q := by
  intro p l e_ R s m args below meth c G N9 H locs cells slots lsA C9 hc9 hs9 hR hS hw
  refine W.cast C9.1.1 C9.1.2.1 (hR.at hc) ((C9.2.2.2.2.1.2 2 _ rfl).1 n0 (fun j => cv G (f j))) (fun q => by cases q) (by show ¬ (i < 0 ∨ (arrV _ _ _).slots.size ≤ _); rw [arrV_size]; exact hin) (g := F0 m pc lsA ((Value.int x :: Value.int i :: Value.ref a :: st).map (cv G))) rfl rfl hd fun H1 e z oq => ?_
  refine kk p l e_ R s m args below meth c G N9 H1 _ cells slots lsA C9 hc9 hs9 (hR.put hc z oq ?_) (hS.put z oq (hR.fr hc)) hw
  show H1[ad G a]? = some (arrV _ _ _)
  rw [e, hn]
  rw [arrV_store]
  exact congrArg some (arr_cv G _ n0 f _ (.int x))
theorem pw_aast {a n0 t0 b ci : Nat} {E : String} {f fs : Nat → Value} {T : u_T} {N1 : Nat} {i : Int32} (hd : decode (mC M) pc = .ok (.aastore, 1)) (hc : h.2 a = some (.inl (.object E, n0, f))) (ht : tyl[t0]? = some (.object E)) (hb : h.2 b = some (.inr (ci, fs))) (hcl : vwCl[ci]? = some (E, T, N1)) (hin : vp_in i n0) (kk : PW M d n (pc + 1) ls st (upH h a (.inl (.object E, n0, stF f i.toNatClampNeg (.ref b)))) Q) : PW M d n pc ls (.ref b :: .int i :: .ref a :: st) h Q := by
  intro p l e_ R s m args below meth c G N9 H locs cells slots lsA C9 hc9 hs9 hR hS hw
  have hlt : i.toNatClampNeg < n0 := Nat.not_le.mp fun q => hin (Or.inr q)
  have h0 : ¬ i < 0 := fun q => hin (Or.inl q)
  have ht9 : (tys G)[t0]? = some (G.2.1 (.object E), .object E) := by unfold tys; rw [List.getElem?_map, ht]; rfl
  obtain ⟨r', hr', cellV, g1, g2, g3, -⟩ := hR.at hb
  have hcls := (C9.2.2.2.2.1.1 ci _ hcl).2
  obtain ⟨kA, comp, k1, k2, k3, -⟩ := (C9.2.2.2.2.1.2 t0 _ ht9).2
  have hcomp : comp = G.1.1 ci := Option.some.inj (k3.symm.trans hcls.1)
  subst hcomp
  obtain ⟨kC, hkC, -⟩ := hcls.2
  refine W.aast C9.1.1 C9.1.2.1 (hR.at hc) (fun q h => by cases h) (fun h => by cases h) k1 k2 rfl hkC ⟨h0, by show _ < (arrV _ _ _).slots.size; rw [arrV_size]; exact hlt⟩ g1 (fun q h => by rw [g3] at h; cases h) (by rw [g2]; exact hkC) (by rw [g2]; exact va_assign hcls) (g := F0 m pc lsA ((Value.ref b :: Value.int i :: Value.ref a :: st).map (cv G))) rfl rfl hd fun H1 e z oq => ?_
  refine kk p l e_ R s m args below meth c G N9 H1 _ cells slots lsA C9 hc9 hs9 (hR.put hc z oq ?_) (hS.put z oq (hR.fr hc)) hw
  show H1[ad G a]? = some (arrV _ _ _)
  rw [e, arrV_store]
  exact congrArg some (arr_cv G _ n0 f _ (.ref b))
/-- new C: at the logical address k that is next -/
theorem pw_new {idx ci k N z : Nat} {C : String} {T : u_T} {ty : Nat → FieldType} {fs : Nat → Value} (hcl : Cls ci C T N ty) (hd : decode (mC M) pc = .ok (.new idx, 3)) (hk : k < 1000) (hz : h.1 = some z) (hL : ∀ G : PG, (mK M = 2 → LG G) → (∀ j, j < 171 → G.2.2.2 j = G.2.2.2 5000 + lay j) → G.2.2.2 k = G.2.2.2 5000 + z) (hlk : Cond.classLink (mY M).cls idx C ∈ UU) (hins : Cond.instantiable C N ∈ UU) (hini : Cond.initialized C ∈ UU) (hfs : ∀ j, j < N → ∀ G : PG, defaultValue (ty j) = cv G (fs j)) (hn : 1 ≤ n) (hN : N ≤ 1000) (kk : PW M d (n - 1) (pc + 3) ls (.ref k :: st) (some (z + 1), (upH h k (.inr (ci, fs))).2) Q) : PW M d n pc ls st h Q := by
  intro p l e_ R s m args below meth c G N9 H locs cells slots lsA C9 hc9 hs9 hR hS hw
  obtain ⟨g1, g2, g3, g4⟩ := hcl
  have hts := C9.2.1
  have hKn := C9.2.2.2.2.1.1 ci _ g1
  obtain ⟨-, -, -, -, -, -, -, ⟨r1, r2, r3, r4⟩, -⟩ := id C9
  refine W.newcK C9.1.1 C9.1.2.1 C9.1.2.2.2.2.1 (hts _ hlk) (hts _ hins) (hts _ hini) (g := F0 m pc lsA (st.map (cv G))) rfl hd (by omega) (by omega) hKn.2.1 rfl fun H1 kC hkC e1 z1 o1 => ?_
  have hL9 : G.2.2.2 k = G.2.2.2 5000 + z := hL G (fun z9 => (C9.2.2.2.2.2.2.2.2.2 z9).2.1) (hR.1 _ hz).2
  have ea : ad G k = H.size := by rw [ad_lo hk, (hR.1 _ hz).1, hL9]; omega
  have w := kk p l e_ R s m args below meth c G N9 H1 locs (cells + 1) (slots + N) lsA C9 (by omega) (by omega) (hR.push hk hz hL9 z1 o1 ⟨_, g1, (u_born ty hts g2 hKn hkC e1 g3).to (fun j hj => hfs j hj G)⟩) ⟨Nat.le_trans hS.1 (by omega), fun x h1 h2 => (o1 x (Nat.lt_of_lt_of_le h1 hS.1)).trans (hS.2.1 x h1 h2), hS.2.2⟩ hw
  rw [show (Value.ref k :: st).map (cv G) = Value.ref H.size :: st.map (cv G) by rw [← ea]; rfl] at w
  exact w
theorem pw_newarray {atype : ArrayType} {t0 k N z : Nat} {ty : FieldType} {x : Int32} {v0 : Value} (hd : decode (mC M) pc = .ok (.newarray atype, 2)) (hty : newarray.typeOf atype = ty) (ht : tyl[t0]? = some ty) (hra : ∀ (U : State) (cA : ClassId), va_RA U cA ty → U.vm.findClass ("[" ++ ty.toString) = some cA) (hk : k < 1000) (hz : h.1 = some z) (hL : ∀ G : PG, (mK M = 2 → LG G) → (∀ j, j < 171 → G.2.2.2 j = G.2.2.2 5000 + lay j) → G.2.2.2 k = G.2.2.2 5000 + z) (harr : Cond.arrayClass ty ∈ UU) (hx : ¬ x < 0) (hN : x.toNatClampNeg = N) (hN9 : N ≤ 1000) (hb : N * componentBytes ty ≤ 536870912) (hv0 : ∀ G : PG, defaultValue ty = cv G v0) (hn : 1 ≤ n) (kk : PW M d (n - 1) (pc + 2) ls (.ref k :: st) (some (z + 1), (upH h k (.inl (ty, N, fun _ => v0))).2) Q) : PW M d n pc ls (.int x :: st) h Q := by
  subst hty
  intro p l e_ R s m args below meth c G N9 H locs cells slots lsA C9 hc9 hs9 hR hS hw
  have hts := C9.2.1
  obtain ⟨-, -, -, -, -, -, -, ⟨r1, r2, r3, r4⟩, -⟩ := id C9
  have ht9 : (tys G)[t0]? = some (G.2.1 (newarray.typeOf atype), newarray.typeOf atype) := by unfold tys; rw [List.getElem?_map, ht]; rfl
  refine va_newaK C9.1.1 C9.1.2.1 (hts _ harr) (g := F0 m pc lsA ((Value.int x :: st).map (cv G))) rfl hd rfl hx hN hb (by omega) (by omega) rfl fun H1 cA e1 z1 o1 hAr hNm => ?_
  have ec : G.2.1 (newarray.typeOf atype) = cA := Option.some.inj ((hra s _ (C9.2.2.2.2.1.2 t0 _ ht9).2).symm.trans hNm)
  have hL9 : G.2.2.2 k = G.2.2.2 5000 + z := hL G (fun z9 => (C9.2.2.2.2.2.2.2.2.2 z9).2.1) (hR.1 _ hz).2
  have ea : ad G k = H.size := by rw [ad_lo hk, (hR.1 _ hz).1, hL9]; omega
  have w := kk p l e_ R s m args below meth c G N9 H1 locs (cells + 1) (slots + N) lsA C9 (by omega) (by omega) (hR.push hk hz hL9 z1 o1 (by
    show H1[H.size]? = some (arrV _ _ _)
    rw [e1, ec]
    exact congrArg some (congrArg (arrV cA N) (funext fun _ => hv0 G)))) ⟨Nat.le_trans hS.1 (by omega), fun x h1 h2 => (o1 x (Nat.lt_of_lt_of_le h1 hS.1)).trans (hS.2.1 x h1 h2), hS.2.2⟩ hw
  rw [show (Value.ref k :: st).map (cv G) = Value.ref H.size :: st.map (cv G) by rw [← ea]; rfl] at w
  exact w
theorem pw_anewarray {idx t0 k N z : Nat} {E : String} {x : Int32} (hd : decode (mC M) pc = .ok (.anewarray idx, 3)) (ht : tyl[t0]? = some (.object E)) (hk : k < 1000) (hz : h.1 = some z) (hL : ∀ G : PG, (mK M = 2 → LG G) → (∀ j, j < 171 → G.2.2.2 j = G.2.2.2 5000 + lay j) → G.2.2.2 k = G.2.2.2 5000 + z) (hlk : Cond.classLink (mY M).cls idx E ∈ UU) (hover : ∀ (G : PG) (U : State), OW G U → va_AO E U) (hx : ¬ x < 0) (hN : x.toNatClampNeg = N) (hN9 : N ≤ 1000) (hn : 1 ≤ n) (kk : PW M d (n - 1) (pc + 3) ls (.ref k :: st) (some (z + 1), (upH h k (.inl (.object E, N, fun _ => .null))).2) Q) : PW M d n pc ls (.int x :: st) h Q := by
  subst hN
  intro p l e_ R s m args below meth c G N9 H locs cells slots lsA C9 hc9 hs9 hR hS hw
  have hts := C9.2.1
  obtain ⟨-, -, -, -, -, -, -, ⟨r1, r2, r3, r4⟩, -⟩ := id C9
  have ht9 : (tys G)[t0]? = some (G.2.1 (.object E), .object E) := by unfold tys; rw [List.getElem?_map, ht]; rfl
  refine W.anew C9.1.1 C9.1.2.1 C9.1.2.2.2.2.1 (hts _ hlk) (va_AO.use (hover G s C9.2.2.2.2.2.1)) (g := F0 m pc lsA ((Value.int x :: st).map (cv G))) rfl hd rfl hx (by omega) (by omega) (by omega) fun cA kA comp f1 f2 f3 f4 => ?_
  obtain ⟨kA9, comp9, u1, u2, u3, u4⟩ := (C9.2.2.2.2.1.2 t0 _ ht9).2
  have ec : G.2.1 (.object E) = cA := Option.some.inj (u4.symm.trans f1)
  generalize hH1 : H.push ({ cls := cA, slots := Array.replicate x.toNatClampNeg .null, vm := .none } : Cell) = H1
  have z1 : H1.size = H.size + 1 := by rw [← hH1, Array.size_push]
  have e1 : H1[H.size]? = some (arrV cA x.toNatClampNeg (fun _ => .null)) := by rw [← hH1, Array.getElem?_push_size, ← arrV_new]
  have o1 : ∀ q : Nat, q < H.size → H1[q]? = H[q]? := fun q hq => by rw [← hH1, Array.getElem?_push, if_neg (Nat.ne_of_lt hq)]
  have hL9 : G.2.2.2 k = G.2.2.2 5000 + z := hL G (fun z9 => (C9.2.2.2.2.2.2.2.2.2 z9).2.1) (hR.1 _ hz).2
  have ea : ad G k = H.size := by rw [ad_lo hk, (hR.1 _ hz).1, hL9]; omega
  have w := kk p l e_ R s m args below meth c G N9 H1 locs (cells + 1) (slots + x.toNatClampNeg) lsA C9 (by omega) (by omega) (hR.push hk hz hL9 z1 o1 (by
    show H1[H.size]? = some (arrV _ _ _)
    rw [e1, ec]
    rfl)) ⟨Nat.le_trans hS.1 (by omega), fun x h1 h2 => (o1 x (Nat.lt_of_lt_of_le h1 hS.1)).trans (hS.2.1 x h1 h2), hS.2.2⟩ hw
  rw [show (Value.ref k :: st).map (cv G) = Value.ref H.size :: st.map (cv G) by rw [← ea]; rfl] at w
  exact w
theorem pw_objInit {idx a : Nat} (hd : decode (mC M) pc = .ok (.invokespecial idx, 3)) (hlk : Cond.methodLink (mY M).cls idx Lib.objectInit ∈ UU) (hins : Cond.instanceMethod Lib.objectInit ∈ UU) (hcode : Cond.code Lib.objectInit ⟨#[0xb1]⟩ 1 none ∈ UU) (hd1 : 1 ≤ d) (hr : (st.map fun v => v.category).sum ≤ 8) (kk : PW M d n (pc + 3) ls st h Q) : PW M d n pc ls (.ref a :: st) h Q := by
  intro p l e_ R s m args below meth c G N9 H locs cells slots lsA C9 hc9 hs9 hR hS hw
  have hts := C9.2.1
  obtain ⟨⟨k1, k2, k3, k4, k5, k6⟩, -, -, -, -, -, -, ⟨r1, r2, r3, r4⟩, -⟩ := id C9
  refine W.objInit k1 k2 k5 (hts _ hlk) (hts _ hins) (hts _ hcode) (g := F0 m pc lsA ((Value.ref a :: st).map (cv G))) rfl (hw.1.trans k3.symm) rfl hd (by omega) ?_ (kk p l e_ R s m args below meth c G N9 H locs cells slots lsA C9 hc9 hs9 hR hS hw)
  show 2 * 0 + _ + 12 ≤ _
  have e9 : ((st.map (cv G)).map fun v => v.category).sum = (st.map fun v => v.category).sum := by rw [List.map_map]; exact congrArg List.sum (List.map_congr_left fun v _ => cv_cat G v)
  rw [e9]
  omega
end PWH
end
section
theorem cats (G : PG) (st : List Value) : ((st.map (cv G)).map fun v => v.category).sum = (st.map fun v => v.category).sum := by rw [List.map_map]; exact congrArg List.sum (List.map_congr_left fun v _ => cv_cat G v)
/-- what a caller needs of a method's words: k: how many arguments its descriptor has -/
abbrev MOK (M : Mth) (k : Nat) : Prop := mH M = [] ∧ Cond.code (mY M) (mC M) (mL M) (mR M) ∈ UU ∧ Cond.initialized (mY M).cls ∈ UU ∧ ((mY M).cls ≠ "java/lang/invoke/MethodHandle" ∧ (mY M).cls ≠ "java/lang/invoke/VarHandle" ∧ (parseMethodDescriptor (mY M).desc).map (fun d => d.parameters.length) = some k) ∧ mL M ≤ 45
section PWC
variable {M : Mth} {d n pc : Nat} {ls : List (Option Value)} {st : List Value} {h : Hp} {Q : Out → Hp → Prop}
/-- E has been thrown at pc -/
def PT (M : Mth) (d n pc : Nat) (ls : List (Option Value)) (rest : List Value) (h : Hp) (Q : Out → Hp → Prop) (E : String) : Prop :=
  ∀ (p : Program) (l : Launch) (e : Env) (R : Room) (s : State) (m : MethodId) (args : Array Value) (below : List Frame) (meth : Method) (c : Code) (G : PG) (N : Nat) (H : Heap) (locs : List Loc) (cells slots : Nat) (lsA : Array Slot) (q : Addr) (ce : Cell),
    Cx M d N Q p l R s m args meth c G → cells + n ≤ N → slots + 1000 * n ≤ 1000 * N → Rp G h H → va_S (fr G) s.heap H locs → lvS G lsA (mL M) ls → H[q]? = some ce → ce.vm = .none → s.vm.findClass E = some ce.cls →
    vx_W p l e R s m args below meth c H locs cells slots (PZ M N Q below args s G) (F0 m pc lsA (rest.map (cv G))) q
theorem pt_out {rest : List Value} {E : String} (h1 : mK M = 1) (h2 : mH M = []) (hq : Q (.inr E) h) : PT M d n pc ls rest h Q E := by
  intro p l e R s m args below meth c G N H locs cells slots lsA q ce C9 hc hs hR hS hw hcell hv hcl
  obtain ⟨-, -, k3, k4, -⟩ := id C9
  rw [h2] at k4
  unfold PZ
  rw [if_neg (by omega), if_pos h1]
  exact vx_out (fun x hx => by rw [k4] at hx; cases hx) k3 hcell hv hcl (fun t ht ha => ⟨⟨h, hq, by rw [ht]; exact hR⟩, hS.F ht⟩) hS.2.2 (by omega) (by omega)
/-- caught by the row x of the table; the exception goes into the local j -/
theorem pt_catch {rest : List Value} {E : String} (hp : List (Nat × Nat × Nat × Nat)) (x : Nat × Nat × Nat × Nat) (hs0 : List (Nat × Nat × Nat × Nat)) {j w : Nat} {ls1 : List (Option Value)} (hsp : mH M = hp ++ x :: hs0) (hpass : ∀ z ∈ hp, z.2.2.2 ≠ 0 ∧ ∃ nm, Cond.classLink (mY M).cls z.2.2.2 nm ∈ UU ∧ (E, nm) ∈ ncs) (hcov : x.1 ≤ pc ∧ pc < x.2.1) (h0 : x.2.2.2 ≠ 0) (hlk : Cond.classLink (mY M).cls x.2.2.2 E ∈ UU) (hca : Cond.castable E E ∈ UN)
    (hd : (∃ k : Fin 4, (k : Nat) = j ∧ w = 1 ∧ decode (mC M) x.2.2.1 = .ok (.astore_n k, 1)) ∨ (w = 2 ∧ decode (mC M) x.2.2.1 = .ok (.astore j, 2))) (hj : j < mL M) (hnl : ∀ i, i + 1 = j → ∀ w, ls[i]? = some w → nlong w = true) (el : ls.set j none = ls1) (kk : PW M d n (x.2.2.1 + w) ls1 [] h Q) : PT M d n pc ls rest h Q E := by
  intro p l e R s m args below meth c G N H locs cells slots lsA q ce C9 hc hs hR hS hw hcell hv hcl
  obtain ⟨⟨k1, k2, k3, k4, k5, k6⟩, t1, t2, t3, t4, t5, -⟩ := id C9
  have hcast : (Cond.castable E E).before args s = true := va_Nw.use rfl (t5.2.2.1 _ hca)
  refine vx_catch k5 (tableOf hp) ⟨x.1, x.2.1, x.2.2.1, x.2.2.2⟩ (tableOf hs0) (by rw [t3, hsp]; simp [tableOf]) (fun z hz => Or.inr ?_) (by simp [covers, hcov.1, hcov.2]) h0 (t1 _ hlk) hcast hcell hv hcl ?_
  · obtain ⟨y, hy, rfl⟩ := List.mem_map.mp hz
    obtain ⟨b0, nm, b1, b2⟩ := hpass y hy
    exact ⟨b0, nm, t1 _ b1, t5.2.2.2.1 _ b2⟩
  · have key : ∀ lsB : Array Slot, lv_has lsB (mL M) ((j, Value.ref q) :: ((List.range ls.length).filterMap (fun j => (ls.getD j none).map (fun w => (j, cv G w)))).filter (fun q => !(q.1 == j) && !(q.1 + 1 == j && q.2.category == 2))) → W p l e R s m args below meth c H locs cells slots (PZ M N Q below args s G) (F0 m (x.2.2.1 + w) lsB []) := by
      intro lsB hB
      subst el
      refine kk p l e R s m args below meth c G N H locs cells slots lsB C9 hc hs hR hS ⟨hB.1, hB.2.1, fun i v hi => ?_⟩
      by_cases e1 : i = j
      · subst e1
        have hl : i < (ls.set i none).length := (List.getElem?_eq_some_iff.mp hi).1
        rw [List.length_set] at hl
        rw [List.getElem?_set_self hl] at hi
        cases hi
      · rw [List.getElem?_set_ne (Ne.symm e1)] at hi
        refine hB.2.2 (i, cv G v) (List.mem_cons_of_mem _ (List.mem_filter.mpr ⟨lvS.mem hi, ?_⟩))
        have e2 : (i == j) = false := beq_eq_false_iff_ne.mpr e1
        show (!(i == j) && !(i + 1 == j && (cv G v).category == 2)) = true
        rw [e2, cv_cat]
        by_cases e3 : i + 1 = j
        · have := nlong_cat (hnl i e3 _ hi)
          simp [this]
        · simp [e3]
    rcases hd with ⟨k, rfl, rfl, hd⟩ | ⟨rfl, hd⟩
    · exact lv_astore_n k1 k2 hd rfl hw.has hj rfl key
    · exact lv_astore k1 k2 hd hw.has hj rfl key
/-- behind a call -/
theorem pw_after {n' : Nat} {rest : List Value} {Q' : Out → Hp → Prop} {a : Array Value} {p : Program} {l : Launch} {e : Env} {R : Room} {s : State} {m : MethodId} {args : Array Value} {below : List Frame} {meth : Method} {c : Code} {G : PG} {N : Nat} {H : Heap} {locs : List Loc} {cells slots : Nat} {lsA : Array Slot} {stA : List Value}
    (C9 : Cx M d N Q p l R s m args meth c G) (hc : cells + n ≤ N) (hs : slots + 1000 * n ≤ 1000 * N) (hS : va_S (fr G) s.heap H locs) (hw : lvS G lsA (mL M) ls) (hn : n' ≤ n)
    (hr : vx_Run p l e R s m args below meth c H locs cells slots n' (1000 * n') (F0 m pc lsA stA) (rest.map (cv G)) (PQ G Q' a) (PX G Q') (fr G))
    (kr : ∀ r h', Q' (.inl r) h' → PW M d (n - n') (pc + 3) ls (r.toList ++ rest) h' Q) (kx : ∀ E h', Q' (.inr E) h' → PT M d (n - n') pc ls rest h' Q E) : W p l e R s m args below meth c H locs cells slots (PZ M N Q below args s G) (F0 m pc lsA stA) := by
  intro T hT X
  rcases hr T hT X with ⟨v, st₀, t, T', L, h0, X', hL, e1, e2, ⟨⟨r, h', hv, hq, hR'⟩, hF⟩, st⟩ | ⟨q, st₀, t, T', L, E, ce, h0, X', hL, e1, e2, ⟨⟨h', hq, hR'⟩, hF⟩, hce, hcv, hcl, st⟩
  · cases hv
    obtain ⟨k1, k2, k3⟩ := vx_keep h0 e1 hS (fun q _ h => h) (fun q h => h) hL hF
    have w := kr r h' hq p l e R s m args below meth c G N T'.heap (locs ++ L) (cells + n') (slots + 1000 * n') lsA C9 (by omega) (by omega) (by rw [e1]; exact hR') k3 hw
    rw [show (r.toList ++ rest).map (cv G) = (r.map (cv G)).toList ++ rest.map (cv G) by cases r <;> simp] at w
    obtain ⟨t2, a1, b1⟩ := w T' rfl X'
    exact ⟨t2, st t2 a1, b1⟩
  · obtain ⟨k1, k2, k3⟩ := vx_keep h0 e1 hS (fun q _ h => h) (fun q h => h) hL hF
    obtain ⟨t2, a1, b1⟩ := kx E h' hq p l e R s m args below meth c G N T'.heap (locs ++ L) (cells + n') (slots + 1000 * n') lsA q ce C9 (by omega) (by omega) (by rw [e1]; exact hR') k3 hw (by rw [e1]; exact hce) hcv hcl T' rfl X'
    exact ⟨t2, st.trans a1, b1⟩
theorem run_x {p : Program} {l : Launch} {e : Env} {R : Room} {s : State} {m : MethodId} {args : Array Value} {below : List Frame} {meth : Method} {c : Code} {H : Heap} {locs : List Loc} {cells slots mc ms : Nat} {g : JFrame} {rest : List Value} {Qa : State → Outcome → State → Prop} {XC : String → State → State → Prop} {free : Addr → Prop} (h : va_Run p l e R s m args below meth c H locs cells slots mc ms g rest Qa free) : vx_Run p l e R s m args below meth c H locs cells slots mc ms g rest Qa XC free :=
  fun T hT X => Or.inl (h T hT X)
theorem run_0 {G : PG} {Q' : Out → Hp → Prop} {a : Array Value} {p : Program} {l : Launch} {e : Env} {R : Room} {s : State} {m : MethodId} {args : Array Value} {below : List Frame} {meth : Method} {c : Code} {H : Heap} {locs : List Loc} {cells slots mc ms : Nat} {g : JFrame} {rest : List Value} {free : Addr → Prop} (h : va_Run p l e R s m args below meth c H locs cells slots mc ms g rest (PQ G Q' a) free) : vx_Run p l e R s m args below meth c H locs cells slots mc ms g rest (PQ G (fun o h' => ∃ r, o = .inl r ∧ Q' (.inl r) h') a) (PX G (fun o h' => ∃ r, o = .inl r ∧ Q' (.inl r) h')) free := by
  intro T hT X
  obtain ⟨v, st₀, t, T', L, h0, X', hL, e1, e2, ⟨⟨r, h', a1, a2, a3⟩, a4⟩, st⟩ := h T hT X
  exact Or.inl ⟨v, st₀, t, T', L, h0, X', hL, e1, e2, ⟨⟨r, h', a1, ⟨r, rfl, a2⟩, a3⟩, a4⟩, st⟩
theorem wsM_eq {M' : Mth} (h : mH M' = []) : wsM M' = .code (mY M') (mC M') (mL M') (mR M') :: UU := if_pos h
theorem good_ws {M' : Mth} {k : Nat} (ok : MOK M' k) : GoodIn UU (wsM M') := by
  rw [wsM_eq ok.1]
  intro w hw
  rcases List.mem_cons.mp hw with e | hw
  · rw [e]; exact UU_good _ ok.2.1
  · exact UU_good _ hw
theorem call_B {M' : Mth} {k d' n' idx N : Nat} {p : Program} {l : Launch} {R : Room} {s : State} {m : MethodId} {args : Array Value} {meth : Method} {c : Code} {G : PG} (C9 : Cx M d N Q p l R s m args meth c G) (ok : MOK M' k) (hlk : Cond.methodLink (mY M).cls idx (mY M') ∈ UU) (hd : d' + 1 ≤ d) : CallB R s args (mY M).cls idx (mY M') (mC M') (mL M') (mR M') (wsM M') (rmd d' n') n' (1000 * n') k := by
  obtain ⟨-, t1, -, -, -, -, -, ⟨r1, r2, r3, r4⟩, -⟩ := C9
  obtain ⟨o1, o2, o3, o4, o5⟩ := id ok
  exact callB_of k t1 (good_ws ok) (wsM_eq o1) rfl rfl (t1 _ o3) (t1 _ hlk) o4 ⟨by show d' + 1 ≤ _; omega, by show 8 + (mL M' + 11) + 64 * d' ≤ _; omega⟩
theorem pre_S {As : List Value} {G : PG} {s : State} {H : Heap} {locs : List Loc} (hR : Rp G h H) (hK : va_K G.1 vwCl (tys G) s) (hO : OW G s) (hS : va_S (fr G) s.heap H locs) : PreS s H (PP G As h) (As.map (cv G)) :=
  ⟨PP.blind, fun U hU hW => ⟨rfl, by rw [hU]; exact hR, va_K.moved hW.alike hK, hO.go hS hU hW, by rw [hU]; exact hR.2.1⟩⟩
theorem pw_callS {M' : Mth} {idx d' n' k : Nat} {As rest : List Value} {Q' : Out → Hp → Prop} (ct : CT M' d' n' As h Q') (ok : MOK M' k) (hd : decode (mC M) pc = .ok (.invokestatic idx, 3)) (hlk : Cond.methodLink (mY M).cls idx (mY M') ∈ UU) (hst : Cond.static (mY M') ∈ UU) (hk : As.length = k) (e : st = As.reverse ++ rest) (hd' : d' + 1 ≤ d) (hn : n' ≤ n) (hr : (rest.map fun v => v.category).sum ≤ 8)
    (kr : ∀ r h', Q' (.inl r) h' → PW M d (n - n') (pc + 3) ls (r.toList ++ rest) h' Q) (kx : ∀ E h', Q' (.inr E) h' → PT M d (n - n') pc ls rest h' Q E) : PW M d n pc ls st h Q := by
  subst e
  intro p l e_ R s m args below meth c G N H locs cells slots lsA C9 hc hs hR hS hw
  obtain ⟨⟨k1, k2, k3, k4, k5, k6⟩, t1, t2, t3, t4, t5, t6, ⟨r1, r2, r3, r4⟩, t8, t9⟩ := id C9
  have S : CallFix p m c (mC M) (mL M) s args UU (mY M).cls := ⟨k1, k2, k3, k5, t1⟩
  have cb : CallB R s args (mY M).cls idx (mY M') (mC M') (mL M') (mR M') (wsM M') (rmd d' n') n' (1000 * n') k ∧ (Cond.static (mY M')).before args s = true := ⟨call_B C9 ok hlk hd', t1 _ hst⟩
  have hroom : cells + n' ≤ R.cells ∧ slots + 1000 * n' ≤ R.slots := ⟨by omega, by omega⟩
  have hstk : (As.reverse ++ rest).map (cv G) = (As.map (cv G)).reverse ++ rest.map (cv G) := by rw [List.map_append, List.map_reverse]
  have hsum : 2 * (F0 m pc lsA ((As.reverse ++ rest).map (cv G))).monitorRoom + ((rest.map (cv G)).map fun v => v.category).sum ≤ 8 := by
    rw [cats]
    show 2 * 0 + _ ≤ 8
    omega
  have h9 := ct l t8 G
  by_cases m0 : mK M' = 0
  · rw [if_pos m0] at h9
    exact pw_after C9 hc hs hS hw hn (run_x (va_runS S h9 cb (pre_S hR t4 t5 hS) rfl (by rw [List.length_map]; exact hk) hw.1 hstk hsum hd hroom)) kr kx
  · rw [if_neg m0] at h9
    exact pw_after C9 hc hs hS hw hn (vx_runS S h9 cb (pre_S hR t4 t5 hS) rfl (by rw [List.length_map]; exact hk) hw.1 hstk hsum hd hroom) kr kx
/-- a static call of a method with handlers (it returns) -/
theorem pw_callSW {M' : Mth} {idx d' n' k : Nat} {As rest : List Value} {Q' : Out → Hp → Prop} (ct : CT M' d' n' As h Q') (m0 : mK M' = 0) (hne : mH M' ≠ []) (hcode : Cond.codeWith (mY M') (mC M') (mL M') (mR M') (mH M') ∈ UU) (hini : Cond.initialized (mY M').cls ∈ UU) (hcl : (mY M').cls ≠ "java/lang/invoke/MethodHandle" ∧ (mY M').cls ≠ "java/lang/invoke/VarHandle" ∧ (parseMethodDescriptor (mY M').desc).map (fun d => d.parameters.length) = some k) (hL : mL M' ≤ 45) (hd : decode (mC M) pc = .ok (.invokestatic idx, 3)) (hlk : Cond.methodLink (mY M).cls idx (mY M') ∈ UU) (hst : Cond.static (mY M') ∈ UU) (hk : As.length = k) (e : st = As.reverse ++ rest) (hd' : d' + 1 ≤ d) (hn : n' ≤ n) (hr : (rest.map fun v => v.category).sum ≤ 8)
    (kr : ∀ r h', Q' (.inl r) h' → PW M d (n - n') (pc + 3) ls (r.toList ++ rest) h' Q) : PW M d n pc ls st h Q := by
  subst e
  intro p l e_ R s m args below meth c G N H locs cells slots lsA C9 hc hs hR hS hw
  obtain ⟨⟨k1, k2, k3, k4, k5, k6⟩, t1, t2, t3, t4, t5, t6, ⟨r1, r2, r3, r4⟩, t8, t9⟩ := id C9
  have S : CallFix p m c (mC M) (mL M) s args UU (mY M).cls := ⟨k1, k2, k3, k5, t1⟩
  have ew : wsM M' = .codeWith (mY M') (mC M') (mL M') (mR M') (mH M') :: UU := if_neg hne
  have hG : GoodIn UU (va_wsS (mY M).cls idx (mY M') (wsM M')) := by
    intro w hw
    rw [ew] at hw
    unfold va_wsS at hw
    rcases List.mem_append.mp hw with hw | hw
    · rcases List.mem_cons.mp hw with e | hw
      · rw [e]; exact UU_good _ hlk
      · rcases List.mem_cons.mp hw with e | hw
        · rw [e]; exact UU_good _ hst
        · rcases List.mem_cons.mp hw with e | hw
          · rw [e]; exact UU_good _ hini
          · cases hw
    · rcases List.mem_cons.mp hw with e | hw
      · rw [e]; exact UU_good _ hcode
      · exact UU_good _ hw
  have cw := vx_cwSW (R := R) (own := (mY M).cls) (index := idx) (maxL := mL M') (mc := n') (ms := 1000 * n') (y := mY M') (bytes := mC M') (ret := mR M') (hh := mH M') (rm := rmd d' n') (args := args) (s := s) k t1 hG ew rfl rfl hcl ⟨by show d' + 1 ≤ _; omega, by show 8 + (mL M' + 11) + 64 * d' ≤ _; omega⟩
  have h9 := ct l t8 G
  rw [if_pos m0] at h9
  have hstk : (As.reverse ++ rest).map (cv G) = (As.map (cv G)).reverse ++ rest.map (cv G) := by rw [List.map_append, List.map_reverse]
  have hsum : 2 * (F0 m pc lsA ((As.reverse ++ rest).map (cv G))).monitorRoom + ((rest.map (cv G)).map fun v => v.category).sum ≤ 8 := by
    rw [cats]
    show 2 * 0 + _ ≤ 8
    omega
  exact pw_after C9 hc hs hS hw hn (run_0 (vx_runSW S h9 cw (pre_S hR t4 t5 hS) rfl (by rw [List.length_map]; exact hk) hw.1 hstk hsum hd ⟨by omega, by omega⟩)) (fun r h' ⟨r2, e2, q⟩ => by cases e2; exact kr r h' q) (fun E h' ⟨r2, e2, q⟩ => by cases e2)
/-- a static call of a nest mate's private method -/
theorem pw_callSN {M' : Mth} {idx d' n' k : Nat} {host : String} {As rest : List Value} {Q' : Out → Hp → Prop} (ct : CT M' d' n' As h Q') (m0 : mK M' = 0) (ok : MOK M' k) (hd : decode (mC M) pc = .ok (.invokestatic idx, 3)) (hlk : Cond.methodLinkNest (mY M).cls idx (mY M') host ∈ UN) (hst : Cond.static (mY M') ∈ UU) (hk : As.length = k) (e : st = As.reverse ++ rest) (hd' : d' + 1 ≤ d) (hn : n' ≤ n) (hr : (rest.map fun v => v.category).sum ≤ 8)
    (kr : ∀ r h', Q' (.inl r) h' → PW M d (n - n') (pc + 3) ls (r.toList ++ rest) h' Q) : PW M d n pc ls st h Q := by
  subst e
  intro p l e_ R s m args below meth c G N H locs cells slots lsA C9 hc hs hR hS hw
  obtain ⟨⟨k1, k2, k3, k4, k5, k6⟩, t1, t2, t3, t4, t5, t6, ⟨r1, r2, r3, r4⟩, t8, t9⟩ := id C9
  obtain ⟨o1, o2, o3, o4, o5⟩ := id ok
  have S : CallFix p m c (mC M) (mL M) s args UU (mY M).cls := ⟨k1, k2, k3, k5, t1⟩
  have cw := va_cnB (R := R) (own := (mY M).cls) (index := idx) (host := host) (mc := n') (ms := 1000 * n') (rm := rmd d' n') k t1 (good_ws ok) (wsM_eq o1) rfl rfl (t5.2.2.1 _ hlk) (t1 _ o3) o4 ⟨by show d' + 1 ≤ _; omega, by show 8 + (mL M' + 11) + 64 * d' ≤ _; omega⟩
  have h9 := ct l t8 G
  rw [if_pos m0] at h9
  have hstk : (As.reverse ++ rest).map (cv G) = (As.map (cv G)).reverse ++ rest.map (cv G) := by rw [List.map_append, List.map_reverse]
  have hsum : 2 * (F0 m pc lsA ((As.reverse ++ rest).map (cv G))).monitorRoom + ((rest.map (cv G)).map fun v => v.category).sum ≤ 8 := by
    rw [cats]
    show 2 * 0 + _ ≤ 8
    omega
  exact pw_after C9 hc hs hS hw hn (run_0 (va_runSN S h9 ⟨cw, t1 _ hst, trivial⟩ (pre_S hR t4 t5 hS) rfl (by rw [List.length_map]; exact hk) hw.1 hstk hsum hd ⟨by omega, by omega⟩)) (fun r h' ⟨r2, e2, q⟩ => by cases e2; exact kr r h' q) (fun E h' ⟨r2, e2, q⟩ => by cases e2)
/-- a virtual call; the receiver is a cell b of class ci -/
theorem pw_callV {M' : Mth} {idx d' n' k b ci N1 : Nat} {T : u_T} {fs : Nat → Value} {As rest : List Value} {Q' : Out → Hp → Prop} (ct : CT M' d' n' (.ref b :: As) h Q') (ok : MOK M' k) (hd : decode (mC M) pc = .ok (.invokevirtual idx, 3)) (hlk : Cond.methodLink (mY M).cls idx (mY M') ∈ UU) (hin : Cond.instanceMethod (mY M') ∈ UU) (hse : Cond.selects (mY M').cls (mY M') (mY M') ∈ UU) (hb : h.2 b = some (.inr (ci, fs))) (hcl : vwCl[ci]? = some ((mY M').cls, T, N1)) (hk : As.length = k) (e : st = As.reverse ++ .ref b :: rest) (hd' : d' + 1 ≤ d) (hn : n' ≤ n) (hr : (rest.map fun v => v.category).sum ≤ 8)
    (kr : ∀ r h', Q' (.inl r) h' → PW M d (n - n') (pc + 3) ls (r.toList ++ rest) h' Q) (kx : ∀ E h', Q' (.inr E) h' → PT M d (n - n') pc ls rest h' Q E) : PW M d n pc ls st h Q := by
  subst e
  intro p l e_ R s m args below meth c G N H locs cells slots lsA C9 hc hs hR hS hw
  obtain ⟨⟨k1, k2, k3, k4, k5, k6⟩, t1, t2, t3, t4, t5, t6, ⟨r1, r2, r3, r4⟩, t8, t9⟩ := id C9
  have S : CallFix p m c (mC M) (mL M) s args UU (mY M).cls := ⟨k1, k2, k3, k5, t1⟩
  have cb : CallW R s args (mY M).cls (mY M').cls idx (mY M') (mC M') (mL M') (mR M') (wsM M') (rmd d' n') n' (1000 * n') k := ⟨call_B C9 ok hlk hd', t1 _ hin, t1 _ hse⟩
  obtain ⟨r', hr', cell, g1, g2, g3, -⟩ := hR.at hb
  have hrecv : ∃ cellB : Cell, H[ad G b]? = some cellB ∧ cellB.vm.isStatics = false ∧ s.vm.findClass (mY M').cls = some cellB.cls := ⟨cell, g1, by rw [g3]; rfl, by rw [g2]; exact (t4.1 ci _ hcl).2.1⟩
  have pS := pre_S (As := .ref b :: As) hR t4 t5 hS
  have hroom : cells + n' ≤ R.cells ∧ slots + 1000 * n' ≤ R.slots := ⟨by omega, by omega⟩
  have hstk : (As.reverse ++ .ref b :: rest).map (cv G) = (As.map (cv G)).reverse ++ .ref (ad G b) :: rest.map (cv G) := by rw [List.map_append, List.map_reverse]; rfl
  have hsum : 2 * (F0 m pc lsA ((As.reverse ++ .ref b :: rest).map (cv G))).monitorRoom + ((rest.map (cv G)).map fun v => v.category).sum ≤ 8 := by
    rw [cats]
    show 2 * 0 + _ ≤ 8
    omega
  have h9 := ct l t8 G
  by_cases m0 : mK M' = 0
  · rw [if_pos m0] at h9
    exact pw_after C9 hc hs hS hw hn (run_x (va_runV S h9 cb ⟨pS.1, hrecv, pS.2⟩ rfl (by rw [List.length_map]; exact hk) hw.1 hstk hsum hd hroom)) kr kx
  · rw [if_neg m0] at h9
    exact pw_after C9 hc hs hS hw hn (vx_runV S h9 cb ⟨pS.1, hrecv, pS.2⟩ rfl (by rw [List.length_map]; exact hk) hw.1 hstk hsum hd hroom) kr kx
/-- a constructor -/
theorem pw_callI {M' : Mth} {idx d' n' k b : Nat} {As rest : List Value} {Q' : Out → Hp → Prop} (ct : CT M' d' n' (.ref b :: As) h Q') (m0 : mK M' = 0) (ok : MOK M' k) (hm : (mY M').name = "<init>") (hret : mR M' = none) (hd : decode (mC M) pc = .ok (.invokespecial idx, 3)) (hlk : Cond.methodLink (mY M).cls idx (mY M') ∈ UU) (hin : Cond.instanceMethod (mY M') ∈ UU) (hk : As.length = k) (e : st = As.reverse ++ .ref b :: rest) (hd' : d' + 1 ≤ d) (hn : n' ≤ n) (hr : (rest.map fun v => v.category).sum ≤ 8)
    (kr : ∀ r h', Q' (.inl r) h' → PW M d (n - n') (pc + 3) ls (r.toList ++ rest) h' Q) : PW M d n pc ls st h Q := by
  subst e
  intro p l e_ R s m args below meth c G N H locs cells slots lsA C9 hc hs hR hS hw
  obtain ⟨⟨k1, k2, k3, k4, k5, k6⟩, t1, t2, t3, t4, t5, t6, ⟨r1, r2, r3, r4⟩, t8, t9⟩ := id C9
  have S : CallFix p m c (mC M) (mL M) s args UU (mY M).cls := ⟨k1, k2, k3, k5, t1⟩
  have cb := call_B (n' := n') C9 ok hlk hd'
  rw [hret] at cb
  have h9 := ct l t8 G
  rw [if_pos m0] at h9
  have hstk : (As.reverse ++ .ref b :: rest).map (cv G) = (As.map (cv G)).reverse ++ .ref (ad G b) :: rest.map (cv G) := by rw [List.map_append, List.map_reverse]; rfl
  have hsum : 2 * (F0 m pc lsA ((As.reverse ++ .ref b :: rest).map (cv G))).monitorRoom + ((rest.map (cv G)).map fun v => v.category).sum ≤ 8 := by
    rw [cats]
    show 2 * 0 + _ ≤ 8
    omega
  exact pw_after C9 hc hs hS hw hn (run_0 (va_runI S h9 ⟨cb, hm, t1 _ hin⟩ (pre_S (As := .ref b :: As) hR t4 t5 hS) rfl (by rw [List.length_map]; exact hk) hw.1 hstk hsum hd ⟨by omega, by omega⟩)) (fun r h' ⟨r2, e2, q⟩ => by cases e2; exact kr r h' q) (fun E h' ⟨r2, e2, q⟩ => by cases e2)
theorem pw_callIN {M' : Mth} {idx d' n' k b : Nat} {host : String} {As rest : List Value} {Q' : Out → Hp → Prop} (ct : CT M' d' n' (.ref b :: As) h Q') (m0 : mK M' = 0) (ok : MOK M' k) (hm : (mY M').name = "<init>") (hret : mR M' = none) (hd : decode (mC M) pc = .ok (.invokespecial idx, 3)) (hlk : Cond.methodLinkNest (mY M).cls idx (mY M') host ∈ UN) (hin : Cond.instanceMethod (mY M') ∈ UU) (hk : As.length = k) (e : st = As.reverse ++ .ref b :: rest) (hd' : d' + 1 ≤ d) (hn : n' ≤ n) (hr : (rest.map fun v => v.category).sum ≤ 8)
    (kr : ∀ r h', Q' (.inl r) h' → PW M d (n - n') (pc + 3) ls (r.toList ++ rest) h' Q) : PW M d n pc ls st h Q := by
  subst e
  intro p l e_ R s m args below meth c G N H locs cells slots lsA C9 hc hs hR hS hw
  obtain ⟨⟨k1, k2, k3, k4, k5, k6⟩, t1, t2, t3, t4, t5, t6, ⟨r1, r2, r3, r4⟩, t8, t9⟩ := id C9
  obtain ⟨o1, o2, o3, o4, o5⟩ := id ok
  have S : CallFix p m c (mC M) (mL M) s args UU (mY M).cls := ⟨k1, k2, k3, k5, t1⟩
  have cw := va_cnB (R := R) (own := (mY M).cls) (index := idx) (host := host) (mc := n') (ms := 1000 * n') (rm := rmd d' n') k t1 (good_ws ok) (wsM_eq o1) rfl rfl (t5.2.2.1 _ hlk) (t1 _ o3) o4 ⟨by show d' + 1 ≤ _; omega, by show 8 + (mL M' + 11) + 64 * d' ≤ _; omega⟩
  rw [hret] at cw
  have h9 := ct l t8 G
  rw [if_pos m0] at h9
  have hstk : (As.reverse ++ .ref b :: rest).map (cv G) = (As.map (cv G)).reverse ++ .ref (ad G b) :: rest.map (cv G) := by rw [List.map_append, List.map_reverse]; rfl
  have hsum : 2 * (F0 m pc lsA ((As.reverse ++ .ref b :: rest).map (cv G))).monitorRoom + ((rest.map (cv G)).map fun v => v.category).sum ≤ 8 := by
    rw [cats]
    show 2 * 0 + _ ≤ 8
    omega
  exact pw_after C9 hc hs hS hw hn (run_0 (va_runIN S h9 ⟨cw, hm, t1 _ hin⟩ (pre_S (As := .ref b :: As) hR t4 t5 hS) rfl (by rw [List.length_map]; exact hk) hw.1 hstk hsum hd ⟨by omega, by omega⟩)) (fun r h' ⟨r2, e2, q⟩ => by cases e2; exact kr r h' q) (fun E h' ⟨r2, e2, q⟩ => by cases e2)
theorem pw_max {idx : Nat} {x y : Int32} (hd : decode (mC M) pc = .ok (.invokestatic idx, 3)) (hlk : Cond.methodLink (mY M).cls idx Lib.Math.max.name ∈ UU) (hst : Cond.static Lib.Math.max.name ∈ UU) (hini : Cond.initialized "java/lang/Math" ∈ UU) (hcode : Cond.code Lib.Math.max.name Lib.Math.max.code 2 (some .int) ∈ UU) (hd1 : 1 ≤ d) (hr : (st.map fun v => v.category).sum ≤ 8) (kk : PW M d n (pc + 3) ls (.int (if x < y then y else x) :: st) h Q) : PW M d n pc ls (.int y :: .int x :: st) h Q := by
  intro p l e_ R s m args below meth c G N H locs cells slots lsA C9 hc hs hR hS hw
  obtain ⟨⟨k1, k2, k3, k4, k5, k6⟩, t1, t2, t3, t4, t5, t6, ⟨r1, r2, r3, r4⟩, t8, t9⟩ := id C9
  exact va_mmax k1 k2 (k3.trans hw.1.symm) k5 (t1 _ hlk) (t1 _ hst) (t1 _ hini) (t1 _ hcode) (by omega) (by rw [cats]; omega) (by omega) (by omega) hd (kk p l e_ R s m args below meth c G N H locs cells slots lsA C9 hc hs hR hS hw)
theorem pw_min {idx : Nat} {x y : Int32} (hd : decode (mC M) pc = .ok (.invokestatic idx, 3)) (hlk : Cond.methodLink (mY M).cls idx Lib.Math.min.name ∈ UU) (hst : Cond.static Lib.Math.min.name ∈ UU) (hini : Cond.initialized "java/lang/Math" ∈ UU) (hcode : Cond.code Lib.Math.min.name Lib.Math.min.code 2 (some .int) ∈ UU) (hd1 : 1 ≤ d) (hr : (st.map fun v => v.category).sum ≤ 8) (kk : PW M d n (pc + 3) ls (.int (if y < x then y else x) :: st) h Q) : PW M d n pc ls (.int y :: .int x :: st) h Q := by
  intro p l e_ R s m args below meth c G N H locs cells slots lsA C9 hc hs hR hS hw
  obtain ⟨⟨k1, k2, k3, k4, k5, k6⟩, t1, t2, t3, t4, t5, t6, ⟨r1, r2, r3, r4⟩, t8, t9⟩ := id C9
  exact va_mmin k1 k2 (k3.trans hw.1.symm) k5 (t1 _ hlk) (t1 _ hst) (t1 _ hini) (t1 _ hcode) (by omega) (by rw [cats]; omega) (by omega) (by omega) hd (kk p l e_ R s m args below meth c G N H locs cells slots lsA C9 hc hs hR hS hw)
theorem pw_ireturn {ty : FieldType} {v : Int32} (hd : decode (mC M) pc = .ok (.ireturn, 1)) (hret : mR M = some ty) (hk : mK M ≤ 1) (hn : narrow ty (.int v) = .int v) (hq : Q (.inl (some (.int v))) h) : PW M d n pc ls [.int v] h Q := by
  intro p l e_ R s m args below meth c G N H locs cells slots lsA C9 hc hs hR hS hw
  obtain ⟨⟨k1, k2, k3, k4, k5, k6⟩, t1, t2, t3, t4, t5, t6, ⟨r1, r2, r3, r4⟩, t8, t9⟩ := id C9
  have hq' : ∀ t : State, t.heap = H → s.WarmedH t.vm → PQ G Q args s (.returned (some (.int v))) t := fun t ht hW => ⟨⟨some (.int v), h, rfl, hq, by rw [ht]; exact hR⟩, hS.F ht⟩
  unfold PZ
  by_cases m0 : mK M = 0
  · rw [if_pos m0]
    exact W.widen (k := N) (n := 1000 * N) (by omega) (by omega) (W.zret k1 k2 (k4.trans hret) hn hq' hS.2.2 hd t2)
  · rw [if_neg m0, if_pos (show mK M = 1 by omega)]
    exact W.widen (k := N) (n := 1000 * N) (by omega) (by omega) (vx_ret (W.zret k1 k2 (k4.trans hret) hn hq' hS.2.2 hd t2))
/-- the law's own end -/
theorem pw_lawret (hC : mC M = code) (hret : mR M = ret) (hm : mK M = 2) (hd : decode (mC M) pc = .ok (.ireturn, 1)) : PW M d n pc ls [.int 1] h Q := by
  intro p l e_ R s m args below meth c G N H locs cells slots lsA C9 hc hs hR hS hw
  obtain ⟨⟨k1, k2, k3, k4, k5, k6⟩, t1, t2, t3, t4, t5, t6, ⟨r1, r2, r3, r4⟩, t8, t9⟩ := id C9
  obtain ⟨u1, u2, u4, u5, u6, b, u7⟩ := t9 hm
  subst u5; subst u7
  unfold PZ
  rw [if_neg (by omega), if_neg (by omega)]
  refine va_forget (fun q hq => by rw [← u4]; exact hS.2.2 q hq) ?_
  refine W.widen (k := 600086) (n := 7301442) (by omega) (by omega) ?_
  exact lw_ret k1 (k2.trans hC) (k4.trans hret) t2 (by rw [← hC]; exact hd)
theorem pw_return (hd : decode (mC M) pc = .ok (.return_, 1)) (hret : mR M = none) (hk : mK M ≤ 1) (hq : Q (.inl none) h) : PW M d n pc ls [] h Q := by
  intro p l e_ R s m args below meth c G N H locs cells slots lsA C9 hc hs hR hS hw
  obtain ⟨⟨k1, k2, k3, k4, k5, k6⟩, t1, t2, t3, t4, t5, t6, ⟨r1, r2, r3, r4⟩, t8, t9⟩ := id C9
  have hq' : ∀ t : State, t.heap = H → s.WarmedH t.vm → PQ G Q args s (.returned none) t := fun t ht hW => ⟨⟨none, h, rfl, hq, by rw [ht]; exact hR⟩, hS.F ht⟩
  unfold PZ
  by_cases m0 : mK M = 0
  · rw [if_pos m0]
    exact W.widen (k := N) (n := 1000 * N) (by omega) (by omega) (W.vret k1 k2 (k4.trans hret) hq' hS.2.2 hd t2)
  · rw [if_neg m0, if_pos (show mK M = 1 by omega)]
    exact W.widen (k := N) (n := 1000 * N) (by omega) (by omega) (vx_ret (W.vret k1 k2 (k4.trans hret) hq' hS.2.2 hd t2))
theorem pw_areturn {a : Nat} {E : String} (hd : decode (mC M) pc = .ok (.areturn, 1)) (hret : mR M = some (.object E)) (hk : mK M ≤ 1) (hq : Q (.inl (some (.ref a))) h) : PW M d n pc ls [.ref a] h Q := by
  intro p l e_ R s m args below meth c G N H locs cells slots lsA C9 hc hs hR hS hw
  obtain ⟨⟨k1, k2, k3, k4, k5, k6⟩, t1, t2, t3, t4, t5, t6, ⟨r1, r2, r3, r4⟩, t8, t9⟩ := id C9
  have hq' : ∀ t : State, t.heap = H → s.WarmedH t.vm → PQ G Q args s (.returned (some (.ref (ad G a)))) t := fun t ht hW => ⟨⟨some (.ref a), h, rfl, hq, by rw [ht]; exact hR⟩, hS.F ht⟩
  unfold PZ
  by_cases m0 : mK M = 0
  · rw [if_pos m0]
    exact W.widen (k := N) (n := 1000 * N) (by omega) (by omega) (W.aret k1 k2 (k4.trans hret) (Or.inl ⟨E, rfl⟩) (Or.inr ⟨_, rfl⟩) hq' hS.2.2 hd t2)
  · rw [if_neg m0, if_pos (show mK M = 1 by omega)]
    exact W.widen (k := N) (n := 1000 * N) (by omega) (by omega) (vx_ret (W.aret k1 k2 (k4.trans hret) (Or.inl ⟨E, rfl⟩) (Or.inr ⟨_, rfl⟩) hq' hS.2.2 hd t2))
end PWC
end
section
/-- entry locals -/
theorem els_args (G : PG) : ∀ (args : List Value) (off i : Nat) (v : Value), (els args)[i]? = some (some v) → (off + i, cv G v) ∈ lv_args off (args.map (cv G)) := by
  intro args
  induction args with
  | nil => intro off i v h; simp [els] at h
  | cons a t ih =>
    have one : a.category = 1 → els (a :: t) = some a :: els t → ∀ (off i : Nat) (v : Value), (els (a :: t))[i]? = some (some v) → (off + i, cv G v) ∈ lv_args off ((a :: t).map (cv G)) := by
      intro hc he off i v h
      rw [he] at h
      show _ ∈ (off, cv G a) :: lv_args (if (cv G a).category = 2 then off + 2 else off + 1) (t.map (cv G))
      rw [cv_cat, hc, if_neg (by decide)]
      cases i with
      | zero =>
        rw [List.getElem?_cons_zero] at h
        cases h
        exact List.mem_cons_self
      | succ i =>
        rw [List.getElem?_cons_succ] at h
        have := ih (off + 1) i v h
        rw [show off + 1 + i = off + (i + 1) by omega] at this
        exact List.mem_cons_of_mem _ this
    intro off i v h
    cases a with
    | long x =>
      simp only [els] at h
      show _ ∈ (off, Value.long x) :: lv_args (if (Value.long x).category = 2 then off + 2 else off + 1) (t.map (cv G))
      rw [if_pos (show (Value.long x).category = 2 from rfl)]
      match i, h with
      | 0, h =>
        rw [List.getElem?_cons_zero] at h
        cases h
        exact List.mem_cons_self
      | 1, h =>
        rw [List.getElem?_cons_succ, List.getElem?_cons_zero] at h
        cases h
      | i + 2, h =>
        rw [List.getElem?_cons_succ, List.getElem?_cons_succ] at h
        have := ih (off + 2) i v h
        rw [show off + 2 + i = off + (i + 2) by omega] at this
        exact List.mem_cons_of_mem _ this
    | double x =>
      simp only [els] at h
      show _ ∈ (off, Value.double x) :: lv_args (if (Value.double x).category = 2 then off + 2 else off + 1) (t.map (cv G))
      rw [if_pos (show (Value.double x).category = 2 from rfl)]
      match i, h with
      | 0, h =>
        rw [List.getElem?_cons_zero] at h
        cases h
        exact List.mem_cons_self
      | 1, h =>
        rw [List.getElem?_cons_succ, List.getElem?_cons_zero] at h
        cases h
      | i + 2, h =>
        rw [List.getElem?_cons_succ, List.getElem?_cons_succ] at h
        have := ih (off + 2) i v h
        rw [show off + 2 + i = off + (i + 2) by omega] at this
        exact List.mem_cons_of_mem _ this
    | int x => exact one rfl rfl off i v h
    | float x => exact one rfl rfl off i v h
    | null => exact one rfl rfl off i v h
    | ref x => exact one rfl rfl off i v h
    | retAddr x => exact one rfl rfl off i v h
theorem lvS_entry {G : PG} {args : List Value} {k L : Nat} {ls : List (Option Value)} (e : els args ++ List.replicate k none = ls) (hn : (lg_sl (args.map (cv G))).length ≤ L) : lvS G ((lg_sl (args.map (cv G)) ++ List.replicate (L - (lg_sl (args.map (cv G))).length) Slot.unset).toArray) L ls := by
  have h := lv_entry (args.map (cv G)) hn
  refine ⟨h.1, h.2.1, fun i v hi => ?_⟩
  rw [← e] at hi
  by_cases hl : i < (els args).length
  · rw [List.getElem?_append_left hl] at hi
    have := els_args G args 0 i v hi
    rw [Nat.zero_add] at this
    exact h.2.2 (i, cv G v) this
  · rw [List.getElem?_append_right (by omega)] at hi
    have := List.eq_of_mem_replicate (List.mem_of_getElem? hi)
    cases this
theorem lg_len (G : PG) (args : List Value) : (lg_sl (args.map (cv G))).length = (lg_sl args).length := by
  induction args with
  | nil => rfl
  | cons a t ih =>
    simp only [lg_sl, List.map_cons, List.flatMap_cons, List.length_append] at ih ⊢
    rw [ih]
    congr 1
    rw [cv_cat]
    by_cases h : a.category = 2 <;> simp [h]
theorem Met_ofWH {l : Launch} {y : MethodName} {ws ws' : List Cond} {rm : Room} {Pc : Array Value → State → Prop} {Qc : Array Value → State → Outcome → State → Prop} {mc ms : Nat} {free : Addr → Prop} {cc : ByteArray} {maxL : Nat} {ret : Option FieldType} {hh : List (Nat × Nat × Nat × Nat)}
    (hy : plainName y.cls = true) (hw : ws = Cond.codeWith y cc maxL ret hh :: ws')
    (body : ∀ p e s m args below meth c s₁, BodyLoose p l y (headSpec ws rm) cc maxL ret e s m args below meth c s₁ → c.maxLocals = maxL → Pc args s →
      W p l e (headSpec ws rm).room s m args below meth c s.heap [] 0 0 (MQ below Qc args s mc ms free) (entryFrame m args maxL)) : Met l y ws rm Pc Qc mc ms free := by
  refine MetFree.of_bodyS (code := cc) (maxLocals := maxL) (ret := ret) hy ?_ ?_
  · intro args s m h hn
    obtain ⟨m9, meth, c, hn9, h1, h2, h3, h4, -, h5, h6, -⟩ := Cond.codeWith_spec (atoms_spec (ws := ws) h _ (by rw [hw]; exact List.mem_cons_self))
    cases hn.symm.trans hn9
    exact ⟨meth, c, h1, h2, h3, h4, h5, h6⟩
  · intro p e s m args below meth c s₁ B hml hP _
    have hh0 : s₁.heap = s.heap := by rw [B.state]; rfl
    obtain ⟨t, a1, o, b1, b2, b3⟩ := body p e s m args below meth c s₁ B hml hP s₁ hh0 (Stand.of_body B)
    exact ⟨t, o, a1, b1, b2, b3⟩
section ENT
variable {M : Mth} {d n : Nat} {args : List Value} {h : Hp} {Q : Out → Hp → Prop}
theorem ent_cx {l : Launch} {G : PG} {p : Program} {e : Env} {s : State} {m : MethodId} {va : Array Value} {below : List Frame} {meth : Method} {c : Code} {s₁ : State} (hl : l.stackTraces = false) (hm : mK M ≤ 1) (B : BodyLoose p l (mY M) (headSpec (wsM M) (rmd d n)) (mC M) (mL M) (mR M) e s m va below meth c s₁) (hml : c.maxLocals = mL M) (ht : c.exceptionTable.toList = tableOf (mH M)) (hP : PP G args h va s) : Cx M d n Q p l (headSpec (wsM M) (rmd d n)).room s m va meth c G := by
  obtain ⟨-, -, q3, q4, q5⟩ := hP
  have hts := atoms_spec (ws := wsM M) B.pre
  refine ⟨⟨B.exec, B.bytes, hml, B.returns, findClass_of_methodNamed B.named, (name_of_methodNamed B.named B.method).1⟩, fun w hw => hts w ?_, B.notSynchronized, ht, q3, q4, q5, ⟨Nat.le_refl d, Nat.le_refl _, Nat.le_refl n, Nat.le_refl _⟩, hl, fun z => absurd z (by omega)⟩
  unfold wsM
  by_cases e : mH M = []
  · rw [if_pos e]; exact List.mem_cons_of_mem _ hw
  · rw [if_neg e]; exact List.mem_cons_of_mem _ hw
theorem ent_go {l : Launch} {G : PG} {p : Program} {e : Env} {s : State} {m : MethodId} {va : Array Value} {below : List Frame} {meth : Method} {c : Code} {R : Room} {k : Nat} {ls : List (Option Value)} (e1 : els args ++ List.replicate k none = ls) (hn : (lg_sl args).length ≤ mL M) (C9 : Cx M d n Q p l R s m va meth c G) (hP : PP G args h va s) (body : PW M d n 0 ls [] h Q) : W p l e R s m va below meth c s.heap [] 0 0 (PZ M n Q below va s G) (entryFrame m va (mL M)) := by
  obtain ⟨q1, q2, q3, q4, q5⟩ := hP
  subst q1
  rw [lg_entry_eq]
  exact body p l e R s m _ below meth c G n s.heap [] 0 0 _ C9 (by omega) (by omega) q2 va_S.rf (lvS_entry e1 (by rw [lg_len]; exact hn))
theorem ct_of (hp : plainName (mY M).cls = true) (hm : mK M ≤ 1) (hh : mH M = []) {k : Nat} {ls : List (Option Value)} (e1 : els args ++ List.replicate k none = ls) (hn : (lg_sl args).length ≤ mL M) (body : PW M d n 0 ls [] h Q) : CT M d n args h Q := by
  intro l hl G
  have ew : wsM M = .code (mY M) (mC M) (mL M) (mR M) :: UU := wsM_eq hh
  by_cases m0 : mK M = 0
  · rw [if_pos m0]
    refine Met.ofW (cc := mC M) (maxL := mL M) (ret := mR M) hp ew fun p e s m va below meth c s₁ B hml hP => ?_
    have ht : c.exceptionTable.toList = tableOf (mH M) := by
      obtain ⟨meth9, c9, h1, h2, -, -, -, -, h7, -⟩ := Cond.code_spec B.named (atoms_spec (ws := wsM M) B.pre _ (by rw [ew]; exact List.mem_cons_self))
      cases Option.some.inj (h1.symm.trans B.method)
      cases Option.some.inj (h2.symm.trans (Stand.of_body B).code)
      rw [hh, Array.isEmpty_iff.mp h7]
      rfl
    have w := ent_go (e := e) (below := below) e1 hn (ent_cx (Q := Q) hl hm B hml ht hP) hP body
    unfold PZ at w
    rw [if_pos m0] at w
    exact w
  · rw [if_neg m0]
    refine vx_ofW (cc := mC M) (maxL := mL M) (ret := mR M) hp ew fun p e s m va below meth c s₁ B hml hx hP => ?_
    have ht : c.exceptionTable.toList = tableOf (mH M) := by
      rw [hh]
      exact List.eq_nil_iff_forall_not_mem.mpr fun x h => hx x h
    have w := ent_go (e := e) (below := below) e1 hn (ent_cx (Q := Q) hl hm B hml ht hP) hP body
    unfold PZ at w
    rw [if_neg m0, if_pos (show mK M = 1 by omega)] at w
    exact w
theorem ct_ofH (hp : plainName (mY M).cls = true) (m0 : mK M = 0) (hh : mH M ≠ []) {k : Nat} {ls : List (Option Value)} (e1 : els args ++ List.replicate k none = ls) (hn : (lg_sl args).length ≤ mL M) (body : PW M d n 0 ls [] h Q) : CT M d n args h Q := by
  intro l hl G
  have ew : wsM M = .codeWith (mY M) (mC M) (mL M) (mR M) (mH M) :: UU := if_neg hh
  rw [if_pos m0]
  refine Met_ofWH (cc := mC M) (maxL := mL M) (ret := mR M) hp ew fun p e s m va below meth c s₁ B hml hP => ?_
  have ht : c.exceptionTable.toList = tableOf (mH M) := vx_table (x := mY M) B (atoms_spec (ws := wsM M) B.pre _ (by rw [ew]; exact List.mem_cons_self))
  have w := ent_go (e := e) (below := below) e1 hn (ent_cx (Q := Q) hl (by omega) B hml ht hP) hP body
  unfold PZ at w
  rw [if_pos m0] at w
  exact w
end ENT
theorem thr_ot {w : Cond} (h : w ∈ UU ∨ w ∈ UN) : vx_ot w = true := by
  rcases h with h | h
  · have := (List.mem_filter.mp h).2
    unfold vx_ot
    rw [this, Bool.or_true]
  · have := (List.mem_filter.mp h).2
    cases w <;> first | rfl | cases this
abbrev exN : List String := ["java/lang/RuntimeException", "java/lang/Exception"]
abbrev TW (ic : Nat) (E : String) : Prop := Bundle.fit E = true ∧ Cond.initialized E ∈ UU ∧ ∀ w ∈ vx_atS "RowTriggers" ic E exN, w ∈ UU ∨ w ∈ UN
section THR
variable {M : Mth} {d n pc : Nat} {ls : List (Option Value)} {st : List Value} {h : Hp} {Q : Out → Hp → Prop}
theorem pw_throw {ik is ic : Nat} {E tx : String} (tw : TW ic E) (hm : mK M = 1) (hh : mH M = []) (hown : (mY M).cls = "RowTriggers") (hk : Cond.classLink "RowTriggers" ik E ∈ UU) (hs : (is, tx) ∈ strs) (d0 : decode (mC M) pc = .ok (.new ik, 3)) (d3 : decode (mC M) (pc + 3) = .ok (.dup, 1)) (d4 : decode (mC M) (pc + 4) = .ok (.ldc is, 2)) (d6 : decode (mC M) (pc + 6) = .ok (.invokespecial ic, 3)) (d9 : decode (mC M) (pc + 9) = .ok (.athrow, 1)) (hd : 6 ≤ d) (hn : 1 ≤ n) (hq : Q (.inr E) (none, h.2)) : PW M d n pc ls [] h Q := by
  intro p l e_ R s m args below meth c G N H locs cells slots lsA C9 hc hs9 hR hS hw
  obtain ⟨⟨k1, k2, k3, k4, k5, k6⟩, t1, t2, t3, t4, t5, t6, ⟨r1, r2, r3, r4⟩, t8, t9⟩ := id C9
  obtain ⟨w1, w2, w3⟩ := tw
  obtain ⟨sa, hsa⟩ := t5.2.1 _ hs
  rw [hown] at k5
  rw [hh] at t3
  unfold PZ
  rw [if_neg (by omega), if_pos hm]
  exact vx_throwS (A := fr G) (names := exN) (cls := E) (text := tx) k1 k2 t8 k5 w1 (by decide) (t1 _ hk) (t1 _ w2) hsa (fun w hw => (w3 w hw).elim (fun h => t1 _ h) (fun h => va_Nw.use (by have := (List.mem_filter.mp h).2; cases w <;> first | rfl | cases this) (t5.2.2.1 _ h))) (fun w hw => by
      rcases List.mem_cons.mp hw with e | hw
      · rw [e]; exact thr_ot (Or.inl hk)
      · rcases List.mem_cons.mp hw with e | hw
        · rw [e]; exact thr_ot (Or.inl w2)
        · exact thr_ot (w3 w hw)) t5.1.1 t5.1.2 hS (hw.1.trans k3.symm) d0 d3 d4 d6 d9 (fun x hx => by rw [t3] at hx; cases hx) (by show 2 + 3 < _; omega) (by show 0 + (13 * (2 + 1) + 43) ≤ _; omega) (by omega) (by omega) t2
    (fun t ha hz hq9 => ⟨⟨(none, h.2), hq, hR.grow hz hq9⟩, ⟨Nat.le_trans hS.1 hz, fun q g1 g2 => by rw [hq9 q (Nat.lt_of_lt_of_le g1 hS.1)]; exact hS.2.1 q g1 g2⟩⟩) hS.2.2 (by omega) (by omega)
theorem pw_throwW {ik is ic : Nat} {E tx : String} (tw : TW ic E) (hm : mK M = 1) (hh : mH M = []) (hown : (mY M).cls = "RowTriggers") (hk : Cond.classLink "RowTriggers" ik E ∈ UU) (hs : (is, tx) ∈ strs) (d0 : decode (mC M) pc = .ok (.new ik, 3)) (d3 : decode (mC M) (pc + 3) = .ok (.dup, 1)) (d4 : decode (mC M) (pc + 4) = .ok (.ldc_w is, 3)) (d7 : decode (mC M) (pc + 7) = .ok (.invokespecial ic, 3)) (d10 : decode (mC M) (pc + 10) = .ok (.athrow, 1)) (hd : 6 ≤ d) (hn : 1 ≤ n) (hq : Q (.inr E) (none, h.2)) : PW M d n pc ls [] h Q := by
  intro p l e_ R s m args below meth c G N H locs cells slots lsA C9 hc hs9 hR hS hw
  obtain ⟨⟨k1, k2, k3, k4, k5, k6⟩, t1, t2, t3, t4, t5, t6, ⟨r1, r2, r3, r4⟩, t8, t9⟩ := id C9
  obtain ⟨w1, w2, w3⟩ := tw
  obtain ⟨sa, hsa⟩ := t5.2.1 _ hs
  rw [hown] at k5
  rw [hh] at t3
  unfold PZ
  rw [if_neg (by omega), if_pos hm]
  exact vx_throwSW (A := fr G) (names := exN) (cls := E) (text := tx) k1 k2 t8 k5 w1 (by decide) (t1 _ hk) (t1 _ w2) hsa (fun w hw => (w3 w hw).elim (fun h => t1 _ h) (fun h => va_Nw.use (by have := (List.mem_filter.mp h).2; cases w <;> first | rfl | cases this) (t5.2.2.1 _ h))) (fun w hw => by
      rcases List.mem_cons.mp hw with e | hw
      · rw [e]; exact thr_ot (Or.inl hk)
      · rcases List.mem_cons.mp hw with e | hw
        · rw [e]; exact thr_ot (Or.inl w2)
        · exact thr_ot (w3 w hw)) t5.1.1 t5.1.2 hS (hw.1.trans k3.symm) d0 d3 d4 d7 d10 (fun x hx => by rw [t3] at hx; cases hx) (by show 2 + 3 < _; omega) (by show 0 + (13 * (2 + 1) + 43) ≤ _; omega) (by omega) (by omega) t2
    (fun t ha hz hq9 => ⟨⟨(none, h.2), hq, hR.grow hz hq9⟩, ⟨Nat.le_trans hS.1 hz, fun q g1 g2 => by rw [hq9 q (Nat.lt_of_lt_of_le g1 hS.1)]; exact hS.2.1 q g1 g2⟩⟩) hS.2.2 (by omega) (by omega)
/-- System.arraycopy between two rows of ints -/
theorem pw_copy {idx a b n0 n1 : Nat} {f g : Nat → Value} {sp dp x : Int32} (hd : decode (mC M) pc = .ok (.invokestatic idx, 3)) (hlk : Cond.methodLink (mY M).cls idx arraycopyName ∈ UU) (hnat : Cond.native arraycopyName ∈ UU) (hst : Cond.static arraycopyName ∈ UU) (hini : Cond.initialized "java/lang/System" ∈ UU) (ha : h.2 a = some (.inl (.int, n0, f))) (hb : h.2 b = some (.inl (.int, n1, g))) (h1 : ¬ sp < 0) (h2 : ¬ dp < 0) (h3 : ¬ x < 0) (h4 : sp.toNatClampNeg + x.toNatClampNeg ≤ n0) (h5 : dp.toNatClampNeg + x.toNatClampNeg ≤ n1) (hf : ∀ i, ∃ y : Int32, f i = .int y) (hd1 : 1 ≤ d) (hr : (st.map fun v => v.category).sum ≤ 8)
    (kk : PW M d n (pc + 3) ls st (upH h b (.inl (.int, n1, va_cpy f g sp.toNatClampNeg dp.toNatClampNeg x.toNatClampNeg))) Q) : PW M d n pc ls (.int x :: .int dp :: .ref b :: .int sp :: .ref a :: st) h Q := by
  have nn : ∀ z : Int32, ¬ z < 0 → z.toInt = (z.toNatClampNeg : Int) := by
    intro z hz
    have hz0 : (0 : Int) ≤ z.toInt := by
      have := Int32.not_lt.mp hz
      simpa using Int32.le_iff_toInt_le.mp this
    show z.toInt = ((z.toInt.toNat : Nat) : Int)
    omega
  intro p l e_ R s m args below meth c G N H locs cells slots lsA C9 hc hs9 hR hS hw
  obtain ⟨⟨k1, k2, k3, k4, k5, k6⟩, t1, t2, t3, t4, t5, t6, ⟨r1, r2, r3, r4⟩, t8, t9⟩ := id C9
  intro T hT X
  have hc0 : H[ad G a]? = some (arrV (G.2.1 .int) n0 (fun j => cv G (f j))) := hR.at ha
  have hc1 : H[ad G b]? = some (arrV (G.2.1 .int) n1 (fun j => cv G (g j))) := hR.at hb
  obtain ⟨-, k0, hk0, cm0, hkk0⟩ := (t4.2 0 _ rfl).1 n0 (fun j => cv G (f j))
  obtain ⟨vm', X', step⟩ := X.arraycopy k1 k5 (t1 _ hlk) (t1 _ hnat) (t1 _ hst) (t1 _ hini) (src := ad G a) (dst := ad G b) (cs := arrV (G.2.1 .int) n0 (fun j => cv G (f j))) (cd := arrV (G.2.1 .int) n1 (fun j => cv G (g j))) (srcPos := sp) (destPos := dp) (n := x) (by rw [hT]; exact hc0) (by rw [hT]; exact hc1)
    (fun _ h => by cases h) (fun _ h => by cases h) (fun h => by cases h) (fun h => by cases h) hk0 hk0 hkk0 hkk0 (by simp [refKind]) h1 h2 h3
    (by rw [nn sp h1, nn x h3, arrV_size]; omega)
    (by rw [nn dp h2, nn x h3, arrV_size]; omega)
    (fun vm₁ _ i hi => by
      have e : (arrV (G.2.1 .int) n0 (fun j => cv G (f j))).slots.getD (sp.toNatClampNeg + i) .null = cv G (f (sp.toNatClampNeg + i)) := by
        rw [Array.getD_eq_getD_getElem?, arrV_read _ _ (by omega)]
        rfl
      obtain ⟨y, hy⟩ := hf (sp.toNatClampNeg + i)
      rw [hy] at e
      refine ⟨?_, ?_⟩
      · rw [e]
        rfl
      · rw [e]
        exact trivial)
    (g := F0 m pc lsA ((Value.int x :: .int dp :: .ref b :: .int sp :: .ref a :: st).map (cv G))) rfl (by rw [k3]; exact hw.1) (rest := st.map (cv G)) rfl (by rw [k2]; exact hd) (by omega) (by rw [cats]; show 2 * 0 + _ + (7 + 11) ≤ _; omega)
  have e1 : copied (arrV (G.2.1 .int) n0 (fun j => cv G (f j))) (arrV (G.2.1 .int) n1 (fun j => cv G (g j))) sp dp x = arrV (G.2.1 .int) n1 (fun j => cv G (va_cpy f g sp.toNatClampNeg dp.toNatClampNeg x.toNatClampNeg j)) := va_copied (cv G) _ _ f g h4
  rw [e1] at X' step
  have hl : ad G b < H.size := (Array.getElem?_eq_some_iff.mp hc1).1
  generalize hY : arrV (G.2.1 .int) n1 (fun j => cv G (va_cpy f g sp.toNatClampNeg dp.toNatClampNeg x.toNatClampNeg j)) = Y at X' step
  have hheap : ((T.setVm vm').setCell (ad G b) Y).heap = H.setIfInBounds (ad G b) Y := by rw [← hT]; rfl
  have oq : ∀ q : Nat, q ≠ ad G b → (H.setIfInBounds (ad G b) Y)[q]? = H[q]? := fun q hq => by simp [Array.getElem?_setIfInBounds, Ne.symm hq]
  obtain ⟨t, a1, b1⟩ := kk p l e_ R s m args below meth c G N _ _ cells slots lsA C9 hc hs9 (hR.put hb (by simp) oq (by
      show (H.setIfInBounds (ad G b) Y)[ad G b]? = some (arrV _ _ _)
      rw [← hY]
      simp [Array.getElem?_setIfInBounds, hl])) ⟨by simp; exact hS.1, fun q g1 g2 => by
      rw [oq q (fun e => g2 (by rw [e]; exact hR.fr hb))]
      exact hS.2.1 q g1 g2, fun q hq => by
      rcases List.mem_append.mp hq with h | h
      · exact hS.2.2 q h
      · obtain ⟨z, -, hz⟩ := List.mem_map.mp h
        rw [← hz]
        exact hR.fr hb⟩ hw _ hheap X'
  exact ⟨t, step t a1, b1⟩
end THR
theorem clX0 : Cls 0 RX0 TX0 1 tyX0 := by
  refine ⟨rfl, fun w hw => ?_, tyX0_ok, nmX0⟩
  obtain ⟨k, hk, rfl⟩ := List.mem_map.mp hw
  rw [List.mem_range] at hk
  match k, hk with
  | 0, _ => exact UU_in 186 (by decide +kernel) rfl
  | k + 1, h => exact absurd h (by omega)
theorem clX1 : Cls 1 RX1 TX1 3 tyX1 := by
  refine ⟨rfl, fun w hw => ?_, tyX1_ok, nmX1⟩
  obtain ⟨k, hk, rfl⟩ := List.mem_map.mp hw
  rw [List.mem_range] at hk
  match k, hk with
  | 0, _ => exact UU_in 222 (by decide +kernel) rfl
  | 1, _ => exact UU_in 224 (by decide +kernel) rfl
  | 2, _ => exact UU_in 226 (by decide +kernel) rfl
  | k + 3, h => exact absurd h (by omega)
theorem clX2 : Cls 2 RX2 TX2 4 tyX2 := by
  refine ⟨rfl, fun w hw => ?_, tyX2_ok, nmX2⟩
  obtain ⟨k, hk, rfl⟩ := List.mem_map.mp hw
  rw [List.mem_range] at hk
  match k, hk with
  | 0, _ => exact UU_in 57 (by decide +kernel) rfl
  | 1, _ => exact UU_in 59 (by decide +kernel) rfl
  | 2, _ => exact UU_in 61 (by decide +kernel) rfl
  | 3, _ => exact UU_in 63 (by decide +kernel) rfl
  | k + 4, h => exact absurd h (by omega)
theorem clX3 : Cls 3 RX3 TX3 9 tyX3 := by
  refine ⟨rfl, fun w hw => ?_, tyX3_ok, nmX3⟩
  obtain ⟨k, hk, rfl⟩ := List.mem_map.mp hw
  rw [List.mem_range] at hk
  match k, hk with
  | 0, _ => exact UU_in 97 (by decide +kernel) rfl
  | 1, _ => exact UU_in 99 (by decide +kernel) rfl
  | 2, _ => exact UU_in 101 (by decide +kernel) rfl
  | 3, _ => exact UU_in 103 (by decide +kernel) rfl
  | 4, _ => exact UU_in 105 (by decide +kernel) rfl
  | 5, _ => exact UU_in 107 (by decide +kernel) rfl
  | 6, _ => exact UU_in 109 (by decide +kernel) rfl
  | 7, _ => exact UU_in 111 (by decide +kernel) rfl
  | 8, _ => exact UU_in 113 (by decide +kernel) rfl
  | k + 9, h => exact absurd h (by omega)
theorem clX4 : Cls 4 RX4 TX4 7 tyX4 := by
  refine ⟨rfl, fun w hw => ?_, tyX4_ok, nmX4⟩
  obtain ⟨k, hk, rfl⟩ := List.mem_map.mp hw
  rw [List.mem_range] at hk
  match k, hk with
  | 0, _ => exact UU_in 138 (by decide +kernel) rfl
  | 1, _ => exact UU_in 140 (by decide +kernel) rfl
  | 2, _ => exact UU_in 142 (by decide +kernel) rfl
  | 3, _ => exact UU_in 144 (by decide +kernel) rfl
  | 4, _ => exact UU_in 146 (by decide +kernel) rfl
  | 5, _ => exact UU_in 148 (by decide +kernel) rfl
  | 6, _ => exact UU_in 150 (by decide +kernel) rfl
  | k + 7, h => exact absurd h (by omega)
theorem clX5 : Cls 5 RX5 TX5 4 tyX5 := by
  refine ⟨rfl, fun w hw => ?_, tyX5_ok, nmX5⟩
  obtain ⟨k, hk, rfl⟩ := List.mem_map.mp hw
  rw [List.mem_range] at hk
  match k, hk with
  | 0, _ => exact UU_in 169 (by decide +kernel) rfl
  | 1, _ => exact UU_in 171 (by decide +kernel) rfl
  | 2, _ => exact UU_in 173 (by decide +kernel) rfl
  | 3, _ => exact UU_in 175 (by decide +kernel) rfl
  | k + 4, h => exact absurd h (by omega)
theorem clX6 : Cls 6 RX6 TX6 5 tyX6 := by
  refine ⟨rfl, fun w hw => ?_, tyX6_ok, nmX6⟩
  obtain ⟨k, hk, rfl⟩ := List.mem_map.mp hw
  rw [List.mem_range] at hk
  match k, hk with
  | 0, _ => exact UU_in 197 (by decide +kernel) rfl
  | 1, _ => exact UU_in 199 (by decide +kernel) rfl
  | 2, _ => exact UU_in 201 (by decide +kernel) rfl
  | 3, _ => exact UU_in 203 (by decide +kernel) rfl
  | 4, _ => exact UU_in 205 (by decide +kernel) rfl
  | k + 5, h => exact absurd h (by omega)
theorem clX7 : Cls 7 RX7 TX7 7 tyX7 := by
  refine ⟨rfl, fun w hw => ?_, tyX7_ok, nmX7⟩
  obtain ⟨k, hk, rfl⟩ := List.mem_map.mp hw
  rw [List.mem_range] at hk
  match k, hk with
  | 0, _ => exact UU_in 236 (by decide +kernel) rfl
  | 1, _ => exact UU_in 238 (by decide +kernel) rfl
  | 2, _ => exact UU_in 240 (by decide +kernel) rfl
  | 3, _ => exact UU_in 242 (by decide +kernel) rfl
  | 4, _ => exact UU_in 244 (by decide +kernel) rfl
  | 5, _ => exact UU_in 246 (by decide +kernel) rfl
  | 6, _ => exact UU_in 248 (by decide +kernel) rfl
  | k + 7, h => exact absurd h (by omega)
end
section
abbrev MX0_init : Mth := (yX0_init, cX0_init, 1, none, [], 0, 0, fun _ => 0)
set_option maxRecDepth 100000 in
theorem okX0_init : MOK MX0_init 0 := ⟨rfl, UU_in 182 rfl rfl, UU_in 17 (by decide +kernel) rfl, ⟨by decide +kernel, by decide +kernel, by decide +kernel⟩, by decide⟩
theorem imX0_init : Cond.instanceMethod yX0_init ∈ UU := UU_in 181 (by decide +kernel) rfl
abbrev MX0_nextOf : Mth := (yX0_nextOf, cX0_nextOf, 4, (some .int), [], 0, 0, fun _ => 0)
set_option maxRecDepth 100000 in
theorem okX0_nextOf : MOK MX0_nextOf 2 := ⟨rfl, UU_in 588 rfl rfl, UU_in 17 (by decide +kernel) rfl, ⟨by decide +kernel, by decide +kernel, by decide +kernel⟩, by decide⟩
theorem stX0_nextOf : Cond.static yX0_nextOf ∈ UU := UU_in 587 (by decide +kernel) rfl
abbrev MX0_search : Mth := (yX0_search, cX0_search, 8, (some .int), [], 0, 0, fun _ => 0)
set_option maxRecDepth 100000 in
theorem okX0_search : MOK MX0_search 2 := ⟨rfl, UU_in 640 rfl rfl, UU_in 17 (by decide +kernel) rfl, ⟨by decide +kernel, by decide +kernel, by decide +kernel⟩, by decide⟩
theorem imX0_search : Cond.instanceMethod yX0_search ∈ UU := UU_in 638 (by decide +kernel) rfl
theorem seX0_search : Cond.selects yX0_search.cls yX0_search yX0_search ∈ UU := UU_in 639 (by decide +kernel) rfl
abbrev MX0_fillTable : Mth := (yX0_fillTable, cX0_fillTable, 4, none, [], 0, 0, fun _ => 0)
set_option maxRecDepth 100000 in
theorem okX0_fillTable : MOK MX0_fillTable 1 := ⟨rfl, UU_in 585 rfl rfl, UU_in 17 (by decide +kernel) rfl, ⟨by decide +kernel, by decide +kernel, by decide +kernel⟩, by decide⟩
theorem imX0_fillTable : Cond.instanceMethod yX0_fillTable ∈ UU := UU_in 583 (by decide +kernel) rfl
theorem seX0_fillTable : Cond.selects yX0_fillTable.cls yX0_fillTable yX0_fillTable ∈ UU := UU_in 584 (by decide +kernel) rfl
abbrev MX1_init : Mth := (yX1_init, cX1_init, 2, none, [], 0, 0, fun _ => 0)
set_option maxRecDepth 100000 in
theorem okX1_init : MOK MX1_init 0 := ⟨rfl, UU_in 213 rfl rfl, UU_in 19 (by decide +kernel) rfl, ⟨by decide +kernel, by decide +kernel, by decide +kernel⟩, by decide⟩
theorem imX1_init : Cond.instanceMethod yX1_init ∈ UU := UU_in 212 (by decide +kernel) rfl
abbrev MX1_keep : Mth := (yX1_keep, cX1_keep, 2, none, [], 0, 0, fun _ => 0)
set_option maxRecDepth 100000 in
theorem okX1_keep : MOK MX1_keep 1 := ⟨rfl, UU_in 400 rfl rfl, UU_in 19 (by decide +kernel) rfl, ⟨by decide +kernel, by decide +kernel, by decide +kernel⟩, by decide⟩
theorem imX1_keep : Cond.instanceMethod yX1_keep ∈ UU := UU_in 398 (by decide +kernel) rfl
theorem seX1_keep : Cond.selects yX1_keep.cls yX1_keep yX1_keep ∈ UU := UU_in 399 (by decide +kernel) rfl
abbrev MX1_takeBack : Mth := (yX1_takeBack, cX1_takeBack, 2, none, [], 0, 0, fun _ => 0)
set_option maxRecDepth 100000 in
theorem okX1_takeBack : MOK MX1_takeBack 1 := ⟨rfl, UU_in 326 rfl rfl, UU_in 19 (by decide +kernel) rfl, ⟨by decide +kernel, by decide +kernel, by decide +kernel⟩, by decide⟩
theorem imX1_takeBack : Cond.instanceMethod yX1_takeBack ∈ UU := UU_in 324 (by decide +kernel) rfl
theorem seX1_takeBack : Cond.selects yX1_takeBack.cls yX1_takeBack yX1_takeBack ∈ UU := UU_in 325 (by decide +kernel) rfl
abbrev MX2_init : Mth := (yX2_init, cX2_init, 1, none, [], 0, 0, fun _ => 0)
set_option maxRecDepth 100000 in
theorem okX2_init : MOK MX2_init 0 := ⟨rfl, UU_in 48 rfl rfl, UU_in 14 (by decide +kernel) rfl, ⟨by decide +kernel, by decide +kernel, by decide +kernel⟩, by decide⟩
theorem imX2_init : Cond.instanceMethod yX2_init ∈ UU := UU_in 47 (by decide +kernel) rfl
abbrev MX2_copyFrom : Mth := (yX2_copyFrom, cX2_copyFrom, 2, none, [], 0, 0, fun _ => 0)
set_option maxRecDepth 100000 in
theorem okX2_copyFrom : MOK MX2_copyFrom 1 := ⟨rfl, UU_in 344 rfl rfl, UU_in 14 (by decide +kernel) rfl, ⟨by decide +kernel, by decide +kernel, by decide +kernel⟩, by decide⟩
theorem imX2_copyFrom : Cond.instanceMethod yX2_copyFrom ∈ UU := UU_in 342 (by decide +kernel) rfl
theorem seX2_copyFrom : Cond.selects yX2_copyFrom.cls yX2_copyFrom yX2_copyFrom ∈ UU := UU_in 343 (by decide +kernel) rfl
abbrev MX2_placeOf : Mth := (yX2_placeOf, cX2_placeOf, 2, (some .int), [], 0, 0, fun _ => 0)
set_option maxRecDepth 100000 in
theorem okX2_placeOf : MOK MX2_placeOf 1 := ⟨rfl, UU_in 447 rfl rfl, UU_in 14 (by decide +kernel) rfl, ⟨by decide +kernel, by decide +kernel, by decide +kernel⟩, by decide⟩
theorem imX2_placeOf : Cond.instanceMethod yX2_placeOf ∈ UU := UU_in 445 (by decide +kernel) rfl
theorem seX2_placeOf : Cond.selects yX2_placeOf.cls yX2_placeOf yX2_placeOf ∈ UU := UU_in 446 (by decide +kernel) rfl
abbrev MX2_note : Mth := (yX2_note, cX2_note, 3, none, [], 0, 0, fun _ => 0)
set_option maxRecDepth 100000 in
theorem okX2_note : MOK MX2_note 2 := ⟨rfl, UU_in 452 rfl rfl, UU_in 14 (by decide +kernel) rfl, ⟨by decide +kernel, by decide +kernel, by decide +kernel⟩, by decide⟩
theorem imX2_note : Cond.instanceMethod yX2_note ∈ UU := UU_in 450 (by decide +kernel) rfl
theorem seX2_note : Cond.selects yX2_note.cls yX2_note yX2_note ∈ UU := UU_in 451 (by decide +kernel) rfl
abbrev MX2_forget : Mth := (yX2_forget, cX2_forget, 7, none, [], 0, 0, fun _ => 0)
set_option maxRecDepth 100000 in
theorem okX2_forget : MOK MX2_forget 1 := ⟨rfl, UU_in 443 rfl rfl, UU_in 14 (by decide +kernel) rfl, ⟨by decide +kernel, by decide +kernel, by decide +kernel⟩, by decide⟩
theorem imX2_forget : Cond.instanceMethod yX2_forget ∈ UU := UU_in 441 (by decide +kernel) rfl
theorem seX2_forget : Cond.selects yX2_forget.cls yX2_forget yX2_forget ∈ UU := UU_in 442 (by decide +kernel) rfl
abbrev MX3_init : Mth := (yX3_init, cX3_init, 1, none, [], 0, 0, fun _ => 0)
set_option maxRecDepth 100000 in
theorem okX3_init : MOK MX3_init 0 := ⟨rfl, UU_in 71 rfl rfl, UU_in 15 (by decide +kernel) rfl, ⟨by decide +kernel, by decide +kernel, by decide +kernel⟩, by decide⟩
theorem imX3_init : Cond.instanceMethod yX3_init ∈ UU := UU_in 70 (by decide +kernel) rfl
abbrev MX3_start : Mth := (yX3_start, cX3_start, 4, none, [], 0, 0, fun _ => 0)
set_option maxRecDepth 100000 in
theorem okX3_start : MOK MX3_start 3 := ⟨rfl, UU_in 407 rfl rfl, UU_in 15 (by decide +kernel) rfl, ⟨by decide +kernel, by decide +kernel, by decide +kernel⟩, by decide⟩
theorem imX3_start : Cond.instanceMethod yX3_start ∈ UU := UU_in 405 (by decide +kernel) rfl
theorem seX3_start : Cond.selects yX3_start.cls yX3_start yX3_start ∈ UU := UU_in 406 (by decide +kernel) rfl
abbrev MX3_copyFrom : Mth := (yX3_copyFrom, cX3_copyFrom, 2, none, [], 0, 0, fun _ => 0)
set_option maxRecDepth 100000 in
theorem okX3_copyFrom : MOK MX3_copyFrom 1 := ⟨rfl, UU_in 340 rfl rfl, UU_in 15 (by decide +kernel) rfl, ⟨by decide +kernel, by decide +kernel, by decide +kernel⟩, by decide⟩
theorem imX3_copyFrom : Cond.instanceMethod yX3_copyFrom ∈ UU := UU_in 338 (by decide +kernel) rfl
theorem seX3_copyFrom : Cond.selects yX3_copyFrom.cls yX3_copyFrom yX3_copyFrom ∈ UU := UU_in 339 (by decide +kernel) rfl
abbrev MX3_setsOff : Mth := (yX3_setsOff, cX3_setsOff, 2, (some .boolean), [], 0, 0, fun _ => 0)
set_option maxRecDepth 100000 in
theorem okX3_setsOff : MOK MX3_setsOff 1 := ⟨rfl, UU_in 592 rfl rfl, UU_in 15 (by decide +kernel) rfl, ⟨by decide +kernel, by decide +kernel, by decide +kernel⟩, by decide⟩
theorem imX3_setsOff : Cond.instanceMethod yX3_setsOff ∈ UU := UU_in 590 (by decide +kernel) rfl
theorem seX3_setsOff : Cond.selects yX3_setsOff.cls yX3_setsOff yX3_setsOff ∈ UU := UU_in 591 (by decide +kernel) rfl
abbrev MX4_init : Mth := (yX4_init, cX4_init, 2, none, [], 0, 0, fun _ => 0)
set_option maxRecDepth 100000 in
theorem okX4_init : MOK MX4_init 0 := ⟨rfl, UU_in 40 rfl rfl, UU_in 13 (by decide +kernel) rfl, ⟨by decide +kernel, by decide +kernel, by decide +kernel⟩, by decide⟩
theorem imX4_init : Cond.instanceMethod yX4_init ∈ UU := UU_in 39 (by decide +kernel) rfl
abbrev MX4_copyFrom : Mth := (yX4_copyFrom, cX4_copyFrom, 3, none, [], 0, 0, fun _ => 0)
set_option maxRecDepth 100000 in
theorem okX4_copyFrom : MOK MX4_copyFrom 1 := ⟨rfl, UU_in 333 rfl rfl, UU_in 13 (by decide +kernel) rfl, ⟨by decide +kernel, by decide +kernel, by decide +kernel⟩, by decide⟩
theorem imX4_copyFrom : Cond.instanceMethod yX4_copyFrom ∈ UU := UU_in 331 (by decide +kernel) rfl
theorem seX4_copyFrom : Cond.selects yX4_copyFrom.cls yX4_copyFrom yX4_copyFrom ∈ UU := UU_in 332 (by decide +kernel) rfl
abbrev MX4_isThere : Mth := (yX4_isThere, cX4_isThere, 2, (some .boolean), [], 0, 0, fun _ => 0)
set_option maxRecDepth 100000 in
theorem okX4_isThere : MOK MX4_isThere 1 := ⟨rfl, UU_in 494 rfl rfl, UU_in 13 (by decide +kernel) rfl, ⟨by decide +kernel, by decide +kernel, by decide +kernel⟩, by decide⟩
theorem imX4_isThere : Cond.instanceMethod yX4_isThere ∈ UU := UU_in 492 (by decide +kernel) rfl
theorem seX4_isThere : Cond.selects yX4_isThere.cls yX4_isThere yX4_isThere ∈ UU := UU_in 493 (by decide +kernel) rfl
abbrev MX4_rowsThere : Mth := (yX4_rowsThere, cX4_rowsThere, 3, (some .int), [], 0, 0, fun _ => 0)
set_option maxRecDepth 100000 in
theorem okX4_rowsThere : MOK MX4_rowsThere 0 := ⟨rfl, UU_in 569 rfl rfl, UU_in 13 (by decide +kernel) rfl, ⟨by decide +kernel, by decide +kernel, by decide +kernel⟩, by decide⟩
theorem imX4_rowsThere : Cond.instanceMethod yX4_rowsThere ∈ UU := UU_in 567 (by decide +kernel) rfl
theorem seX4_rowsThere : Cond.selects yX4_rowsThere.cls yX4_rowsThere yX4_rowsThere ∈ UU := UU_in 568 (by decide +kernel) rfl
abbrev MX4_takeRuleAway : Mth := (yX4_takeRuleAway, cX4_takeRuleAway, 3, none, [], 0, 0, fun _ => 0)
set_option maxRecDepth 100000 in
theorem okX4_takeRuleAway : MOK MX4_takeRuleAway 1 := ⟨rfl, UU_in 439 rfl rfl, UU_in 13 (by decide +kernel) rfl, ⟨by decide +kernel, by decide +kernel, by decide +kernel⟩, by decide⟩
theorem imX4_takeRuleAway : Cond.instanceMethod yX4_takeRuleAway ∈ UU := UU_in 437 (by decide +kernel) rfl
theorem seX4_takeRuleAway : Cond.selects yX4_takeRuleAway.cls yX4_takeRuleAway yX4_takeRuleAway ∈ UU := UU_in 438 (by decide +kernel) rfl
abbrev MX5_init : Mth := (yX5_init, cX5_init, 1, none, [], 0, 0, fun _ => 0)
set_option maxRecDepth 100000 in
theorem okX5_init : MOK MX5_init 0 := ⟨rfl, UU_in 157 rfl rfl, UU_in 16 (by decide +kernel) rfl, ⟨by decide +kernel, by decide +kernel, by decide +kernel⟩, by decide⟩
theorem imX5_init : Cond.instanceMethod yX5_init ∈ UU := UU_in 156 (by decide +kernel) rfl
abbrev MX5_begin : Mth := (yX5_begin, cX5_begin, 2, none, [], 0, 0, fun _ => 0)
set_option maxRecDepth 100000 in
theorem okX5_begin : MOK MX5_begin 1 := ⟨rfl, UU_in 489 rfl rfl, UU_in 16 (by decide +kernel) rfl, ⟨by decide +kernel, by decide +kernel, by decide +kernel⟩, by decide⟩
theorem imX5_begin : Cond.instanceMethod yX5_begin ∈ UU := UU_in 488 (by decide +kernel) rfl
theorem seX5_begin : Cond.selects yX5_begin.cls yX5_begin yX5_begin ∈ UU := UU_in 3 (by decide +kernel) rfl
abbrev MX5_putIn : Mth := (yX5_putIn, cX5_putIn, 6, none, [], 0, 0, fun _ => 0)
set_option maxRecDepth 100000 in
theorem okX5_putIn : MOK MX5_putIn 5 := ⟨rfl, UU_in 557 rfl rfl, UU_in 16 (by decide +kernel) rfl, ⟨by decide +kernel, by decide +kernel, by decide +kernel⟩, by decide⟩
theorem imX5_putIn : Cond.instanceMethod yX5_putIn ∈ UU := UU_in 555 (by decide +kernel) rfl
theorem seX5_putIn : Cond.selects yX5_putIn.cls yX5_putIn yX5_putIn ∈ UU := UU_in 556 (by decide +kernel) rfl
abbrev MX5_change : Mth := (yX5_change, cX5_change, 5, none, [], 0, 0, fun _ => 0)
set_option maxRecDepth 100000 in
theorem okX5_change : MOK MX5_change 4 := ⟨rfl, UU_in 485 rfl rfl, UU_in 16 (by decide +kernel) rfl, ⟨by decide +kernel, by decide +kernel, by decide +kernel⟩, by decide⟩
theorem imX5_change : Cond.instanceMethod yX5_change ∈ UU := UU_in 483 (by decide +kernel) rfl
theorem seX5_change : Cond.selects yX5_change.cls yX5_change yX5_change ∈ UU := UU_in 484 (by decide +kernel) rfl
abbrev MX5_takeOut : Mth := (yX5_takeOut, cX5_takeOut, 3, none, [], 0, 0, fun _ => 0)
set_option maxRecDepth 100000 in
theorem okX5_takeOut : MOK MX5_takeOut 2 := ⟨rfl, UU_in 538 rfl rfl, UU_in 16 (by decide +kernel) rfl, ⟨by decide +kernel, by decide +kernel, by decide +kernel⟩, by decide⟩
theorem imX5_takeOut : Cond.instanceMethod yX5_takeOut ∈ UU := UU_in 536 (by decide +kernel) rfl
theorem seX5_takeOut : Cond.selects yX5_takeOut.cls yX5_takeOut yX5_takeOut ∈ UU := UU_in 537 (by decide +kernel) rfl
abbrev MX5_happen : Mth := (yX5_happen, cX5_happen, 8, none, [], 0, 0, fun _ => 0)
set_option maxRecDepth 100000 in
theorem okX5_happen : MOK MX5_happen 5 := ⟨rfl, UU_in 503 rfl rfl, UU_in 16 (by decide +kernel) rfl, ⟨by decide +kernel, by decide +kernel, by decide +kernel⟩, by decide⟩
theorem imX5_happen : Cond.instanceMethod yX5_happen ∈ UU := UU_in 502 (by decide +kernel) rfl
theorem seX5_happen : Cond.selects yX5_happen.cls yX5_happen yX5_happen ∈ UU := UU_in 4 (by decide +kernel) rfl
abbrev MX5_act : Mth := (yX5_act, cX5_act, 6, none, [], 0, 0, fun _ => 0)
set_option maxRecDepth 100000 in
theorem okX5_act : MOK MX5_act 2 := ⟨rfl, UU_in 522 rfl rfl, UU_in 16 (by decide +kernel) rfl, ⟨by decide +kernel, by decide +kernel, by decide +kernel⟩, by decide⟩
theorem imX5_act : Cond.instanceMethod yX5_act ∈ UU := UU_in 521 (by decide +kernel) rfl
theorem seX5_act : Cond.selects yX5_act.cls yX5_act yX5_act ∈ UU := UU_in 8 (by decide +kernel) rfl
abbrev MX5_alterTable : Mth := (yX5_alterTable, cX5_alterTable, 5, none, [], 0, 0, fun _ => 0)
set_option maxRecDepth 100000 in
theorem okX5_alterTable : MOK MX5_alterTable 4 := ⟨rfl, UU_in 515 rfl rfl, UU_in 16 (by decide +kernel) rfl, ⟨by decide +kernel, by decide +kernel, by decide +kernel⟩, by decide⟩
theorem imX5_alterTable : Cond.instanceMethod yX5_alterTable ∈ UU := UU_in 514 (by decide +kernel) rfl
theorem seX5_alterTable : Cond.selects yX5_alterTable.cls yX5_alterTable yX5_alterTable ∈ UU := UU_in 7 (by decide +kernel) rfl
abbrev MX5_matchingRules : Mth := (yX5_matchingRules, cX5_matchingRules, 9, (some .int), [], 0, 0, fun _ => 0)
set_option maxRecDepth 100000 in
theorem okX5_matchingRules : MOK MX5_matchingRules 4 := ⟨rfl, UU_in 507 rfl rfl, UU_in 16 (by decide +kernel) rfl, ⟨by decide +kernel, by decide +kernel, by decide +kernel⟩, by decide⟩
theorem imX5_matchingRules : Cond.instanceMethod yX5_matchingRules ∈ UU := UU_in 506 (by decide +kernel) rfl
theorem seX5_matchingRules : Cond.selects yX5_matchingRules.cls yX5_matchingRules yX5_matchingRules ∈ UU := UU_in 5 (by decide +kernel) rfl
abbrev MX5_hasRefusing : Mth := (yX5_hasRefusing, cX5_hasRefusing, 3, (some .boolean), [], 0, 0, fun _ => 0)
set_option maxRecDepth 100000 in
theorem okX5_hasRefusing : MOK MX5_hasRefusing 1 := ⟨rfl, UU_in 511 rfl rfl, UU_in 16 (by decide +kernel) rfl, ⟨by decide +kernel, by decide +kernel, by decide +kernel⟩, by decide⟩
theorem imX5_hasRefusing : Cond.instanceMethod yX5_hasRefusing ∈ UU := UU_in 510 (by decide +kernel) rfl
theorem seX5_hasRefusing : Cond.selects yX5_hasRefusing.cls yX5_hasRefusing yX5_hasRefusing ∈ UU := UU_in 6 (by decide +kernel) rfl
abbrev MX6_init : Mth := (yX6_init, cX6_init, 1, none, [], 0, 0, fun _ => 0)
set_option maxRecDepth 100000 in
theorem okX6_init : MOK MX6_init 0 := ⟨rfl, UU_in 193 rfl rfl, UU_in 18 (by decide +kernel) rfl, ⟨by decide +kernel, by decide +kernel, by decide +kernel⟩, by decide⟩
theorem imX6_init : Cond.instanceMethod yX6_init ∈ UU := UU_in 192 (by decide +kernel) rfl
abbrev MX7_init : Mth := (yX7_init, cX7_init, 2, none, [], 0, 0, fun _ => 0)
set_option maxRecDepth 100000 in
theorem okX7_init : MOK MX7_init 0 := ⟨rfl, UU_in 32 rfl rfl, UU_in 12 (by decide +kernel) rfl, ⟨by decide +kernel, by decide +kernel, by decide +kernel⟩, by decide⟩
theorem imX7_init : Cond.instanceMethod yX7_init ∈ UU := UU_in 31 (by decide +kernel) rfl
abbrev MX7_addRule : Mth := (yX7_addRule, cX7_addRule, 5, (some .int), [], 1, 0, fun _ => 0)
set_option maxRecDepth 100000 in
theorem okX7_addRule : MOK MX7_addRule 3 := ⟨rfl, UU_in 373 rfl rfl, UU_in 12 (by decide +kernel) rfl, ⟨by decide +kernel, by decide +kernel, by decide +kernel⟩, by decide⟩
theorem imX7_addRule : Cond.instanceMethod yX7_addRule ∈ UU := UU_in 371 (by decide +kernel) rfl
theorem seX7_addRule : Cond.selects yX7_addRule.cls yX7_addRule yX7_addRule ∈ UU := UU_in 372 (by decide +kernel) rfl
abbrev MX7_setAction : Mth := (yX7_setAction, cX7_setAction, 8, (some .int), [], 1, 0, fun _ => 0)
set_option maxRecDepth 100000 in
theorem okX7_setAction : MOK MX7_setAction 5 := ⟨rfl, UU_in 545 rfl rfl, UU_in 12 (by decide +kernel) rfl, ⟨by decide +kernel, by decide +kernel, by decide +kernel⟩, by decide⟩
theorem imX7_setAction : Cond.instanceMethod yX7_setAction ∈ UU := UU_in 543 (by decide +kernel) rfl
theorem seX7_setAction : Cond.selects yX7_setAction.cls yX7_setAction yX7_setAction ∈ UU := UU_in 544 (by decide +kernel) rfl
abbrev MX7_turnMute : Mth := (yX7_turnMute, cX7_turnMute, 3, (some .boolean), [], 1, 0, fun _ => 0)
set_option maxRecDepth 100000 in
theorem okX7_turnMute : MOK MX7_turnMute 1 := ⟨rfl, UU_in 411 rfl rfl, UU_in 12 (by decide +kernel) rfl, ⟨by decide +kernel, by decide +kernel, by decide +kernel⟩, by decide⟩
theorem imX7_turnMute : Cond.instanceMethod yX7_turnMute ∈ UU := UU_in 409 (by decide +kernel) rfl
theorem seX7_turnMute : Cond.selects yX7_turnMute.cls yX7_turnMute yX7_turnMute ∈ UU := UU_in 410 (by decide +kernel) rfl
abbrev MX7_dropRule : Mth := (yX7_dropRule, cX7_dropRule, 3, (some .int), [], 1, 0, fun _ => 0)
set_option maxRecDepth 100000 in
theorem okX7_dropRule : MOK MX7_dropRule 1 := ⟨rfl, UU_in 435 rfl rfl, UU_in 12 (by decide +kernel) rfl, ⟨by decide +kernel, by decide +kernel, by decide +kernel⟩, by decide⟩
theorem imX7_dropRule : Cond.instanceMethod yX7_dropRule ∈ UU := UU_in 433 (by decide +kernel) rfl
theorem seX7_dropRule : Cond.selects yX7_dropRule.cls yX7_dropRule yX7_dropRule ∈ UU := UU_in 434 (by decide +kernel) rfl
abbrev MX7_setDepth : Mth := (yX7_setDepth, cX7_setDepth, 3, (some .int), [], 1, 0, fun _ => 0)
set_option maxRecDepth 100000 in
theorem okX7_setDepth : MOK MX7_setDepth 1 := ⟨rfl, UU_in 457 rfl rfl, UU_in 12 (by decide +kernel) rfl, ⟨by decide +kernel, by decide +kernel, by decide +kernel⟩, by decide⟩
theorem imX7_setDepth : Cond.instanceMethod yX7_setDepth ∈ UU := UU_in 455 (by decide +kernel) rfl
theorem seX7_setDepth : Cond.selects yX7_setDepth.cls yX7_setDepth yX7_setDepth ∈ UU := UU_in 456 (by decide +kernel) rfl
abbrev MX7_insert : Mth := (yX7_insert, cX7_insert, 5, (some .int), [], 1, 0, fun _ => 0)
set_option maxRecDepth 100000 in
theorem okX7_insert : MOK MX7_insert 4 := ⟨rfl, UU_in 553 rfl rfl, UU_in 12 (by decide +kernel) rfl, ⟨by decide +kernel, by decide +kernel, by decide +kernel⟩, by decide⟩
theorem imX7_insert : Cond.instanceMethod yX7_insert ∈ UU := UU_in 551 (by decide +kernel) rfl
theorem seX7_insert : Cond.selects yX7_insert.cls yX7_insert yX7_insert ∈ UU := UU_in 552 (by decide +kernel) rfl
abbrev MX7_update : Mth := (yX7_update, cX7_update, 4, (some .int), [], 1, 0, fun _ => 0)
set_option maxRecDepth 100000 in
theorem okX7_update : MOK MX7_update 3 := ⟨rfl, UU_in 462 rfl rfl, UU_in 12 (by decide +kernel) rfl, ⟨by decide +kernel, by decide +kernel, by decide +kernel⟩, by decide⟩
theorem imX7_update : Cond.instanceMethod yX7_update ∈ UU := UU_in 460 (by decide +kernel) rfl
theorem seX7_update : Cond.selects yX7_update.cls yX7_update yX7_update ∈ UU := UU_in 461 (by decide +kernel) rfl
abbrev MX7_remove : Mth := (yX7_remove, cX7_remove, 2, (some .int), [], 1, 0, fun _ => 0)
set_option maxRecDepth 100000 in
theorem okX7_remove : MOK MX7_remove 1 := ⟨rfl, UU_in 534 rfl rfl, UU_in 12 (by decide +kernel) rfl, ⟨by decide +kernel, by decide +kernel, by decide +kernel⟩, by decide⟩
theorem imX7_remove : Cond.instanceMethod yX7_remove ∈ UU := UU_in 532 (by decide +kernel) rfl
theorem seX7_remove : Cond.selects yX7_remove.cls yX7_remove yX7_remove ∈ UU := UU_in 533 (by decide +kernel) rfl
abbrev MX7_whyNotUpdate : Mth := (yX7_whyNotUpdate, cX7_whyNotUpdate, 4, (some .int), [], 1, 0, fun _ => 0)
set_option maxRecDepth 100000 in
theorem okX7_whyNotUpdate : MOK MX7_whyNotUpdate 3 := ⟨rfl, UU_in 660 rfl rfl, UU_in 12 (by decide +kernel) rfl, ⟨by decide +kernel, by decide +kernel, by decide +kernel⟩, by decide⟩
theorem imX7_whyNotUpdate : Cond.instanceMethod yX7_whyNotUpdate ∈ UU := UU_in 658 (by decide +kernel) rfl
theorem seX7_whyNotUpdate : Cond.selects yX7_whyNotUpdate.cls yX7_whyNotUpdate yX7_whyNotUpdate ∈ UU := UU_in 659 (by decide +kernel) rfl
abbrev MX7_eventsOfUpdate : Mth := (yX7_eventsOfUpdate, cX7_eventsOfUpdate, 4, (some .int), [], 1, 0, fun _ => 0)
set_option maxRecDepth 100000 in
theorem okX7_eventsOfUpdate : MOK MX7_eventsOfUpdate 3 := ⟨rfl, UU_in 664 rfl rfl, UU_in 12 (by decide +kernel) rfl, ⟨by decide +kernel, by decide +kernel, by decide +kernel⟩, by decide⟩
theorem imX7_eventsOfUpdate : Cond.instanceMethod yX7_eventsOfUpdate ∈ UU := UU_in 662 (by decide +kernel) rfl
theorem seX7_eventsOfUpdate : Cond.selects yX7_eventsOfUpdate.cls yX7_eventsOfUpdate yX7_eventsOfUpdate ∈ UU := UU_in 663 (by decide +kernel) rfl
abbrev MX7_depthOfUpdate : Mth := (yX7_depthOfUpdate, cX7_depthOfUpdate, 4, (some .int), [], 1, 0, fun _ => 0)
set_option maxRecDepth 100000 in
theorem okX7_depthOfUpdate : MOK MX7_depthOfUpdate 3 := ⟨rfl, UU_in 668 rfl rfl, UU_in 12 (by decide +kernel) rfl, ⟨by decide +kernel, by decide +kernel, by decide +kernel⟩, by decide⟩
theorem imX7_depthOfUpdate : Cond.instanceMethod yX7_depthOfUpdate ∈ UU := UU_in 666 (by decide +kernel) rfl
theorem seX7_depthOfUpdate : Cond.selects yX7_depthOfUpdate.cls yX7_depthOfUpdate yX7_depthOfUpdate ∈ UU := UU_in 667 (by decide +kernel) rfl
abbrev MX7_tryUpdate : Mth := (yX7_tryUpdate, cX7_tryUpdate, 4, none, [], 1, 0, fun _ => 0)
set_option maxRecDepth 100000 in
theorem okX7_tryUpdate : MOK MX7_tryUpdate 3 := ⟨rfl, UU_in 466 rfl rfl, UU_in 12 (by decide +kernel) rfl, ⟨by decide +kernel, by decide +kernel, by decide +kernel⟩, by decide⟩
theorem imX7_tryUpdate : Cond.instanceMethod yX7_tryUpdate ∈ UU := UU_in 465 (by decide +kernel) rfl
theorem seX7_tryUpdate : Cond.selects yX7_tryUpdate.cls yX7_tryUpdate yX7_tryUpdate ∈ UU := UU_in 2 (by decide +kernel) rfl
abbrev MX7_finishStatement : Mth := (yX7_finishStatement, cX7_finishStatement, 1, (some .int), [], 1, 0, fun _ => 0)
set_option maxRecDepth 100000 in
theorem okX7_finishStatement : MOK MX7_finishStatement 0 := ⟨rfl, UU_in 528 rfl rfl, UU_in 12 (by decide +kernel) rfl, ⟨by decide +kernel, by decide +kernel, by decide +kernel⟩, by decide⟩
theorem imX7_finishStatement : Cond.instanceMethod yX7_finishStatement ∈ UU := UU_in 527 (by decide +kernel) rfl
theorem seX7_finishStatement : Cond.selects yX7_finishStatement.cls yX7_finishStatement yX7_finishStatement ∈ UU := UU_in 9 (by decide +kernel) rfl
abbrev MX7_hasRow : Mth := (yX7_hasRow, cX7_hasRow, 2, (some .boolean), [], 1, 0, fun _ => 0)
set_option maxRecDepth 100000 in
theorem okX7_hasRow : MOK MX7_hasRow 1 := ⟨rfl, UU_in 596 rfl rfl, UU_in 12 (by decide +kernel) rfl, ⟨by decide +kernel, by decide +kernel, by decide +kernel⟩, by decide⟩
theorem imX7_hasRow : Cond.instanceMethod yX7_hasRow ∈ UU := UU_in 594 (by decide +kernel) rfl
theorem seX7_hasRow : Cond.selects yX7_hasRow.cls yX7_hasRow yX7_hasRow ∈ UU := UU_in 595 (by decide +kernel) rfl
abbrev MX7_rowCount : Mth := (yX7_rowCount, cX7_rowCount, 1, (some .int), [], 0, 0, fun _ => 0)
set_option maxRecDepth 100000 in
theorem okX7_rowCount : MOK MX7_rowCount 0 := ⟨rfl, UU_in 565 rfl rfl, UU_in 12 (by decide +kernel) rfl, ⟨by decide +kernel, by decide +kernel, by decide +kernel⟩, by decide⟩
theorem imX7_rowCount : Cond.instanceMethod yX7_rowCount ∈ UU := UU_in 563 (by decide +kernel) rfl
theorem seX7_rowCount : Cond.selects yX7_rowCount.cls yX7_rowCount yX7_rowCount ∈ UU := UU_in 564 (by decide +kernel) rfl
abbrev MX7_valueAt : Mth := (yX7_valueAt, cX7_valueAt, 3, (some .int), [], 1, 0, fun _ => 0)
set_option maxRecDepth 100000 in
theorem okX7_valueAt : MOK MX7_valueAt 2 := ⟨rfl, UU_in 601 rfl rfl, UU_in 12 (by decide +kernel) rfl, ⟨by decide +kernel, by decide +kernel, by decide +kernel⟩, by decide⟩
theorem imX7_valueAt : Cond.instanceMethod yX7_valueAt ∈ UU := UU_in 599 (by decide +kernel) rfl
theorem seX7_valueAt : Cond.selects yX7_valueAt.cls yX7_valueAt yX7_valueAt ∈ UU := UU_in 600 (by decide +kernel) rfl
abbrev MX7_sumOf : Mth := (yX7_sumOf, cX7_sumOf, 4, (some .int), [], 1, 0, fun _ => 0)
set_option maxRecDepth 100000 in
theorem okX7_sumOf : MOK MX7_sumOf 1 := ⟨rfl, UU_in 653 rfl rfl, UU_in 12 (by decide +kernel) rfl, ⟨by decide +kernel, by decide +kernel, by decide +kernel⟩, by decide⟩
theorem imX7_sumOf : Cond.instanceMethod yX7_sumOf ∈ UU := UU_in 651 (by decide +kernel) rfl
theorem seX7_sumOf : Cond.selects yX7_sumOf.cls yX7_sumOf yX7_sumOf ∈ UU := UU_in 652 (by decide +kernel) rfl
abbrev MX7_ruleCount : Mth := (yX7_ruleCount, cX7_ruleCount, 1, (some .int), [], 0, 0, fun _ => 0)
set_option maxRecDepth 100000 in
theorem okX7_ruleCount : MOK MX7_ruleCount 0 := ⟨rfl, UU_in 363 rfl rfl, UU_in 12 (by decide +kernel) rfl, ⟨by decide +kernel, by decide +kernel, by decide +kernel⟩, by decide⟩
theorem imX7_ruleCount : Cond.instanceMethod yX7_ruleCount ∈ UU := UU_in 361 (by decide +kernel) rfl
theorem seX7_ruleCount : Cond.selects yX7_ruleCount.cls yX7_ruleCount yX7_ruleCount ∈ UU := UU_in 362 (by decide +kernel) rfl
abbrev MX7_actionOf : Mth := (yX7_actionOf, cX7_actionOf, 2, (some .int), [], 1, 0, fun _ => 0)
set_option maxRecDepth 100000 in
theorem okX7_actionOf : MOK MX7_actionOf 1 := ⟨rfl, UU_in 607 rfl rfl, UU_in 12 (by decide +kernel) rfl, ⟨by decide +kernel, by decide +kernel, by decide +kernel⟩, by decide⟩
theorem imX7_actionOf : Cond.instanceMethod yX7_actionOf ∈ UU := UU_in 605 (by decide +kernel) rfl
theorem seX7_actionOf : Cond.selects yX7_actionOf.cls yX7_actionOf yX7_actionOf ∈ UU := UU_in 606 (by decide +kernel) rfl
abbrev MX7_isMuted : Mth := (yX7_isMuted, cX7_isMuted, 2, (some .boolean), [], 1, 0, fun _ => 0)
set_option maxRecDepth 100000 in
theorem okX7_isMuted : MOK MX7_isMuted 1 := ⟨rfl, UU_in 611 rfl rfl, UU_in 12 (by decide +kernel) rfl, ⟨by decide +kernel, by decide +kernel, by decide +kernel⟩, by decide⟩
theorem imX7_isMuted : Cond.instanceMethod yX7_isMuted ∈ UU := UU_in 609 (by decide +kernel) rfl
theorem seX7_isMuted : Cond.selects yX7_isMuted.cls yX7_isMuted yX7_isMuted ∈ UU := UU_in 610 (by decide +kernel) rfl
abbrev MX7_actsOf : Mth := (yX7_actsOf, cX7_actsOf, 2, (some .int), [], 1, 0, fun _ => 0)
set_option maxRecDepth 100000 in
theorem okX7_actsOf : MOK MX7_actsOf 1 := ⟨rfl, UU_in 615 rfl rfl, UU_in 12 (by decide +kernel) rfl, ⟨by decide +kernel, by decide +kernel, by decide +kernel⟩, by decide⟩
theorem imX7_actsOf : Cond.instanceMethod yX7_actsOf ∈ UU := UU_in 613 (by decide +kernel) rfl
theorem seX7_actsOf : Cond.selects yX7_actsOf.cls yX7_actsOf yX7_actsOf ∈ UU := UU_in 614 (by decide +kernel) rfl
abbrev MX7_eventCount : Mth := (yX7_eventCount, cX7_eventCount, 1, (some .int), [], 0, 0, fun _ => 0)
set_option maxRecDepth 100000 in
theorem okX7_eventCount : MOK MX7_eventCount 0 := ⟨rfl, UU_in 573 rfl rfl, UU_in 12 (by decide +kernel) rfl, ⟨by decide +kernel, by decide +kernel, by decide +kernel⟩, by decide⟩
theorem imX7_eventCount : Cond.instanceMethod yX7_eventCount ∈ UU := UU_in 571 (by decide +kernel) rfl
theorem seX7_eventCount : Cond.selects yX7_eventCount.cls yX7_eventCount yX7_eventCount ∈ UU := UU_in 572 (by decide +kernel) rfl
abbrev MX7_logSize : Mth := (yX7_logSize, cX7_logSize, 1, (some .int), [], 0, 0, fun _ => 0)
set_option maxRecDepth 100000 in
theorem okX7_logSize : MOK MX7_logSize 0 := ⟨rfl, UU_in 577 rfl rfl, UU_in 12 (by decide +kernel) rfl, ⟨by decide +kernel, by decide +kernel, by decide +kernel⟩, by decide⟩
theorem imX7_logSize : Cond.instanceMethod yX7_logSize ∈ UU := UU_in 575 (by decide +kernel) rfl
theorem seX7_logSize : Cond.selects yX7_logSize.cls yX7_logSize yX7_logSize ∈ UU := UU_in 576 (by decide +kernel) rfl
abbrev MX7_loggedRule : Mth := (yX7_loggedRule, cX7_loggedRule, 2, (some .int), [], 1, 0, fun _ => 0)
set_option maxRecDepth 100000 in
theorem okX7_loggedRule : MOK MX7_loggedRule 1 := ⟨rfl, UU_in 619 rfl rfl, UU_in 12 (by decide +kernel) rfl, ⟨by decide +kernel, by decide +kernel, by decide +kernel⟩, by decide⟩
theorem imX7_loggedRule : Cond.instanceMethod yX7_loggedRule ∈ UU := UU_in 617 (by decide +kernel) rfl
theorem seX7_loggedRule : Cond.selects yX7_loggedRule.cls yX7_loggedRule yX7_loggedRule ∈ UU := UU_in 618 (by decide +kernel) rfl
abbrev MX7_loggedDepth : Mth := (yX7_loggedDepth, cX7_loggedDepth, 2, (some .int), [], 1, 0, fun _ => 0)
set_option maxRecDepth 100000 in
theorem okX7_loggedDepth : MOK MX7_loggedDepth 1 := ⟨rfl, UU_in 629 rfl rfl, UU_in 12 (by decide +kernel) rfl, ⟨by decide +kernel, by decide +kernel, by decide +kernel⟩, by decide⟩
theorem imX7_loggedDepth : Cond.instanceMethod yX7_loggedDepth ∈ UU := UU_in 627 (by decide +kernel) rfl
theorem seX7_loggedDepth : Cond.selects yX7_loggedDepth.cls yX7_loggedDepth yX7_loggedDepth ∈ UU := UU_in 628 (by decide +kernel) rfl
abbrev MX7_canSetOff : Mth := (yX7_canSetOff, cX7_canSetOff, 3, (some .boolean), [], 1, 0, fun _ => 0)
set_option maxRecDepth 100000 in
theorem okX7_canSetOff : MOK MX7_canSetOff 2 := ⟨rfl, UU_in 648 rfl rfl, UU_in 12 (by decide +kernel) rfl, ⟨by decide +kernel, by decide +kernel, by decide +kernel⟩, by decide⟩
theorem imX7_canSetOff : Cond.instanceMethod yX7_canSetOff ∈ UU := UU_in 646 (by decide +kernel) rfl
theorem seX7_canSetOff : Cond.selects yX7_canSetOff.cls yX7_canSetOff yX7_canSetOff ∈ UU := UU_in 647 (by decide +kernel) rfl
abbrev MX7_reachOf : Mth := (yX7_reachOf, cX7_reachOf, 2, (some .int), [], 1, 0, fun _ => 0)
set_option maxRecDepth 100000 in
theorem okX7_reachOf : MOK MX7_reachOf 1 := ⟨rfl, UU_in 636 rfl rfl, UU_in 12 (by decide +kernel) rfl, ⟨by decide +kernel, by decide +kernel, by decide +kernel⟩, by decide⟩
theorem imX7_reachOf : Cond.instanceMethod yX7_reachOf ∈ UU := UU_in 634 (by decide +kernel) rfl
theorem seX7_reachOf : Cond.selects yX7_reachOf.cls yX7_reachOf yX7_reachOf ∈ UU := UU_in 635 (by decide +kernel) rfl
abbrev MX7_reachByTable : Mth := (yX7_reachByTable, cX7_reachByTable, 2, (some .int), [], 1, 0, fun _ => 0)
set_option maxRecDepth 100000 in
theorem okX7_reachByTable : MOK MX7_reachByTable 1 := ⟨rfl, UU_in 644 rfl rfl, UU_in 12 (by decide +kernel) rfl, ⟨by decide +kernel, by decide +kernel, by decide +kernel⟩, by decide⟩
theorem imX7_reachByTable : Cond.instanceMethod yX7_reachByTable ∈ UU := UU_in 642 (by decide +kernel) rfl
theorem seX7_reachByTable : Cond.selects yX7_reachByTable.cls yX7_reachByTable yX7_reachByTable ∈ UU := UU_in 643 (by decide +kernel) rfl
abbrev MX7_circularRules : Mth := (yX7_circularRules, cX7_circularRules, 3, (some .int), [], 0, 0, fun _ => 0)
set_option maxRecDepth 100000 in
theorem okX7_circularRules : MOK MX7_circularRules 0 := ⟨rfl, UU_in 581 rfl rfl, UU_in 12 (by decide +kernel) rfl, ⟨by decide +kernel, by decide +kernel, by decide +kernel⟩, by decide⟩
theorem imX7_circularRules : Cond.instanceMethod yX7_circularRules ∈ UU := UU_in 579 (by decide +kernel) rfl
theorem seX7_circularRules : Cond.selects yX7_circularRules.cls yX7_circularRules yX7_circularRules ∈ UU := UU_in 580 (by decide +kernel) rfl
abbrev MX7_undo : Mth := (yX7_undo, cX7_undo, 1, (some .int), [], 1, 0, fun _ => 0)
set_option maxRecDepth 100000 in
theorem okX7_undo : MOK MX7_undo 0 := ⟨rfl, UU_in 254 rfl rfl, UU_in 12 (by decide +kernel) rfl, ⟨by decide +kernel, by decide +kernel, by decide +kernel⟩, by decide⟩
theorem imX7_undo : Cond.instanceMethod yX7_undo ∈ UU := UU_in 252 (by decide +kernel) rfl
theorem seX7_undo : Cond.selects yX7_undo.cls yX7_undo yX7_undo ∈ UU := UU_in 253 (by decide +kernel) rfl
abbrev MX7_undoCount : Mth := (yX7_undoCount, cX7_undoCount, 1, (some .int), [], 0, 0, fun _ => 0)
set_option maxRecDepth 100000 in
theorem okX7_undoCount : MOK MX7_undoCount 0 := ⟨rfl, UU_in 349 rfl rfl, UU_in 12 (by decide +kernel) rfl, ⟨by decide +kernel, by decide +kernel, by decide +kernel⟩, by decide⟩
theorem imX7_undoCount : Cond.instanceMethod yX7_undoCount ∈ UU := UU_in 347 (by decide +kernel) rfl
theorem seX7_undoCount : Cond.selects yX7_undoCount.cls yX7_undoCount yX7_undoCount ∈ UU := UU_in 348 (by decide +kernel) rfl
abbrev MX7_isRow : Mth := (yX7_isRow, cX7_isRow, 1, (some .boolean), [], 0, 0, fun _ => 0)
set_option maxRecDepth 100000 in
theorem okX7_isRow : MOK MX7_isRow 1 := ⟨rfl, UU_in 472 rfl rfl, UU_in 12 (by decide +kernel) rfl, ⟨by decide +kernel, by decide +kernel, by decide +kernel⟩, by decide⟩
theorem stX7_isRow : Cond.static yX7_isRow ∈ UU := UU_in 471 (by decide +kernel) rfl
abbrev MX7_isColumn : Mth := (yX7_isColumn, cX7_isColumn, 1, (some .boolean), [], 0, 0, fun _ => 0)
set_option maxRecDepth 100000 in
theorem okX7_isColumn : MOK MX7_isColumn 1 := ⟨rfl, UU_in 376 rfl rfl, UU_in 12 (by decide +kernel) rfl, ⟨by decide +kernel, by decide +kernel, by decide +kernel⟩, by decide⟩
theorem stX7_isColumn : Cond.static yX7_isColumn ∈ UU := UU_in 375 (by decide +kernel) rfl
abbrev MX7_isValue : Mth := (yX7_isValue, cX7_isValue, 1, (some .boolean), [], 0, 0, fun _ => 0)
set_option maxRecDepth 100000 in
theorem okX7_isValue : MOK MX7_isValue 1 := ⟨rfl, UU_in 379 rfl rfl, UU_in 12 (by decide +kernel) rfl, ⟨by decide +kernel, by decide +kernel, by decide +kernel⟩, by decide⟩
theorem stX7_isValue : Cond.static yX7_isValue ∈ UU := UU_in 378 (by decide +kernel) rfl
abbrev MX7_cell : Mth := (yX7_cell, cX7_cell, 2, (some .int), [], 0, 0, fun _ => 0)
set_option maxRecDepth 100000 in
theorem okX7_cell : MOK MX7_cell 2 := ⟨rfl, UU_in 499 rfl rfl, UU_in 12 (by decide +kernel) rfl, ⟨by decide +kernel, by decide +kernel, by decide +kernel⟩, by decide⟩
theorem stX7_cell : Cond.static yX7_cell ∈ UU := UU_in 498 (by decide +kernel) rfl
abbrev MX7_checkRow : Mth := (yX7_checkRow, cX7_checkRow, 1, none, [], 1, 0, fun _ => 0)
set_option maxRecDepth 100000 in
theorem okX7_checkRow : MOK MX7_checkRow 1 := ⟨rfl, UU_in 469 rfl rfl, UU_in 12 (by decide +kernel) rfl, ⟨by decide +kernel, by decide +kernel, by decide +kernel⟩, by decide⟩
theorem stX7_checkRow : Cond.static yX7_checkRow ∈ UU := UU_in 468 (by decide +kernel) rfl
abbrev MX7_checkColumn : Mth := (yX7_checkColumn, cX7_checkColumn, 1, none, [], 1, 0, fun _ => 0)
set_option maxRecDepth 100000 in
theorem okX7_checkColumn : MOK MX7_checkColumn 1 := ⟨rfl, UU_in 476 rfl rfl, UU_in 12 (by decide +kernel) rfl, ⟨by decide +kernel, by decide +kernel, by decide +kernel⟩, by decide⟩
theorem stX7_checkColumn : Cond.static yX7_checkColumn ∈ UU := UU_in 475 (by decide +kernel) rfl
abbrev MX7_checkValue : Mth := (yX7_checkValue, cX7_checkValue, 1, none, [], 1, 0, fun _ => 0)
set_option maxRecDepth 100000 in
theorem okX7_checkValue : MOK MX7_checkValue 1 := ⟨rfl, UU_in 480 rfl rfl, UU_in 12 (by decide +kernel) rfl, ⟨by decide +kernel, by decide +kernel, by decide +kernel⟩, by decide⟩
theorem stX7_checkValue : Cond.static yX7_checkValue ∈ UU := UU_in 479 (by decide +kernel) rfl
abbrev MX7_checkRule : Mth := (yX7_checkRule, cX7_checkRule, 2, none, [], 1, 0, fun _ => 0)
set_option maxRecDepth 100000 in
theorem okX7_checkRule : MOK MX7_checkRule 1 := ⟨rfl, UU_in 415 rfl rfl, UU_in 12 (by decide +kernel) rfl, ⟨by decide +kernel, by decide +kernel, by decide +kernel⟩, by decide⟩
theorem imX7_checkRule : Cond.instanceMethod yX7_checkRule ∈ UU := UU_in 414 (by decide +kernel) rfl
theorem seX7_checkRule : Cond.selects yX7_checkRule.cls yX7_checkRule yX7_checkRule ∈ UU := UU_in 1 (by decide +kernel) rfl
abbrev MX7_checkAgo : Mth := (yX7_checkAgo, cX7_checkAgo, 2, none, [], 1, 0, fun _ => 0)
set_option maxRecDepth 100000 in
theorem okX7_checkAgo : MOK MX7_checkAgo 1 := ⟨rfl, UU_in 623 rfl rfl, UU_in 12 (by decide +kernel) rfl, ⟨by decide +kernel, by decide +kernel, by decide +kernel⟩, by decide⟩
theorem imX7_checkAgo : Cond.instanceMethod yX7_checkAgo ∈ UU := UU_in 622 (by decide +kernel) rfl
theorem seX7_checkAgo : Cond.selects yX7_checkAgo.cls yX7_checkAgo yX7_checkAgo ∈ UU := UU_in 10 (by decide +kernel) rfl
abbrev MJ9_floorMod_7cf53 : Mth := (yJ9_floorMod_7cf53, cJ9_floorMod_7cf53, 3, (some .int), [], 0, 0, fun _ => 0)
set_option maxRecDepth 100000 in
theorem okJ9_floorMod_7cf53 : MOK MJ9_floorMod_7cf53 2 := ⟨rfl, UU_in 329 rfl rfl, UU_in 26 (by decide +kernel) rfl, ⟨by decide +kernel, by decide +kernel, by decide +kernel⟩, by decide⟩
theorem stJ9_floorMod_7cf53 : Cond.static yJ9_floorMod_7cf53 ∈ UU := UU_in 328 (by decide +kernel) rfl
abbrev ML_cell : Mth := (yL_cell, cL_cell, 2, (some .int), [], 0, 0, fun _ => 0)
set_option maxRecDepth 100000 in
theorem okL_cell : MOK ML_cell 2 := ⟨rfl, UU_in 352 rfl rfl, UU_in 11 (by decide +kernel) rfl, ⟨by decide +kernel, by decide +kernel, by decide +kernel⟩, by decide⟩
theorem stL_cell : Cond.static yL_cell ∈ UU := UU_in 351 (by decide +kernel) rfl
abbrev ML_low : Mth := (yL_low, cL_low, 2, (some .int), [], 0, 0, fun _ => 0)
set_option maxRecDepth 100000 in
theorem okL_low : MOK ML_low 2 := ⟨rfl, UU_in 355 rfl rfl, UU_in 11 (by decide +kernel) rfl, ⟨by decide +kernel, by decide +kernel, by decide +kernel⟩, by decide⟩
theorem stL_low : Cond.static yL_low ∈ UU := UU_in 354 (by decide +kernel) rfl
abbrev ML_changes : Mth := (yL_changes, cL_changes, 7, (some .int), [((0), (87), (90), (31)), ((0), (87), (94), (33)), ((0), (87), (98), (35))], 0, 0, fun _ => 0)
set_option maxRecDepth 100000 in
theorem cwL_changes : Cond.codeWith (mY ML_changes) (mC ML_changes) (mL ML_changes) (mR ML_changes) (mH ML_changes) ∈ UU := UU_in 366 rfl rfl
theorem stL_changes : Cond.static yL_changes ∈ UU := UU_in 365 (by decide +kernel) rfl
abbrev ML_inserts : Mth := (yL_inserts, cL_inserts, 6, (some .int), [((0), (29), (32), (31)), ((0), (29), (36), (33)), ((0), (29), (40), (35))], 0, 0, fun _ => 0)
set_option maxRecDepth 100000 in
theorem cwL_inserts : Cond.codeWith (mY ML_inserts) (mC ML_inserts) (mL ML_inserts) (mR ML_inserts) (mH ML_inserts) ∈ UU := UU_in 549 rfl rfl
theorem stL_inserts : Cond.static yL_inserts ∈ UU := UU_in 548 (by decide +kernel) rfl
abbrev ML_actions : Mth := (yL_actions, cL_actions, 6, (some .int), [((0), (72), (75), (31)), ((0), (72), (79), (33))], 0, 0, fun _ => 0)
set_option maxRecDepth 100000 in
theorem cwL_actions : Cond.codeWith (mY ML_actions) (mC ML_actions) (mL ML_actions) (mR ML_actions) (mH ML_actions) ∈ UU := UU_in 541 rfl rfl
theorem stL_actions : Cond.static yL_actions ∈ UU := UU_in 540 (by decide +kernel) rfl
abbrev ML_act : Mth := (yL_act, cL_act, 8, (some .int), [], 0, 0, fun _ => 0)
set_option maxRecDepth 100000 in
theorem okL_act : MOK ML_act 3 := ⟨rfl, UU_in 359 rfl rfl, UU_in 11 (by decide +kernel) rfl, ⟨by decide +kernel, by decide +kernel, by decide +kernel⟩, by decide⟩
theorem stL_act : Cond.static yL_act ∈ UU := UU_in 358 (by decide +kernel) rfl
abbrev ML_areAlike : Mth := (yL_areAlike, cL_areAlike, 5, (some .boolean), [], 0, 0, fun _ => 0)
set_option maxRecDepth 100000 in
theorem okL_areAlike : MOK ML_areAlike 2 := ⟨rfl, UU_in 561 rfl rfl, UU_in 11 (by decide +kernel) rfl, ⟨by decide +kernel, by decide +kernel, by decide +kernel⟩, by decide⟩
theorem stL_areAlike : Cond.static yL_areAlike ∈ UU := UU_in 560 (by decide +kernel) rfl
abbrev ML_isTableSo : Mth := (yL_isTableSo, cL_isTableSo, 9, (some .boolean), [], 0, 0, fun _ => 0)
set_option maxRecDepth 100000 in
theorem okL_isTableSo : MOK ML_isTableSo 1 := ⟨rfl, UU_in 632 rfl rfl, UU_in 11 (by decide +kernel) rfl, ⟨by decide +kernel, by decide +kernel, by decide +kernel⟩, by decide⟩
theorem stL_isTableSo : Cond.static yL_isTableSo ∈ UU := UU_in 631 (by decide +kernel) rfl
abbrev ML_isUpdateSo : Mth := (yL_isUpdateSo, cL_isUpdateSo, 15, (some .boolean), [], 0, 0, fun _ => 0)
set_option maxRecDepth 100000 in
theorem okL_isUpdateSo : MOK ML_isUpdateSo 5 := ⟨rfl, UU_in 656 rfl rfl, UU_in 11 (by decide +kernel) rfl, ⟨by decide +kernel, by decide +kernel, by decide +kernel⟩, by decide⟩
theorem stL_isUpdateSo : Cond.static yL_isUpdateSo ∈ UU := UU_in 655 (by decide +kernel) rfl
theorem okObj : Cond.instanceMethod objectInit ∈ UU := UU_in 34 (by decide +kernel) rfl
set_option maxRecDepth 100000 in
theorem coObj : Cond.code objectInit ⟨#[0xb1]⟩ 1 none ∈ UU := UU_in 35 rfl rfl
theorem st_max : Cond.static Lib.Math.max.name ∈ UU := UU_in 517 (by decide +kernel) rfl
set_option maxRecDepth 100000 in
theorem co_max : Cond.code Lib.Math.max.name Lib.Math.max.code 2 (some .int) ∈ UU := UU_in 518 rfl rfl
theorem st_min : Cond.static Lib.Math.min.name ∈ UU := UU_in 402 (by decide +kernel) rfl
set_option maxRecDepth 100000 in
theorem co_min : Cond.code Lib.Math.min.name Lib.Math.min.code 2 (some .int) ∈ UU := UU_in 403 rfl rfl
theorem in_Math : Cond.initialized "java/lang/Math" ∈ UU := UU_in 26 (by decide +kernel) rfl
theorem in_Sys : Cond.initialized "java/lang/System" ∈ UU := UU_in 25 (by decide +kernel) rfl
theorem na_copy : Cond.native arraycopyName ∈ UU := UU_in 336 (by decide +kernel) rfl
theorem st_copy : Cond.static arraycopyName ∈ UU := UU_in 335 (by decide +kernel) rfl
theorem ckL_9 : Cond.classLink RL 9 "RowTriggers" ∈ UU := UU_in 28 (by decide +kernel) rfl
theorem itX7 : Cond.instantiable RX7 7 ∈ UU := UU_in 29 (by decide +kernel) rfl
theorem iiX7 : Cond.initialized RX7 ∈ UU := UU_in 12 (by decide +kernel) rfl
theorem mkL_128 : Cond.methodLink RL 128 yX7_init ∈ UU := UU_in 30 (by decide +kernel) rfl
theorem mkX7_1 : Cond.methodLink RX7 1 objectInit ∈ UU := UU_in 33 (by decide +kernel) rfl
theorem ckX7_7 : Cond.classLink RX7 7 "RowTriggers$State" ∈ UU := UU_in 36 (by decide +kernel) rfl
theorem itX4 : Cond.instantiable RX4 7 ∈ UU := UU_in 37 (by decide +kernel) rfl
theorem iiX4 : Cond.initialized RX4 ∈ UU := UU_in 13 (by decide +kernel) rfl
theorem mkX7_9 : Cond.methodLink RX7 9 yX4_init ∈ UU := UU_in 38 (by decide +kernel) rfl
theorem mkX4_3 : Cond.methodLink RX4 3 objectInit ∈ UU := UU_in 41 (by decide +kernel) rfl
theorem ckX4_19 : Cond.classLink RX4 19 "RowTriggers$Rule" ∈ UU := UU_in 42 (by decide +kernel) rfl
theorem ckX4_25 : Cond.classLink RX4 25 "RowTriggers$Log" ∈ UU := UU_in 44 (by decide +kernel) rfl
theorem itX2 : Cond.instantiable RX2 4 ∈ UU := UU_in 45 (by decide +kernel) rfl
theorem iiX2 : Cond.initialized RX2 ∈ UU := UU_in 14 (by decide +kernel) rfl
theorem mkX4_27 : Cond.methodLinkNest RX4 27 yX2_init "RowTriggers" ∈ UN := UN_in 46 (by decide +kernel) rfl
theorem mkX2_3 : Cond.methodLink RX2 3 objectInit ∈ UU := UU_in 49 (by decide +kernel) rfl
theorem fkX2_9 : Cond.fieldLink RX2 9 "RowTriggers$Log" "rules" "[I" ∈ UU := UU_in 50 (by decide +kernel) rfl
theorem fkX7_199 : Cond.fieldLink RX7 199 "RowTriggers$Log" "rules" "[I" ∈ UU := UU_in 51 (by decide +kernel) rfl
theorem fkX2_15 : Cond.fieldLink RX2 15 "RowTriggers$Log" "depths" "[I" ∈ UU := UU_in 52 (by decide +kernel) rfl
theorem fkX7_205 : Cond.fieldLink RX7 205 "RowTriggers$Log" "depths" "[I" ∈ UU := UU_in 53 (by decide +kernel) rfl
theorem fkX2_24 : Cond.fieldLink RX2 24 "RowTriggers$Log" "size" "I" ∈ UU := UU_in 54 (by decide +kernel) rfl
theorem fkX7_191 : Cond.fieldLink RX7 191 "RowTriggers$Log" "size" "I" ∈ UU := UU_in 55 (by decide +kernel) rfl
theorem fkX2_28 : Cond.fieldLink RX2 28 "RowTriggers$Log" "latest" "I" ∈ UU := UU_in 56 (by decide +kernel) rfl
theorem ac_boolean : Cond.arrayClass .boolean ∈ UU := UU_in 66 (by decide +kernel) rfl
theorem ac_int : Cond.arrayClass .int ∈ UU := UU_in 67 (by decide +kernel) rfl
theorem itX3 : Cond.instantiable RX3 9 ∈ UU := UU_in 68 (by decide +kernel) rfl
theorem iiX3 : Cond.initialized RX3 ∈ UU := UU_in 15 (by decide +kernel) rfl
theorem mkX4_36 : Cond.methodLinkNest RX4 36 yX3_init "RowTriggers" ∈ UN := UN_in 69 (by decide +kernel) rfl
theorem mkX3_3 : Cond.methodLink RX3 3 objectInit ∈ UU := UU_in 72 (by decide +kernel) rfl
theorem fkX3_9 : Cond.fieldLink RX3 9 "RowTriggers$Rule" "event" "I" ∈ UU := UU_in 73 (by decide +kernel) rfl
theorem fkX5_125 : Cond.fieldLink RX5 125 "RowTriggers$Rule" "event" "I" ∈ UU := UU_in 74 (by decide +kernel) rfl
theorem fkX3_15 : Cond.fieldLink RX3 15 "RowTriggers$Rule" "column" "I" ∈ UU := UU_in 75 (by decide +kernel) rfl
theorem fkX5_128 : Cond.fieldLink RX5 128 "RowTriggers$Rule" "column" "I" ∈ UU := UU_in 76 (by decide +kernel) rfl
theorem fkX3_18 : Cond.fieldLink RX3 18 "RowTriggers$Rule" "least" "I" ∈ UU := UU_in 77 (by decide +kernel) rfl
theorem fkX5_131 : Cond.fieldLink RX5 131 "RowTriggers$Rule" "least" "I" ∈ UU := UU_in 78 (by decide +kernel) rfl
theorem fkX3_21 : Cond.fieldLink RX3 21 "RowTriggers$Rule" "action" "I" ∈ UU := UU_in 79 (by decide +kernel) rfl
theorem fkX7_98 : Cond.fieldLink RX7 98 "RowTriggers$Rule" "action" "I" ∈ UU := UU_in 80 (by decide +kernel) rfl
theorem fkX5_109 : Cond.fieldLink RX5 109 "RowTriggers$Rule" "action" "I" ∈ UU := UU_in 81 (by decide +kernel) rfl
theorem fkX3_24 : Cond.fieldLink RX3 24 "RowTriggers$Rule" "targetRow" "I" ∈ UU := UU_in 82 (by decide +kernel) rfl
theorem fkX7_101 : Cond.fieldLink RX7 101 "RowTriggers$Rule" "targetRow" "I" ∈ UU := UU_in 83 (by decide +kernel) rfl
theorem fkX5_106 : Cond.fieldLink RX5 106 "RowTriggers$Rule" "targetRow" "I" ∈ UU := UU_in 84 (by decide +kernel) rfl
theorem fkX3_27 : Cond.fieldLink RX3 27 "RowTriggers$Rule" "targetColumn" "I" ∈ UU := UU_in 85 (by decide +kernel) rfl
theorem fkX7_104 : Cond.fieldLink RX7 104 "RowTriggers$Rule" "targetColumn" "I" ∈ UU := UU_in 86 (by decide +kernel) rfl
theorem fkX5_112 : Cond.fieldLink RX5 112 "RowTriggers$Rule" "targetColumn" "I" ∈ UU := UU_in 87 (by decide +kernel) rfl
theorem fkX3_30 : Cond.fieldLink RX3 30 "RowTriggers$Rule" "amount" "I" ∈ UU := UU_in 88 (by decide +kernel) rfl
theorem fkX7_107 : Cond.fieldLink RX7 107 "RowTriggers$Rule" "amount" "I" ∈ UU := UU_in 89 (by decide +kernel) rfl
theorem fkX5_115 : Cond.fieldLink RX5 115 "RowTriggers$Rule" "amount" "I" ∈ UU := UU_in 90 (by decide +kernel) rfl
theorem fkX3_33 : Cond.fieldLink RX3 33 "RowTriggers$Rule" "muted" "Z" ∈ UU := UU_in 91 (by decide +kernel) rfl
theorem fkX7_110 : Cond.fieldLink RX7 110 "RowTriggers$Rule" "muted" "Z" ∈ UU := UU_in 92 (by decide +kernel) rfl
theorem fkX5_121 : Cond.fieldLink RX5 121 "RowTriggers$Rule" "muted" "Z" ∈ UU := UU_in 93 (by decide +kernel) rfl
theorem fkX3_37 : Cond.fieldLink RX3 37 "RowTriggers$Rule" "acts" "I" ∈ UU := UU_in 94 (by decide +kernel) rfl
theorem fkX7_114 : Cond.fieldLink RX7 114 "RowTriggers$Rule" "acts" "I" ∈ UU := UU_in 95 (by decide +kernel) rfl
theorem fkX5_92 : Cond.fieldLink RX5 92 "RowTriggers$Rule" "acts" "I" ∈ UU := UU_in 96 (by decide +kernel) rfl
theorem fkX4_9 : Cond.fieldLink RX4 9 "RowTriggers$State" "there" "[Z" ∈ UU := UU_in 116 (by decide +kernel) rfl
theorem fkX5_39 : Cond.fieldLink RX5 39 "RowTriggers$State" "there" "[Z" ∈ UU := UU_in 117 (by decide +kernel) rfl
theorem fkX4_15 : Cond.fieldLink RX4 15 "RowTriggers$State" "values" "[I" ∈ UU := UU_in 118 (by decide +kernel) rfl
theorem fkX5_43 : Cond.fieldLink RX5 43 "RowTriggers$State" "values" "[I" ∈ UU := UU_in 119 (by decide +kernel) rfl
theorem fkX7_178 : Cond.fieldLink RX7 178 "RowTriggers$State" "values" "[I" ∈ UU := UU_in 120 (by decide +kernel) rfl
theorem fkX4_21 : Cond.fieldLink RX4 21 "RowTriggers$State" "rules" "[LRowTriggers$Rule;" ∈ UU := UU_in 121 (by decide +kernel) rfl
theorem fkX0_21 : Cond.fieldLink RX0 21 "RowTriggers$State" "rules" "[LRowTriggers$Rule;" ∈ UU := UU_in 122 (by decide +kernel) rfl
theorem fkX7_79 : Cond.fieldLink RX7 79 "RowTriggers$State" "rules" "[LRowTriggers$Rule;" ∈ UU := UU_in 123 (by decide +kernel) rfl
theorem fkX5_88 : Cond.fieldLink RX5 88 "RowTriggers$State" "rules" "[LRowTriggers$Rule;" ∈ UU := UU_in 124 (by decide +kernel) rfl
theorem fkX4_28 : Cond.fieldLink RX4 28 "RowTriggers$State" "log" "LRowTriggers$Log;" ∈ UU := UU_in 125 (by decide +kernel) rfl
theorem fkX5_97 : Cond.fieldLink RX5 97 "RowTriggers$State" "log" "LRowTriggers$Log;" ∈ UU := UU_in 126 (by decide +kernel) rfl
theorem fkX7_187 : Cond.fieldLink RX7 187 "RowTriggers$State" "log" "LRowTriggers$Log;" ∈ UU := UU_in 127 (by decide +kernel) rfl
theorem fkX0_15 : Cond.fieldLink RX0 15 "RowTriggers$State" "rulesUsed" "I" ∈ UU := UU_in 128 (by decide +kernel) rfl
theorem fkX7_66 : Cond.fieldLink RX7 66 "RowTriggers$State" "rulesUsed" "I" ∈ UU := UU_in 129 (by decide +kernel) rfl
theorem fkX4_43 : Cond.fieldLink RX4 43 "RowTriggers$State" "rulesUsed" "I" ∈ UU := UU_in 130 (by decide +kernel) rfl
theorem fkX5_81 : Cond.fieldLink RX5 81 "RowTriggers$State" "rulesUsed" "I" ∈ UU := UU_in 131 (by decide +kernel) rfl
theorem fkX4_32 : Cond.fieldLink RX4 32 "RowTriggers$State" "depth" "I" ∈ UU := UU_in 132 (by decide +kernel) rfl
theorem fkX5_61 : Cond.fieldLink RX5 61 "RowTriggers$State" "depth" "I" ∈ UU := UU_in 133 (by decide +kernel) rfl
theorem fkX7_122 : Cond.fieldLink RX7 122 "RowTriggers$State" "depth" "I" ∈ UU := UU_in 134 (by decide +kernel) rfl
theorem fkX4_53 : Cond.fieldLink RX4 53 "RowTriggers$State" "events" "I" ∈ UU := UU_in 135 (by decide +kernel) rfl
theorem fkX5_75 : Cond.fieldLink RX5 75 "RowTriggers$State" "events" "I" ∈ UU := UU_in 136 (by decide +kernel) rfl
theorem fkX7_186 : Cond.fieldLink RX7 186 "RowTriggers$State" "events" "I" ∈ UU := UU_in 137 (by decide +kernel) rfl
theorem ckX7_16 : Cond.classLink RX7 16 "RowTriggers$Statement" ∈ UU := UU_in 153 (by decide +kernel) rfl
theorem itX5 : Cond.instantiable RX5 4 ∈ UU := UU_in 154 (by decide +kernel) rfl
theorem iiX5 : Cond.initialized RX5 ∈ UU := UU_in 16 (by decide +kernel) rfl
theorem mkX7_18 : Cond.methodLinkNest RX7 18 yX5_init "RowTriggers" ∈ UN := UN_in 155 (by decide +kernel) rfl
theorem mkX5_3 : Cond.methodLink RX5 3 objectInit ∈ UU := UU_in 158 (by decide +kernel) rfl
theorem ckX5_9 : Cond.classLink RX5 9 "RowTriggers$State" ∈ UU := UU_in 159 (by decide +kernel) rfl
theorem mkX5_11 : Cond.methodLink RX5 11 yX4_init ∈ UU := UU_in 160 (by decide +kernel) rfl
theorem fkX5_12 : Cond.fieldLink RX5 12 "RowTriggers$Statement" "state" "LRowTriggers$State;" ∈ UU := UU_in 161 (by decide +kernel) rfl
theorem fkX7_164 : Cond.fieldLink RX7 164 "RowTriggers$Statement" "state" "LRowTriggers$State;" ∈ UU := UU_in 162 (by decide +kernel) rfl
theorem fkX5_22 : Cond.fieldLink RX5 22 "RowTriggers$Statement" "events" "I" ∈ UU := UU_in 163 (by decide +kernel) rfl
theorem fkX7_149 : Cond.fieldLink RX7 149 "RowTriggers$Statement" "events" "I" ∈ UU := UU_in 164 (by decide +kernel) rfl
theorem fkX5_26 : Cond.fieldLink RX5 26 "RowTriggers$Statement" "deepest" "I" ∈ UU := UU_in 165 (by decide +kernel) rfl
theorem fkX7_152 : Cond.fieldLink RX7 152 "RowTriggers$Statement" "deepest" "I" ∈ UU := UU_in 166 (by decide +kernel) rfl
theorem fkX5_29 : Cond.fieldLink RX5 29 "RowTriggers$Statement" "refusal" "I" ∈ UU := UU_in 167 (by decide +kernel) rfl
theorem fkX7_146 : Cond.fieldLink RX7 146 "RowTriggers$Statement" "refusal" "I" ∈ UU := UU_in 168 (by decide +kernel) rfl
theorem ckX7_23 : Cond.classLink RX7 23 "RowTriggers$Chains" ∈ UU := UU_in 178 (by decide +kernel) rfl
theorem itX0 : Cond.instantiable RX0 1 ∈ UU := UU_in 179 (by decide +kernel) rfl
theorem iiX0 : Cond.initialized RX0 ∈ UU := UU_in 17 (by decide +kernel) rfl
theorem mkX7_25 : Cond.methodLinkNest RX7 25 yX0_init "RowTriggers" ∈ UN := UN_in 180 (by decide +kernel) rfl
theorem mkX0_3 : Cond.methodLink RX0 3 objectInit ∈ UU := UU_in 183 (by decide +kernel) rfl
theorem fkX0_9 : Cond.fieldLink RX0 9 "RowTriggers$Chains" "table" "[I" ∈ UU := UU_in 184 (by decide +kernel) rfl
theorem fkX7_219 : Cond.fieldLink RX7 219 "RowTriggers$Chains" "table" "[I" ∈ UU := UU_in 185 (by decide +kernel) rfl
theorem ckX7_30 : Cond.classLink RX7 30 "RowTriggers$Text" ∈ UU := UU_in 189 (by decide +kernel) rfl
theorem itX6 : Cond.instantiable RX6 5 ∈ UU := UU_in 190 (by decide +kernel) rfl
theorem iiX6 : Cond.initialized RX6 ∈ UU := UU_in 18 (by decide +kernel) rfl
theorem mkX7_32 : Cond.methodLinkNest RX7 32 yX6_init "RowTriggers" ∈ UN := UN_in 191 (by decide +kernel) rfl
theorem mkX6_3 : Cond.methodLink RX6 3 objectInit ∈ UU := UU_in 194 (by decide +kernel) rfl
theorem fkX6_9 : Cond.fieldLink RX6 9 "RowTriggers$Text" "signs" "[C" ∈ UU := UU_in 195 (by decide +kernel) rfl
theorem fkX6_15 : Cond.fieldLink RX6 15 "RowTriggers$Text" "numbers" "[I" ∈ UU := UU_in 196 (by decide +kernel) rfl
theorem ac_char : Cond.arrayClass .char ∈ UU := UU_in 208 (by decide +kernel) rfl
theorem ckX7_37 : Cond.classLink RX7 37 "RowTriggers$History" ∈ UU := UU_in 209 (by decide +kernel) rfl
theorem itX1 : Cond.instantiable RX1 3 ∈ UU := UU_in 210 (by decide +kernel) rfl
theorem iiX1 : Cond.initialized RX1 ∈ UU := UU_in 19 (by decide +kernel) rfl
theorem mkX7_39 : Cond.methodLink RX7 39 yX1_init ∈ UU := UU_in 211 (by decide +kernel) rfl
theorem mkX1_3 : Cond.methodLink RX1 3 objectInit ∈ UU := UU_in 214 (by decide +kernel) rfl
theorem ckX1_9 : Cond.classLink RX1 9 "RowTriggers$State" ∈ UU := UU_in 215 (by decide +kernel) rfl
theorem mkX1_17 : Cond.methodLink RX1 17 yX4_init ∈ UU := UU_in 217 (by decide +kernel) rfl
theorem fkX1_11 : Cond.fieldLink RX1 11 "RowTriggers$History" "states" "[LRowTriggers$State;" ∈ UU := UU_in 218 (by decide +kernel) rfl
theorem fkX1_26 : Cond.fieldLink RX1 26 "RowTriggers$History" "size" "I" ∈ UU := UU_in 219 (by decide +kernel) rfl
theorem fkX7_269 : Cond.fieldLink RX7 269 "RowTriggers$History" "size" "I" ∈ UU := UU_in 220 (by decide +kernel) rfl
theorem fkX1_18 : Cond.fieldLink RX1 18 "RowTriggers$History" "next" "I" ∈ UU := UU_in 221 (by decide +kernel) rfl
theorem fkX7_10 : Cond.fieldLink RX7 10 "RowTriggers" "now" "LRowTriggers$State;" ∈ UU := UU_in 229 (by decide +kernel) rfl
theorem fkX7_19 : Cond.fieldLink RX7 19 "RowTriggers" "trial" "LRowTriggers$Statement;" ∈ UU := UU_in 230 (by decide +kernel) rfl
theorem fkX7_26 : Cond.fieldLink RX7 26 "RowTriggers" "chains" "LRowTriggers$Chains;" ∈ UU := UU_in 231 (by decide +kernel) rfl
theorem fkX7_33 : Cond.fieldLink RX7 33 "RowTriggers" "text" "LRowTriggers$Text;" ∈ UU := UU_in 232 (by decide +kernel) rfl
theorem fkX7_40 : Cond.fieldLink RX7 40 "RowTriggers" "history" "LRowTriggers$History;" ∈ UU := UU_in 233 (by decide +kernel) rfl
theorem fkX7_44 : Cond.fieldLink RX7 44 "RowTriggers" "slots" "[LRowTriggers$State;" ∈ UU := UU_in 234 (by decide +kernel) rfl
theorem fkX7_48 : Cond.fieldLink RX7 48 "RowTriggers" "slotIsFilled" "[Z" ∈ UU := UU_in 235 (by decide +kernel) rfl
theorem mkL_125 : Cond.methodLink RL 125 yX7_undo ∈ UU := UU_in 251 (by decide +kernel) rfl
theorem ckX7_70 : Cond.classLink RX7 70 "java/lang/IllegalStateException" ∈ UU := UU_in 255 (by decide +kernel) rfl
theorem mkX7_272 : Cond.methodLink RX7 272 yX1_takeBack ∈ UU := UU_in 323 (by decide +kernel) rfl
theorem mkX1_35 : Cond.methodLink RX1 35 yJ9_floorMod_7cf53 ∈ UU := UU_in 327 (by decide +kernel) rfl
theorem mkX1_22 : Cond.methodLink RX1 22 yX4_copyFrom ∈ UU := UU_in 330 (by decide +kernel) rfl
theorem mkX4_37 : Cond.methodLink RX4 37 arraycopyName ∈ UU := UU_in 334 (by decide +kernel) rfl
theorem mkX4_46 : Cond.methodLink RX4 46 yX3_copyFrom ∈ UU := UU_in 337 (by decide +kernel) rfl
theorem mkX4_50 : Cond.methodLink RX4 50 yX2_copyFrom ∈ UU := UU_in 341 (by decide +kernel) rfl
theorem mkX2_18 : Cond.methodLink RX2 18 arraycopyName ∈ UU := UU_in 345 (by decide +kernel) rfl
theorem mkL_122 : Cond.methodLink RL 122 yX7_undoCount ∈ UU := UU_in 346 (by decide +kernel) rfl
theorem mkL_129 : Cond.methodLink RL 129 yL_cell ∈ UU := UU_in 350 (by decide +kernel) rfl
theorem mkL_37 : Cond.methodLink RL 37 yL_low ∈ UU := UU_in 353 (by decide +kernel) rfl
theorem mkL_133 : Cond.methodLink RL 133 yL_act ∈ UU := UU_in 357 (by decide +kernel) rfl
theorem mkL_51 : Cond.methodLink RL 51 yX7_ruleCount ∈ UU := UU_in 360 (by decide +kernel) rfl
theorem mkL_55 : Cond.methodLink RL 55 yL_changes ∈ UU := UU_in 364 (by decide +kernel) rfl
theorem ckL_31 : Cond.classLink RL 31 "java/lang/IndexOutOfBoundsException" ∈ UU := UU_in 367 (by decide +kernel) rfl
theorem ckL_33 : Cond.classLink RL 33 "java/lang/IllegalArgumentException" ∈ UU := UU_in 368 (by decide +kernel) rfl
theorem ckL_35 : Cond.classLink RL 35 "java/lang/IllegalStateException" ∈ UU := UU_in 369 (by decide +kernel) rfl
theorem mkL_8 : Cond.methodLink RL 8 yX7_addRule ∈ UU := UU_in 370 (by decide +kernel) rfl
theorem mkX7_52 : Cond.methodLink RX7 52 yX7_isColumn ∈ UU := UU_in 374 (by decide +kernel) rfl
theorem mkX7_56 : Cond.methodLink RX7 56 yX7_isValue ∈ UU := UU_in 377 (by decide +kernel) rfl
theorem ckX7_59 : Cond.classLink RX7 59 "java/lang/IllegalArgumentException" ∈ UU := UU_in 380 (by decide +kernel) rfl
theorem mkX7_75 : Cond.methodLink RX7 75 yX1_keep ∈ UU := UU_in 397 (by decide +kernel) rfl
theorem mkX1_29 : Cond.methodLink RX1 29 yJ9_min_7cf53 ∈ UU := UU_in 401 (by decide +kernel) rfl
theorem mkX7_83 : Cond.methodLink RX7 83 yX3_start ∈ UU := UU_in 404 (by decide +kernel) rfl
theorem mkL_14 : Cond.methodLink RL 14 yX7_turnMute ∈ UU := UU_in 408 (by decide +kernel) rfl
theorem mkX7_89 : Cond.methodLink RX7 89 yX7_checkRule ∈ UU := UU_in 412 (by decide +kernel) rfl
theorem ckX7_280 : Cond.classLink RX7 280 "java/lang/IndexOutOfBoundsException" ∈ UU := UU_in 416 (by decide +kernel) rfl
theorem mkL_18 : Cond.methodLink RL 18 yX7_dropRule ∈ UU := UU_in 432 (by decide +kernel) rfl
theorem mkX7_117 : Cond.methodLink RX7 117 yX4_takeRuleAway ∈ UU := UU_in 436 (by decide +kernel) rfl
theorem mkX4_60 : Cond.methodLink RX4 60 yX2_forget ∈ UU := UU_in 440 (by decide +kernel) rfl
theorem mkX2_40 : Cond.methodLink RX2 40 yX2_placeOf ∈ UU := UU_in 444 (by decide +kernel) rfl
theorem mkX2_31 : Cond.methodLink RX2 31 yJ9_floorMod_7cf53 ∈ UU := UU_in 448 (by decide +kernel) rfl
theorem mkX2_44 : Cond.methodLink RX2 44 yX2_note ∈ UU := UU_in 449 (by decide +kernel) rfl
theorem mkX2_37 : Cond.methodLink RX2 37 yJ9_min_7cf53 ∈ UU := UU_in 453 (by decide +kernel) rfl
theorem mkL_22 : Cond.methodLink RL 22 yX7_setDepth ∈ UU := UU_in 454 (by decide +kernel) rfl
theorem mkL_25 : Cond.methodLink RL 25 yX7_update ∈ UU := UU_in 459 (by decide +kernel) rfl
theorem mkX7_139 : Cond.methodLink RX7 139 yX7_tryUpdate ∈ UU := UU_in 463 (by decide +kernel) rfl
theorem mkX7_125 : Cond.methodLink RX7 125 yX7_checkRow ∈ UU := UU_in 467 (by decide +kernel) rfl
theorem mkX7_93 : Cond.methodLink RX7 93 yX7_isRow ∈ UU := UU_in 470 (by decide +kernel) rfl
theorem mkX7_155 : Cond.methodLink RX7 155 yX7_checkColumn ∈ UU := UU_in 474 (by decide +kernel) rfl
theorem mkX7_128 : Cond.methodLink RX7 128 yX7_checkValue ∈ UU := UU_in 478 (by decide +kernel) rfl
theorem mkX7_158 : Cond.methodLink RX7 158 yX5_change ∈ UU := UU_in 482 (by decide +kernel) rfl
theorem mkX5_32 : Cond.methodLink RX5 32 yX5_begin ∈ UU := UU_in 486 (by decide +kernel) rfl
theorem mkX5_18 : Cond.methodLink RX5 18 yX4_copyFrom ∈ UU := UU_in 490 (by decide +kernel) rfl
theorem mkX5_55 : Cond.methodLink RX5 55 yX4_isThere ∈ UU := UU_in 491 (by decide +kernel) rfl
theorem mkX4_56 : Cond.methodLinkNest RX4 56 yX7_isRow "RowTriggers" ∈ UN := UN_in 495 (by decide +kernel) rfl
theorem mkX5_58 : Cond.methodLinkNest RX5 58 yX7_isColumn "RowTriggers" ∈ UN := UN_in 496 (by decide +kernel) rfl
theorem mkX5_47 : Cond.methodLinkNest RX5 47 yX7_cell "RowTriggers" ∈ UN := UN_in 497 (by decide +kernel) rfl
theorem mkX5_51 : Cond.methodLink RX5 51 yX5_happen ∈ UU := UU_in 500 (by decide +kernel) rfl
theorem mkX5_64 : Cond.methodLink RX5 64 yX5_matchingRules ∈ UU := UU_in 504 (by decide +kernel) rfl
theorem mkX5_68 : Cond.methodLink RX5 68 yX5_hasRefusing ∈ UU := UU_in 508 (by decide +kernel) rfl
theorem mkX5_71 : Cond.methodLink RX5 71 yX5_alterTable ∈ UU := UU_in 512 (by decide +kernel) rfl
theorem mkX5_76 : Cond.methodLink RX5 76 yJ9_max_7cf53 ∈ UU := UU_in 516 (by decide +kernel) rfl
theorem mkX5_84 : Cond.methodLink RX5 84 yX5_act ∈ UU := UU_in 519 (by decide +kernel) rfl
theorem mkX5_101 : Cond.methodLink RX5 101 yX2_note ∈ UU := UU_in 523 (by decide +kernel) rfl
theorem mkX5_118 : Cond.methodLinkNest RX5 118 yX7_isValue "RowTriggers" ∈ UN := UN_in 524 (by decide +kernel) rfl
theorem mkX7_135 : Cond.methodLink RX7 135 yX7_finishStatement ∈ UU := UU_in 525 (by decide +kernel) rfl
theorem mkX7_167 : Cond.methodLink RX7 167 yX4_copyFrom ∈ UU := UU_in 530 (by decide +kernel) rfl
theorem mkL_28 : Cond.methodLink RL 28 yX7_remove ∈ UU := UU_in 531 (by decide +kernel) rfl
theorem mkX7_142 : Cond.methodLink RX7 142 yX5_takeOut ∈ UU := UU_in 535 (by decide +kernel) rfl
theorem mkL_59 : Cond.methodLink RL 59 yL_actions ∈ UU := UU_in 539 (by decide +kernel) rfl
theorem mkL_47 : Cond.methodLink RL 47 yX7_setAction ∈ UU := UU_in 542 (by decide +kernel) rfl
theorem mkL_63 : Cond.methodLink RL 63 yL_inserts ∈ UU := UU_in 547 (by decide +kernel) rfl
theorem mkL_43 : Cond.methodLink RL 43 yX7_insert ∈ UU := UU_in 550 (by decide +kernel) rfl
theorem mkX7_131 : Cond.methodLink RX7 131 yX5_putIn ∈ UU := UU_in 554 (by decide +kernel) rfl
theorem mkX5_35 : Cond.methodLinkNest RX5 35 yX7_isRow "RowTriggers" ∈ UN := UN_in 558 (by decide +kernel) rfl
theorem mkL_137 : Cond.methodLink RL 137 yL_areAlike ∈ UU := UU_in 559 (by decide +kernel) rfl
theorem mkL_67 : Cond.methodLink RL 67 yX7_rowCount ∈ UU := UU_in 562 (by decide +kernel) rfl
theorem mkX7_173 : Cond.methodLink RX7 173 yX4_rowsThere ∈ UU := UU_in 566 (by decide +kernel) rfl
theorem mkL_70 : Cond.methodLink RL 70 yX7_eventCount ∈ UU := UU_in 570 (by decide +kernel) rfl
theorem mkL_73 : Cond.methodLink RL 73 yX7_logSize ∈ UU := UU_in 574 (by decide +kernel) rfl
theorem mkL_76 : Cond.methodLink RL 76 yX7_circularRules ∈ UU := UU_in 578 (by decide +kernel) rfl
theorem mkX7_216 : Cond.methodLink RX7 216 yX0_fillTable ∈ UU := UU_in 582 (by decide +kernel) rfl
theorem mkX0_31 : Cond.methodLink RX0 31 yX0_nextOf ∈ UU := UU_in 586 (by decide +kernel) rfl
theorem mkX0_25 : Cond.methodLink RX0 25 yX3_setsOff ∈ UU := UU_in 589 (by decide +kernel) rfl
theorem mkL_79 : Cond.methodLink RL 79 yX7_hasRow ∈ UU := UU_in 593 (by decide +kernel) rfl
theorem mkX7_170 : Cond.methodLink RX7 170 yX4_isThere ∈ UU := UU_in 597 (by decide +kernel) rfl
theorem mkL_82 : Cond.methodLink RL 82 yX7_valueAt ∈ UU := UU_in 598 (by decide +kernel) rfl
theorem mkX7_182 : Cond.methodLink RX7 182 yX7_cell ∈ UU := UU_in 603 (by decide +kernel) rfl
theorem mkL_85 : Cond.methodLink RL 85 yX7_actionOf ∈ UU := UU_in 604 (by decide +kernel) rfl
theorem mkL_88 : Cond.methodLink RL 88 yX7_isMuted ∈ UU := UU_in 608 (by decide +kernel) rfl
theorem mkL_91 : Cond.methodLink RL 91 yX7_actsOf ∈ UU := UU_in 612 (by decide +kernel) rfl
theorem mkL_94 : Cond.methodLink RL 94 yX7_loggedRule ∈ UU := UU_in 616 (by decide +kernel) rfl
theorem mkX7_196 : Cond.methodLink RX7 196 yX7_checkAgo ∈ UU := UU_in 620 (by decide +kernel) rfl
theorem mkX7_201 : Cond.methodLink RX7 201 yX2_placeOf ∈ UU := UU_in 625 (by decide +kernel) rfl
theorem mkL_97 : Cond.methodLink RL 97 yX7_loggedDepth ∈ UU := UU_in 626 (by decide +kernel) rfl
theorem mkL_141 : Cond.methodLink RL 141 yL_isTableSo ∈ UU := UU_in 630 (by decide +kernel) rfl
theorem mkL_100 : Cond.methodLink RL 100 yX7_reachOf ∈ UU := UU_in 633 (by decide +kernel) rfl
theorem mkX7_212 : Cond.methodLink RX7 212 yX0_search ∈ UU := UU_in 637 (by decide +kernel) rfl
theorem mkL_103 : Cond.methodLink RL 103 yX7_reachByTable ∈ UU := UU_in 641 (by decide +kernel) rfl
theorem mkL_106 : Cond.methodLink RL 106 yX7_canSetOff ∈ UU := UU_in 645 (by decide +kernel) rfl
theorem mkX7_208 : Cond.methodLink RX7 208 yX3_setsOff ∈ UU := UU_in 649 (by decide +kernel) rfl
theorem mkL_110 : Cond.methodLink RL 110 yX7_sumOf ∈ UU := UU_in 650 (by decide +kernel) rfl
theorem mkL_145 : Cond.methodLink RL 145 yL_isUpdateSo ∈ UU := UU_in 654 (by decide +kernel) rfl
theorem mkL_113 : Cond.methodLink RL 113 yX7_whyNotUpdate ∈ UU := UU_in 657 (by decide +kernel) rfl
theorem mkL_116 : Cond.methodLink RL 116 yX7_eventsOfUpdate ∈ UU := UU_in 661 (by decide +kernel) rfl
theorem mkL_119 : Cond.methodLink RL 119 yX7_depthOfUpdate ∈ UU := UU_in 665 (by decide +kernel) rfl
theorem aoX3 (G : PG) (U : State) (h : OW G U) : va_AO "RowTriggers$Rule" U := h.2.2.2.2.2.1
theorem aoX4 (G : PG) (U : State) (h : OW G U) : va_AO "RowTriggers$State" U := h.2.2.2.2.2.2
abbrev EIAE : String := "java/lang/IllegalArgumentException"
set_option maxRecDepth 100000 in
theorem twIAE : TW 63 EIAE := ⟨by decide +kernel, UU_in 23 (by decide +kernel) rfl, by decide +kernel⟩
theorem caIAE : Cond.castable EIAE EIAE ∈ UN := UN_in 382 (by decide +kernel) rfl
abbrev EISE : String := "java/lang/IllegalStateException"
set_option maxRecDepth 100000 in
theorem twISE : TW 74 EISE := ⟨by decide +kernel, UU_in 24 (by decide +kernel) rfl, by decide +kernel⟩
theorem caISE : Cond.castable EISE EISE ∈ UN := UN_in 257 (by decide +kernel) rfl
abbrev EIOE : String := "java/lang/IndexOutOfBoundsException"
set_option maxRecDepth 100000 in
theorem twIOE : TW 284 EIOE := ⟨by decide +kernel, UU_in 27 (by decide +kernel) rfl, by decide +kernel⟩
theorem caIOE : Cond.castable EIOE EIOE ∈ UN := UN_in 418 (by decide +kernel) rfl
end
section
/-! ===== THE WORLD: ten states (block b at 16 b: 0 now, 1 the trial's, 2..7 the history's, 8 and 9 the slots'), the class's other cells, the model's, the law's out ===== -/
/-- a state: there, values, rules (nine numbers each), log's rules, log's depths, log's numbers (0 size, 1 latest), numbers (0 rulesUsed, 1 depth, 2 events) -/
abbrev SS : Type := (Nat → Int32) × (Nat → Int32) × (Nat → Nat → Int32) × (Nat → Int32) × (Nat → Int32) × (Nat → Int32) × (Nat → Int32)
abbrev sTh (σ : SS) : Nat → Int32 := σ.1
abbrev sVa (σ : SS) : Nat → Int32 := σ.2.1
abbrev sRu (σ : SS) : Nat → Nat → Int32 := σ.2.2.1
abbrev sLr (σ : SS) : Nat → Int32 := σ.2.2.2.1
abbrev sLd (σ : SS) : Nat → Int32 := σ.2.2.2.2.1
abbrev sLs (σ : SS) : Nat → Int32 := σ.2.2.2.2.2.1
abbrev sSc (σ : SS) : Nat → Int32 := σ.2.2.2.2.2.2
/-- the class: the states; the statement's numbers (0 events, 1 deepest, 2 refusal); the chains' table; the text's signs, numbers (0 length, 1 at, 2 command) and row of numbers; the history's numbers (0 size, 1 next); slotIsFilled -/
abbrev CW : Type := (Nat → SS) × (Nat → Int32) × (Nat → Int32) × (Nat → Int32) × (Nat → Int32) × (Nat → Int32) × (Nat → Int32) × (Nat → Int32)
abbrev cSt (w : CW) : Nat → SS := w.1
abbrev cSm (w : CW) : Nat → Int32 := w.2.1
abbrev cCt (w : CW) : Nat → Int32 := w.2.2.1
abbrev cSg (w : CW) : Nat → Int32 := w.2.2.2.1
abbrev cTx (w : CW) : Nat → Int32 := w.2.2.2.2.1
abbrev cNu (w : CW) : Nat → Int32 := w.2.2.2.2.2.1
abbrev cHi (w : CW) : Nat → Int32 := w.2.2.2.2.2.2.1
abbrev cSf (w : CW) : Nat → Int32 := w.2.2.2.2.2.2.2
/-- the object in hand, the other, out -/
abbrev XW : Type := CW × CW × (Nat → Int32)
def uS1 (σ : SS) (f : Nat → Int32) : SS := (f, σ.2)
def uS2 (σ : SS) (f : Nat → Int32) : SS := (σ.1, f, σ.2.2)
def uS3 (σ : SS) (f : Nat → Nat → Int32) : SS := (σ.1, σ.2.1, f, σ.2.2.2)
def uS4 (σ : SS) (f : Nat → Int32) : SS := (σ.1, σ.2.1, σ.2.2.1, f, σ.2.2.2.2)
def uS5 (σ : SS) (f : Nat → Int32) : SS := (σ.1, σ.2.1, σ.2.2.1, σ.2.2.2.1, f, σ.2.2.2.2.2)
def uS6 (σ : SS) (f : Nat → Int32) : SS := (σ.1, σ.2.1, σ.2.2.1, σ.2.2.2.1, σ.2.2.2.2.1, f, σ.2.2.2.2.2.2)
def uS7 (σ : SS) (f : Nat → Int32) : SS := (σ.1, σ.2.1, σ.2.2.1, σ.2.2.2.1, σ.2.2.2.2.1, σ.2.2.2.2.2.1, f)
def upS (f : Nat → SS) (b : Nat) (σ : SS) : Nat → SS := fun j => if j = b then σ else f j
def upR (f : Nat → Nat → Int32) (i : Nat) (r : Nat → Int32) : Nat → Nat → Int32 := fun j => if j = i then r else f j
def uC1 (x : XW) (b : Nat) (σ : SS) : XW := ((upS x.1.1 b σ, x.1.2), x.2)
def uC2 (x : XW) (f : Nat → Int32) : XW := ((x.1.1, f, x.1.2.2), x.2)
def uC3 (x : XW) (f : Nat → Int32) : XW := ((x.1.1, x.1.2.1, f, x.1.2.2.2), x.2)
def uC4 (x : XW) (f : Nat → Int32) : XW := ((x.1.1, x.1.2.1, x.1.2.2.1, f, x.1.2.2.2.2), x.2)
def uC5 (x : XW) (f : Nat → Int32) : XW := ((x.1.1, x.1.2.1, x.1.2.2.1, x.1.2.2.2.1, f, x.1.2.2.2.2.2), x.2)
def uC6 (x : XW) (f : Nat → Int32) : XW := ((x.1.1, x.1.2.1, x.1.2.2.1, x.1.2.2.2.1, x.1.2.2.2.2.1, f, x.1.2.2.2.2.2.2), x.2)
def uC7 (x : XW) (f : Nat → Int32) : XW := ((x.1.1, x.1.2.1, x.1.2.2.1, x.1.2.2.2.1, x.1.2.2.2.2.1, x.1.2.2.2.2.2.1, f, x.1.2.2.2.2.2.2.2), x.2)
def uC8 (x : XW) (f : Nat → Int32) : XW := ((x.1.1, x.1.2.1, x.1.2.2.1, x.1.2.2.2.1, x.1.2.2.2.2.1, x.1.2.2.2.2.2.1, x.1.2.2.2.2.2.2.1, f), x.2)
def uO (x : XW) (f : Nat → Int32) : XW := (x.1, x.2.1, f)
def iA (f : Nat → Int32) : Nat → Value := fun j => .int (f j)
/-- the cell o of the block b -/
def stc (b o : Nat) (σ : SS) : Option Cel :=
  if o = 0 then some (.inr (4, fun k => if k = 0 then .ref (16 * b + 1) else if k = 1 then .ref (16 * b + 2) else if k = 2 then .ref (16 * b + 3) else if k = 3 then .ref (16 * b + 4) else .int (sSc σ (k - 4))))
  else if o = 1 then some (.inl (.boolean, 6, iA (sTh σ)))
  else if o = 2 then some (.inl (.int, 18, iA (sVa σ)))
  else if o = 3 then some (.inl (.object "RowTriggers$Rule", 8, fun j => .ref (16 * b + (7 + j))))
  else if o = 4 then some (.inr (2, fun k => if k = 0 then .ref (16 * b + 5) else if k = 1 then .ref (16 * b + 6) else .int (sLs σ (k - 2))))
  else if o = 5 then some (.inl (.int, 16, iA (sLr σ)))
  else if o = 6 then some (.inl (.int, 16, iA (sLd σ)))
  else if o < 15 then some (.inr (3, fun k => .int (sRu σ (o - 7) k)))
  else none
/-- a value, a cell, told for the other object -/
def rn_v : Value → Value
  | .ref k => .ref (swp k)
  | v => v
def rn_c : Cel → Cel
  | .inl x => .inl (x.1, x.2.1, fun j => rn_v (x.2.2 j))
  | .inr o => .inr (o.1, fun j => rn_v (o.2 j))
/-- an object's other cells, from 160 on -/
def ocw (o : Nat) (w : CW) : Option Cel :=
  if o = 0 then some (.inr (7, fun k => if k = 0 then .ref (16 * 0) else if k = 1 then .ref 161 else if k = 2 then .ref 162 else if k = 3 then .ref 164 else if k = 4 then .ref 167 else if k = 5 then .ref 169 else .ref 170))
  else if o = 1 then some (.inr (5, fun k => if k = 0 then .ref (16 * 1) else .int (cSm w (k - 1))))
  else if o = 2 then some (.inr (0, fun _ => .ref 163))
  else if o = 3 then some (.inl (.int, 8, iA (cCt w)))
  else if o = 4 then some (.inr (6, fun k => if k = 0 then .ref 165 else if k = 4 then .ref 166 else .int (cTx w (k - 1))))
  else if o = 5 then some (.inl (.char, 80, iA (cSg w)))
  else if o = 6 then some (.inl (.int, 4, iA (cNu w)))
  else if o = 7 then some (.inr (1, fun k => if k = 0 then .ref 168 else .int (cHi w (k - 1))))
  else if o = 8 then some (.inl (.object "RowTriggers$State", 6, fun j => .ref (16 * (2 + j))))
  else if o = 9 then some (.inl (.object "RowTriggers$State", 2, fun j => .ref (16 * (8 + j))))
  else if o = 10 then some (.inl (.boolean, 2, iA (cSf w)))
  else none
/-- an object's cells -/
def clw (w : CW) (k : Nat) : Option Cel := if k < 160 then stc (k / 16) (k % 16) (cSt w (k / 16)) else ocw (k - 160) w
/-- the other cells, from 160 on; the other object's from 256 on -/
def otc (o : Nat) (x : XW) : Option Cel :=
  if o = 0 then some (.inr (7, fun k => if k = 0 then .ref (16 * 0) else if k = 1 then .ref 161 else if k = 2 then .ref 162 else if k = 3 then .ref 164 else if k = 4 then .ref 167 else if k = 5 then .ref 169 else .ref 170))
  else if o = 1 then some (.inr (5, fun k => if k = 0 then .ref (16 * 1) else .int (cSm x.1 (k - 1))))
  else if o = 2 then some (.inr (0, fun _ => .ref 163))
  else if o = 3 then some (.inl (.int, 8, iA (cCt x.1)))
  else if o = 4 then some (.inr (6, fun k => if k = 0 then .ref 165 else if k = 4 then .ref 166 else .int (cTx x.1 (k - 1))))
  else if o = 5 then some (.inl (.char, 80, iA (cSg x.1)))
  else if o = 6 then some (.inl (.int, 4, iA (cNu x.1)))
  else if o = 7 then some (.inr (1, fun k => if k = 0 then .ref 168 else .int (cHi x.1 (k - 1))))
  else if o = 8 then some (.inl (.object "RowTriggers$State", 6, fun j => .ref (16 * (2 + j))))
  else if o = 9 then some (.inl (.object "RowTriggers$State", 2, fun j => .ref (16 * (8 + j))))
  else if o = 10 then some (.inl (.boolean, 2, iA (cSf x.1)))
  else if o = 11 then some (.inl (.int, 1, iA x.2.2))
  else if 96 ≤ o ∧ o < 267 then (clw x.2.1 (o - 96)).map rn_c
  else none
def hp (x : XW) : Hp := (none, fun k => if k < 160 then stc (k / 16) (k % 16) (cSt x.1 (k / 16)) else otc (k - 160) x)
theorem hp_st (x : XW) {b o : Nat} (hb : b < 10) (ho : o < 16) : (hp x).2 (16 * b + o) = stc b o (cSt x.1 b) := by
  show (if 16 * b + o < 160 then stc ((16 * b + o) / 16) ((16 * b + o) % 16) (cSt x.1 ((16 * b + o) / 16)) else _) = _
  rw [if_pos (by omega), show (16 * b + o) / 16 = b by omega, show (16 * b + o) % 16 = o by omega]
theorem hp_ot (x : XW) (o : Nat) : (hp x).2 (160 + o) = otc o x := by
  show (if 160 + o < 160 then _ else otc (160 + o - 160) x) = _
  rw [if_neg (by omega), show 160 + o - 160 = o by omega]
/-- a change in a block -/
theorem hp_us (x : XW) {b o : Nat} {c : Cel} (σ : SS) (hb : b < 10) (ho : o < 16) (hc : stc b o σ = some c) (hk : ∀ j, j < 16 → j ≠ o → stc b j σ = stc b j (cSt x.1 b)) : upH (hp x) (16 * b + o) c = hp (uC1 x b σ) := by
  refine Prod.ext rfl (funext fun k => ?_)
  show (if k = 16 * b + o then some c else (hp x).2 k) = (if k < 160 then stc (k / 16) (k % 16) (upS (cSt x.1) b σ (k / 16)) else otc (k - 160) (uC1 x b σ))
  by_cases e : k = 16 * b + o
  · rw [if_pos e, if_pos (by omega), show k / 16 = b by omega, show k % 16 = o by omega, upS, if_pos rfl, hc]
  · rw [if_neg e]
    show (if k < 160 then stc (k / 16) (k % 16) (cSt x.1 (k / 16)) else otc (k - 160) x) = _
    by_cases e2 : k < 160
    · rw [if_pos e2, if_pos e2]
      by_cases e3 : k / 16 = b
      · rw [e3, upS, if_pos rfl, hk _ (by omega) (by omega)]
      · rw [upS, if_neg e3]
    · rw [if_neg e2, if_neg e2]
      rfl
/-- a change elsewhere -/
theorem hp_uo {x y : XW} {o : Nat} {c : Cel} (hs : ∀ b, cSt y.1 b = cSt x.1 b) (hc : otc o y = some c) (hk : ∀ j, j ≠ o → otc j y = otc j x) : upH (hp x) (160 + o) c = hp y := by
  refine Prod.ext rfl (funext fun k => ?_)
  show (if k = 160 + o then some c else (hp x).2 k) = (if k < 160 then stc (k / 16) (k % 16) (cSt y.1 (k / 16)) else otc (k - 160) y)
  by_cases e : k = 160 + o
  · rw [if_pos e, if_neg (by omega), show k - 160 = o by omega, hc]
  · rw [if_neg e]
    show (if k < 160 then stc (k / 16) (k % 16) (cSt x.1 (k / 16)) else otc (k - 160) x) = _
    by_cases e2 : k < 160
    · rw [if_pos e2, if_pos e2, hs]
    · rw [if_neg e2, if_neg e2, hk _ (by omega)]

theorem narI (G : PG) (x : Int32) : narrow .int (cv G (.int x)) = cv G (.int x) ∧ fits .int (cv G (.int x)) = true := ⟨rfl, rfl⟩
section PWD
variable {M : Mth} {d n pc : Nat} {ls : List (Option Value)} {st : List Value} {x : XW} {Q : Out → Hp → Prop}
theorem g4_there {idx : Nat} {b : Nat} (hb : b < 10) (hd : decode (mC M) pc = .ok (.getfield idx, 3)) (hlk : Cond.fieldLink (mY M).cls idx "RowTriggers$State" "there" "[Z" ∈ UU) (kk : PW M d n (pc + 3) ls (.ref (16 * b + 1) :: st) (hp x) Q) : PW M d n pc ls (.ref (16 * b) :: st) (hp x) Q :=
  pw_getfield (k := 0) clX4 hd (hp_st x hb (by decide : 0 < 16)) (by decide) hlk kk
theorem g4_values {idx : Nat} {b : Nat} (hb : b < 10) (hd : decode (mC M) pc = .ok (.getfield idx, 3)) (hlk : Cond.fieldLink (mY M).cls idx "RowTriggers$State" "values" "[I" ∈ UU) (kk : PW M d n (pc + 3) ls (.ref (16 * b + 2) :: st) (hp x) Q) : PW M d n pc ls (.ref (16 * b) :: st) (hp x) Q :=
  pw_getfield (k := 1) clX4 hd (hp_st x hb (by decide : 0 < 16)) (by decide) hlk kk
theorem g4_rules {idx : Nat} {b : Nat} (hb : b < 10) (hd : decode (mC M) pc = .ok (.getfield idx, 3)) (hlk : Cond.fieldLink (mY M).cls idx "RowTriggers$State" "rules" "[LRowTriggers$Rule;" ∈ UU) (kk : PW M d n (pc + 3) ls (.ref (16 * b + 3) :: st) (hp x) Q) : PW M d n pc ls (.ref (16 * b) :: st) (hp x) Q :=
  pw_getfield (k := 2) clX4 hd (hp_st x hb (by decide : 0 < 16)) (by decide) hlk kk
theorem g4_log {idx : Nat} {b : Nat} (hb : b < 10) (hd : decode (mC M) pc = .ok (.getfield idx, 3)) (hlk : Cond.fieldLink (mY M).cls idx "RowTriggers$State" "log" "LRowTriggers$Log;" ∈ UU) (kk : PW M d n (pc + 3) ls (.ref (16 * b + 4) :: st) (hp x) Q) : PW M d n pc ls (.ref (16 * b) :: st) (hp x) Q :=
  pw_getfield (k := 3) clX4 hd (hp_st x hb (by decide : 0 < 16)) (by decide) hlk kk
theorem g4_rulesUsed {idx : Nat} {b : Nat} (hb : b < 10) (hd : decode (mC M) pc = .ok (.getfield idx, 3)) (hlk : Cond.fieldLink (mY M).cls idx "RowTriggers$State" "rulesUsed" "I" ∈ UU) (kk : PW M d n (pc + 3) ls (.int (sSc (cSt x.1 b) 0) :: st) (hp x) Q) : PW M d n pc ls (.ref (16 * b) :: st) (hp x) Q :=
  pw_getfield (k := 4) clX4 hd (hp_st x hb (by decide : 0 < 16)) (by decide) hlk kk
theorem g4_depth {idx : Nat} {b : Nat} (hb : b < 10) (hd : decode (mC M) pc = .ok (.getfield idx, 3)) (hlk : Cond.fieldLink (mY M).cls idx "RowTriggers$State" "depth" "I" ∈ UU) (kk : PW M d n (pc + 3) ls (.int (sSc (cSt x.1 b) 1) :: st) (hp x) Q) : PW M d n pc ls (.ref (16 * b) :: st) (hp x) Q :=
  pw_getfield (k := 5) clX4 hd (hp_st x hb (by decide : 0 < 16)) (by decide) hlk kk
theorem g4_events {idx : Nat} {b : Nat} (hb : b < 10) (hd : decode (mC M) pc = .ok (.getfield idx, 3)) (hlk : Cond.fieldLink (mY M).cls idx "RowTriggers$State" "events" "I" ∈ UU) (kk : PW M d n (pc + 3) ls (.int (sSc (cSt x.1 b) 2) :: st) (hp x) Q) : PW M d n pc ls (.ref (16 * b) :: st) (hp x) Q :=
  pw_getfield (k := 6) clX4 hd (hp_st x hb (by decide : 0 < 16)) (by decide) hlk kk
theorem stcSc (b j : Nat) (σ : SS) (f : Nat → Int32) (h : j ≠ 0) : stc b j (uS7 σ f) = stc b j σ := by
  unfold stc
  rw [if_neg h, if_neg h]
  rfl
theorem stcLs (b j : Nat) (σ : SS) (f : Nat → Int32) (h : j ≠ 4) : stc b j (uS6 σ f) = stc b j σ := by
  unfold stc
  by_cases h0 : j = 0
  · rw [if_pos h0, if_pos h0]; rfl
  · simp only [if_neg h0, if_neg h]
    rfl
theorem stcTh (b j : Nat) (σ : SS) (f : Nat → Int32) (h : j ≠ 1) : stc b j (uS1 σ f) = stc b j σ := by
  unfold stc
  by_cases h0 : j = 0
  · rw [if_pos h0, if_pos h0]; rfl
  · simp only [if_neg h0, if_neg h]
    rfl
theorem stcVa (b j : Nat) (σ : SS) (f : Nat → Int32) (h : j ≠ 2) : stc b j (uS2 σ f) = stc b j σ := by
  unfold stc
  by_cases h0 : j = 0
  · rw [if_pos h0, if_pos h0]; rfl
  · simp only [if_neg h0, if_neg h]
    rfl
theorem stcLr (b j : Nat) (σ : SS) (f : Nat → Int32) (h : j ≠ 5) : stc b j (uS4 σ f) = stc b j σ := by
  unfold stc
  by_cases h0 : j = 0
  · rw [if_pos h0, if_pos h0]; rfl
  · simp only [if_neg h0, if_neg h]
    rfl
theorem stcLd (b j : Nat) (σ : SS) (f : Nat → Int32) (h : j ≠ 6) : stc b j (uS5 σ f) = stc b j σ := by
  unfold stc
  by_cases h0 : j = 0
  · rw [if_pos h0, if_pos h0]; rfl
  · simp only [if_neg h0, if_neg h]
    rfl
theorem stcRu (b j i : Nat) (σ : SS) (r : Nat → Int32) (hi : i < 8) (h : j ≠ 7 + i) : stc b j (uS3 σ (upR (sRu σ) i r)) = stc b j σ := by
  unfold stc
  by_cases h7 : j < 7
  · match j, h7 with
    | 0, _ => rfl
    | 1, _ => rfl
    | 2, _ => rfl
    | 3, _ => rfl
    | 4, _ => rfl
    | 5, _ => rfl
    | 6, _ => rfl
    | j + 7, h => exact absurd h (by omega)
  · have a0 : ¬ j = 0 := by omega
    have a1 : ¬ j = 1 := by omega
    have a2 : ¬ j = 2 := by omega
    have a3 : ¬ j = 3 := by omega
    have a4 : ¬ j = 4 := by omega
    have a5 : ¬ j = 5 := by omega
    have a6 : ¬ j = 6 := by omega
    simp only [if_neg a0, if_neg a1, if_neg a2, if_neg a3, if_neg a4, if_neg a5, if_neg a6]
    have e1 : sRu (uS3 σ (upR (sRu σ) i r)) (j - 7) = sRu σ (j - 7) := if_neg (by omega)
    rw [e1]
theorem iA_st (f : Nat → Int32) (k : Nat) (v : Int32) : stF (iA f) k (.int v) = iA (upd f k v) := by
  funext j
  unfold stF iA upd
  by_cases e : j = k <;> simp [e]
theorem fnSc (b : Nat) (f : Nat → Int32) (k : Nat) (v : Int32) (hk : 4 ≤ k) : stF (fun j => if j = 0 then Value.ref (16 * b + 1) else if j = 1 then .ref (16 * b + 2) else if j = 2 then .ref (16 * b + 3) else if j = 3 then .ref (16 * b + 4) else .int (f (j - 4))) k (.int v) = (fun j => if j = 0 then Value.ref (16 * b + 1) else if j = 1 then .ref (16 * b + 2) else if j = 2 then .ref (16 * b + 3) else if j = 3 then .ref (16 * b + 4) else .int (upd f (k - 4) v (j - 4))) := by
  funext j
  unfold stF upd
  by_cases e : j = k
  · subst e
    rw [if_pos rfl, if_neg (by omega), if_neg (by omega), if_neg (by omega), if_neg (by omega), if_pos rfl]
  · rw [if_neg e]
    dsimp only
    by_cases e4 : j < 4
    · match j, e4 with
      | 0, _ => rfl
      | 1, _ => rfl
      | 2, _ => rfl
      | 3, _ => rfl
      | j + 4, h => exact absurd h (by omega)
    · rw [if_neg (by omega), if_neg (by omega), if_neg (by omega), if_neg (by omega), if_neg (by omega), if_neg (by omega), if_neg (by omega), if_neg (by omega), if_neg (by omega)]
theorem fnLs (b : Nat) (f : Nat → Int32) (k : Nat) (v : Int32) (hk : 2 ≤ k) : stF (fun j => if j = 0 then Value.ref (16 * b + 5) else if j = 1 then .ref (16 * b + 6) else .int (f (j - 2))) k (.int v) = (fun j => if j = 0 then Value.ref (16 * b + 5) else if j = 1 then .ref (16 * b + 6) else .int (upd f (k - 2) v (j - 2))) := by
  funext j
  unfold stF upd
  by_cases e : j = k
  · subst e
    rw [if_pos rfl, if_neg (by omega), if_neg (by omega), if_pos rfl]
  · rw [if_neg e]
    dsimp only
    by_cases e4 : j < 2
    · match j, e4 with
      | 0, _ => rfl
      | 1, _ => rfl
      | j + 2, h => exact absurd h (by omega)
    · rw [if_neg (by omega), if_neg (by omega), if_neg (by omega), if_neg (by omega), if_neg (by omega)]
theorem fn1 (a : Nat) (f : Nat → Int32) (k : Nat) (v : Int32) (hk : 1 ≤ k) : stF (fun j => if j = 0 then Value.ref a else .int (f (j - 1))) k (.int v) = (fun j => if j = 0 then Value.ref a else .int (upd f (k - 1) v (j - 1))) := by
  funext j
  unfold stF upd
  by_cases e : j = k
  · subst e
    rw [if_pos rfl, if_neg (by omega), if_pos rfl]
  · rw [if_neg e]
    dsimp only
    by_cases e4 : j = 0
    · rw [if_pos e4, if_pos e4]
    · rw [if_neg e4, if_neg e4, if_neg (by omega)]
theorem fnT (f : Nat → Int32) (k : Nat) (v : Int32) (hk : 1 ≤ k) (h4 : k ≠ 4) : stF (fun j => if j = 0 then Value.ref 165 else if j = 4 then .ref 166 else .int (f (j - 1))) k (.int v) = (fun j => if j = 0 then Value.ref 165 else if j = 4 then .ref 166 else .int (upd f (k - 1) v (j - 1))) := by
  funext j
  unfold stF upd
  by_cases e : j = k
  · subst e
    rw [if_pos rfl, if_neg (by omega), if_neg h4, if_pos rfl]
  · rw [if_neg e]
    dsimp only
    by_cases e4 : j = 0
    · rw [if_pos e4, if_pos e4]
    · rw [if_neg e4, if_neg e4, if_neg (show ¬ j - 1 = k - 1 by omega)]
theorem p4_rulesUsed {idx : Nat} {v : Int32} {b : Nat} (hb : b < 10) (hd : decode (mC M) pc = .ok (.putfield idx, 3)) (hlk : Cond.fieldLink (mY M).cls idx "RowTriggers$State" "rulesUsed" "I" ∈ UU) (kk : PW M d n (pc + 3) ls st (hp (uC1 x b (uS7 (cSt x.1 b) (upd (sSc (cSt x.1 b)) 0 v)))) Q) : PW M d n pc ls (.int v :: .ref (16 * b) :: st) (hp x) Q := by
  refine pw_putfield (k := 4) clX4 hd (hp_st x hb (by decide : 0 < 16)) (by decide) hlk rfl (fun G => narI G v) ?_
  rw [fnSc b _ 4 v (by decide)]
  have e := hp_us (x := x) (b := b) (o := 0) (uS7 (cSt x.1 b) (upd (sSc (cSt x.1 b)) 0 v)) hb (by decide) rfl (fun j _ hj => stcSc b j _ _ hj)
  rw [show 16 * b = 16 * b + 0 from rfl]
  erw [e]
  exact kk
theorem p4_depth {idx : Nat} {v : Int32} {b : Nat} (hb : b < 10) (hd : decode (mC M) pc = .ok (.putfield idx, 3)) (hlk : Cond.fieldLink (mY M).cls idx "RowTriggers$State" "depth" "I" ∈ UU) (kk : PW M d n (pc + 3) ls st (hp (uC1 x b (uS7 (cSt x.1 b) (upd (sSc (cSt x.1 b)) 1 v)))) Q) : PW M d n pc ls (.int v :: .ref (16 * b) :: st) (hp x) Q := by
  refine pw_putfield (k := 5) clX4 hd (hp_st x hb (by decide : 0 < 16)) (by decide) hlk rfl (fun G => narI G v) ?_
  rw [fnSc b _ 5 v (by decide)]
  have e := hp_us (x := x) (b := b) (o := 0) (uS7 (cSt x.1 b) (upd (sSc (cSt x.1 b)) 1 v)) hb (by decide) rfl (fun j _ hj => stcSc b j _ _ hj)
  rw [show 16 * b = 16 * b + 0 from rfl]
  erw [e]
  exact kk
theorem p4_events {idx : Nat} {v : Int32} {b : Nat} (hb : b < 10) (hd : decode (mC M) pc = .ok (.putfield idx, 3)) (hlk : Cond.fieldLink (mY M).cls idx "RowTriggers$State" "events" "I" ∈ UU) (kk : PW M d n (pc + 3) ls st (hp (uC1 x b (uS7 (cSt x.1 b) (upd (sSc (cSt x.1 b)) 2 v)))) Q) : PW M d n pc ls (.int v :: .ref (16 * b) :: st) (hp x) Q := by
  refine pw_putfield (k := 6) clX4 hd (hp_st x hb (by decide : 0 < 16)) (by decide) hlk rfl (fun G => narI G v) ?_
  rw [fnSc b _ 6 v (by decide)]
  have e := hp_us (x := x) (b := b) (o := 0) (uS7 (cSt x.1 b) (upd (sSc (cSt x.1 b)) 2 v)) hb (by decide) rfl (fun j _ hj => stcSc b j _ _ hj)
  rw [show 16 * b = 16 * b + 0 from rfl]
  erw [e]
  exact kk
theorem g2_rules {idx : Nat} {b : Nat} (hb : b < 10) (hd : decode (mC M) pc = .ok (.getfield idx, 3)) (hlk : Cond.fieldLink (mY M).cls idx "RowTriggers$Log" "rules" "[I" ∈ UU) (kk : PW M d n (pc + 3) ls (.ref (16 * b + 5) :: st) (hp x) Q) : PW M d n pc ls (.ref (16 * b + 4) :: st) (hp x) Q :=
  pw_getfield (k := 0) clX2 hd (hp_st x hb (by decide : 4 < 16)) (by decide) hlk kk
theorem g2_depths {idx : Nat} {b : Nat} (hb : b < 10) (hd : decode (mC M) pc = .ok (.getfield idx, 3)) (hlk : Cond.fieldLink (mY M).cls idx "RowTriggers$Log" "depths" "[I" ∈ UU) (kk : PW M d n (pc + 3) ls (.ref (16 * b + 6) :: st) (hp x) Q) : PW M d n pc ls (.ref (16 * b + 4) :: st) (hp x) Q :=
  pw_getfield (k := 1) clX2 hd (hp_st x hb (by decide : 4 < 16)) (by decide) hlk kk
theorem g2_size {idx : Nat} {b : Nat} (hb : b < 10) (hd : decode (mC M) pc = .ok (.getfield idx, 3)) (hlk : Cond.fieldLink (mY M).cls idx "RowTriggers$Log" "size" "I" ∈ UU) (kk : PW M d n (pc + 3) ls (.int (sLs (cSt x.1 b) 0) :: st) (hp x) Q) : PW M d n pc ls (.ref (16 * b + 4) :: st) (hp x) Q :=
  pw_getfield (k := 2) clX2 hd (hp_st x hb (by decide : 4 < 16)) (by decide) hlk kk
theorem g2_latest {idx : Nat} {b : Nat} (hb : b < 10) (hd : decode (mC M) pc = .ok (.getfield idx, 3)) (hlk : Cond.fieldLink (mY M).cls idx "RowTriggers$Log" "latest" "I" ∈ UU) (kk : PW M d n (pc + 3) ls (.int (sLs (cSt x.1 b) 1) :: st) (hp x) Q) : PW M d n pc ls (.ref (16 * b + 4) :: st) (hp x) Q :=
  pw_getfield (k := 3) clX2 hd (hp_st x hb (by decide : 4 < 16)) (by decide) hlk kk
theorem p2_size {idx : Nat} {v : Int32} {b : Nat} (hb : b < 10) (hd : decode (mC M) pc = .ok (.putfield idx, 3)) (hlk : Cond.fieldLink (mY M).cls idx "RowTriggers$Log" "size" "I" ∈ UU) (kk : PW M d n (pc + 3) ls st (hp (uC1 x b (uS6 (cSt x.1 b) (upd (sLs (cSt x.1 b)) 0 v)))) Q) : PW M d n pc ls (.int v :: .ref (16 * b + 4) :: st) (hp x) Q := by
  refine pw_putfield (k := 2) clX2 hd (hp_st x hb (by decide : 4 < 16)) (by decide) hlk rfl (fun G => narI G v) ?_
  rw [fnLs b _ 2 v (by decide)]
  have e := hp_us (x := x) (b := b) (o := 4) (uS6 (cSt x.1 b) (upd (sLs (cSt x.1 b)) 0 v)) hb (by decide) rfl (fun j _ hj => stcLs b j _ _ hj)
  erw [e]
  exact kk
theorem p2_latest {idx : Nat} {v : Int32} {b : Nat} (hb : b < 10) (hd : decode (mC M) pc = .ok (.putfield idx, 3)) (hlk : Cond.fieldLink (mY M).cls idx "RowTriggers$Log" "latest" "I" ∈ UU) (kk : PW M d n (pc + 3) ls st (hp (uC1 x b (uS6 (cSt x.1 b) (upd (sLs (cSt x.1 b)) 1 v)))) Q) : PW M d n pc ls (.int v :: .ref (16 * b + 4) :: st) (hp x) Q := by
  refine pw_putfield (k := 3) clX2 hd (hp_st x hb (by decide : 4 < 16)) (by decide) hlk rfl (fun G => narI G v) ?_
  rw [fnLs b _ 3 v (by decide)]
  have e := hp_us (x := x) (b := b) (o := 4) (uS6 (cSt x.1 b) (upd (sLs (cSt x.1 b)) 1 v)) hb (by decide) rfl (fun j _ hj => stcLs b j _ _ hj)
  erw [e]
  exact kk
theorem stc_ru (b i : Nat) (σ : SS) (hi : i < 8) : stc b (7 + i) σ = some (.inr (3, fun k => .int (sRu σ i k))) := by
  unfold stc
  rw [if_neg (by omega), if_neg (by omega), if_neg (by omega), if_neg (by omega), if_neg (by omega), if_neg (by omega), if_neg (by omega), if_pos (by omega), show 7 + i - 7 = i by omega]
theorem g3_event {idx : Nat} {b i : Nat} (hb : b < 10) (hi : i < 8) (hd : decode (mC M) pc = .ok (.getfield idx, 3)) (hlk : Cond.fieldLink (mY M).cls idx "RowTriggers$Rule" "event" "I" ∈ UU) (kk : PW M d n (pc + 3) ls (.int (sRu (cSt x.1 b) i 0) :: st) (hp x) Q) : PW M d n pc ls (.ref (16 * b + (7 + i)) :: st) (hp x) Q :=
  pw_getfield (k := 0) clX3 hd ((hp_st x hb (by omega : 7 + i < 16)).trans (stc_ru b i _ hi)) (by decide) hlk kk
theorem p3_event {idx : Nat} {v : Int32} {b i : Nat} (hb : b < 10) (hi : i < 8) (hd : decode (mC M) pc = .ok (.putfield idx, 3)) (hlk : Cond.fieldLink (mY M).cls idx "RowTriggers$Rule" "event" "I" ∈ UU) (kk : PW M d n (pc + 3) ls st (hp (uC1 x b (uS3 (cSt x.1 b) (upR (sRu (cSt x.1 b)) i (upd (sRu (cSt x.1 b) i) 0 v))))) Q) : PW M d n pc ls (.int v :: .ref (16 * b + (7 + i)) :: st) (hp x) Q := by
  refine pw_putfield (k := 0) clX3 hd ((hp_st x hb (by omega : 7 + i < 16)).trans (stc_ru b i _ hi)) (by decide) hlk rfl (fun G => narI G v) ?_
  have e := hp_us (x := x) (b := b) (o := 7 + i) (c := .inr (3, stF (fun k => .int (sRu (cSt x.1 b) i k)) 0 (.int v))) (uS3 (cSt x.1 b) (upR (sRu (cSt x.1 b)) i (upd (sRu (cSt x.1 b) i) 0 v))) hb (by omega) ((stc_ru b i _ hi).trans (congrArg (fun z => some (Sum.inr (3, z))) (by funext j; simp only [sRu, uS3, upR, if_pos, stF, upd]; by_cases e : j = 0 <;> simp [e]))) (fun j _ hj => stcRu b j i _ _ hi hj)
  rw [e]
  exact kk
theorem g3_column {idx : Nat} {b i : Nat} (hb : b < 10) (hi : i < 8) (hd : decode (mC M) pc = .ok (.getfield idx, 3)) (hlk : Cond.fieldLink (mY M).cls idx "RowTriggers$Rule" "column" "I" ∈ UU) (kk : PW M d n (pc + 3) ls (.int (sRu (cSt x.1 b) i 1) :: st) (hp x) Q) : PW M d n pc ls (.ref (16 * b + (7 + i)) :: st) (hp x) Q :=
  pw_getfield (k := 1) clX3 hd ((hp_st x hb (by omega : 7 + i < 16)).trans (stc_ru b i _ hi)) (by decide) hlk kk
theorem p3_column {idx : Nat} {v : Int32} {b i : Nat} (hb : b < 10) (hi : i < 8) (hd : decode (mC M) pc = .ok (.putfield idx, 3)) (hlk : Cond.fieldLink (mY M).cls idx "RowTriggers$Rule" "column" "I" ∈ UU) (kk : PW M d n (pc + 3) ls st (hp (uC1 x b (uS3 (cSt x.1 b) (upR (sRu (cSt x.1 b)) i (upd (sRu (cSt x.1 b) i) 1 v))))) Q) : PW M d n pc ls (.int v :: .ref (16 * b + (7 + i)) :: st) (hp x) Q := by
  refine pw_putfield (k := 1) clX3 hd ((hp_st x hb (by omega : 7 + i < 16)).trans (stc_ru b i _ hi)) (by decide) hlk rfl (fun G => narI G v) ?_
  have e := hp_us (x := x) (b := b) (o := 7 + i) (c := .inr (3, stF (fun k => .int (sRu (cSt x.1 b) i k)) 1 (.int v))) (uS3 (cSt x.1 b) (upR (sRu (cSt x.1 b)) i (upd (sRu (cSt x.1 b) i) 1 v))) hb (by omega) ((stc_ru b i _ hi).trans (congrArg (fun z => some (Sum.inr (3, z))) (by funext j; simp only [sRu, uS3, upR, if_pos, stF, upd]; by_cases e : j = 1 <;> simp [e]))) (fun j _ hj => stcRu b j i _ _ hi hj)
  rw [e]
  exact kk
theorem g3_least {idx : Nat} {b i : Nat} (hb : b < 10) (hi : i < 8) (hd : decode (mC M) pc = .ok (.getfield idx, 3)) (hlk : Cond.fieldLink (mY M).cls idx "RowTriggers$Rule" "least" "I" ∈ UU) (kk : PW M d n (pc + 3) ls (.int (sRu (cSt x.1 b) i 2) :: st) (hp x) Q) : PW M d n pc ls (.ref (16 * b + (7 + i)) :: st) (hp x) Q :=
  pw_getfield (k := 2) clX3 hd ((hp_st x hb (by omega : 7 + i < 16)).trans (stc_ru b i _ hi)) (by decide) hlk kk
theorem p3_least {idx : Nat} {v : Int32} {b i : Nat} (hb : b < 10) (hi : i < 8) (hd : decode (mC M) pc = .ok (.putfield idx, 3)) (hlk : Cond.fieldLink (mY M).cls idx "RowTriggers$Rule" "least" "I" ∈ UU) (kk : PW M d n (pc + 3) ls st (hp (uC1 x b (uS3 (cSt x.1 b) (upR (sRu (cSt x.1 b)) i (upd (sRu (cSt x.1 b) i) 2 v))))) Q) : PW M d n pc ls (.int v :: .ref (16 * b + (7 + i)) :: st) (hp x) Q := by
  refine pw_putfield (k := 2) clX3 hd ((hp_st x hb (by omega : 7 + i < 16)).trans (stc_ru b i _ hi)) (by decide) hlk rfl (fun G => narI G v) ?_
  have e := hp_us (x := x) (b := b) (o := 7 + i) (c := .inr (3, stF (fun k => .int (sRu (cSt x.1 b) i k)) 2 (.int v))) (uS3 (cSt x.1 b) (upR (sRu (cSt x.1 b)) i (upd (sRu (cSt x.1 b) i) 2 v))) hb (by omega) ((stc_ru b i _ hi).trans (congrArg (fun z => some (Sum.inr (3, z))) (by funext j; simp only [sRu, uS3, upR, if_pos, stF, upd]; by_cases e : j = 2 <;> simp [e]))) (fun j _ hj => stcRu b j i _ _ hi hj)
  rw [e]
  exact kk
theorem g3_action {idx : Nat} {b i : Nat} (hb : b < 10) (hi : i < 8) (hd : decode (mC M) pc = .ok (.getfield idx, 3)) (hlk : Cond.fieldLink (mY M).cls idx "RowTriggers$Rule" "action" "I" ∈ UU) (kk : PW M d n (pc + 3) ls (.int (sRu (cSt x.1 b) i 3) :: st) (hp x) Q) : PW M d n pc ls (.ref (16 * b + (7 + i)) :: st) (hp x) Q :=
  pw_getfield (k := 3) clX3 hd ((hp_st x hb (by omega : 7 + i < 16)).trans (stc_ru b i _ hi)) (by decide) hlk kk
theorem p3_action {idx : Nat} {v : Int32} {b i : Nat} (hb : b < 10) (hi : i < 8) (hd : decode (mC M) pc = .ok (.putfield idx, 3)) (hlk : Cond.fieldLink (mY M).cls idx "RowTriggers$Rule" "action" "I" ∈ UU) (kk : PW M d n (pc + 3) ls st (hp (uC1 x b (uS3 (cSt x.1 b) (upR (sRu (cSt x.1 b)) i (upd (sRu (cSt x.1 b) i) 3 v))))) Q) : PW M d n pc ls (.int v :: .ref (16 * b + (7 + i)) :: st) (hp x) Q := by
  refine pw_putfield (k := 3) clX3 hd ((hp_st x hb (by omega : 7 + i < 16)).trans (stc_ru b i _ hi)) (by decide) hlk rfl (fun G => narI G v) ?_
  have e := hp_us (x := x) (b := b) (o := 7 + i) (c := .inr (3, stF (fun k => .int (sRu (cSt x.1 b) i k)) 3 (.int v))) (uS3 (cSt x.1 b) (upR (sRu (cSt x.1 b)) i (upd (sRu (cSt x.1 b) i) 3 v))) hb (by omega) ((stc_ru b i _ hi).trans (congrArg (fun z => some (Sum.inr (3, z))) (by funext j; simp only [sRu, uS3, upR, if_pos, stF, upd]; by_cases e : j = 3 <;> simp [e]))) (fun j _ hj => stcRu b j i _ _ hi hj)
  rw [e]
  exact kk
theorem g3_targetRow {idx : Nat} {b i : Nat} (hb : b < 10) (hi : i < 8) (hd : decode (mC M) pc = .ok (.getfield idx, 3)) (hlk : Cond.fieldLink (mY M).cls idx "RowTriggers$Rule" "targetRow" "I" ∈ UU) (kk : PW M d n (pc + 3) ls (.int (sRu (cSt x.1 b) i 4) :: st) (hp x) Q) : PW M d n pc ls (.ref (16 * b + (7 + i)) :: st) (hp x) Q :=
  pw_getfield (k := 4) clX3 hd ((hp_st x hb (by omega : 7 + i < 16)).trans (stc_ru b i _ hi)) (by decide) hlk kk
theorem p3_targetRow {idx : Nat} {v : Int32} {b i : Nat} (hb : b < 10) (hi : i < 8) (hd : decode (mC M) pc = .ok (.putfield idx, 3)) (hlk : Cond.fieldLink (mY M).cls idx "RowTriggers$Rule" "targetRow" "I" ∈ UU) (kk : PW M d n (pc + 3) ls st (hp (uC1 x b (uS3 (cSt x.1 b) (upR (sRu (cSt x.1 b)) i (upd (sRu (cSt x.1 b) i) 4 v))))) Q) : PW M d n pc ls (.int v :: .ref (16 * b + (7 + i)) :: st) (hp x) Q := by
  refine pw_putfield (k := 4) clX3 hd ((hp_st x hb (by omega : 7 + i < 16)).trans (stc_ru b i _ hi)) (by decide) hlk rfl (fun G => narI G v) ?_
  have e := hp_us (x := x) (b := b) (o := 7 + i) (c := .inr (3, stF (fun k => .int (sRu (cSt x.1 b) i k)) 4 (.int v))) (uS3 (cSt x.1 b) (upR (sRu (cSt x.1 b)) i (upd (sRu (cSt x.1 b) i) 4 v))) hb (by omega) ((stc_ru b i _ hi).trans (congrArg (fun z => some (Sum.inr (3, z))) (by funext j; simp only [sRu, uS3, upR, if_pos, stF, upd]; by_cases e : j = 4 <;> simp [e]))) (fun j _ hj => stcRu b j i _ _ hi hj)
  rw [e]
  exact kk
theorem g3_targetColumn {idx : Nat} {b i : Nat} (hb : b < 10) (hi : i < 8) (hd : decode (mC M) pc = .ok (.getfield idx, 3)) (hlk : Cond.fieldLink (mY M).cls idx "RowTriggers$Rule" "targetColumn" "I" ∈ UU) (kk : PW M d n (pc + 3) ls (.int (sRu (cSt x.1 b) i 5) :: st) (hp x) Q) : PW M d n pc ls (.ref (16 * b + (7 + i)) :: st) (hp x) Q :=
  pw_getfield (k := 5) clX3 hd ((hp_st x hb (by omega : 7 + i < 16)).trans (stc_ru b i _ hi)) (by decide) hlk kk
theorem p3_targetColumn {idx : Nat} {v : Int32} {b i : Nat} (hb : b < 10) (hi : i < 8) (hd : decode (mC M) pc = .ok (.putfield idx, 3)) (hlk : Cond.fieldLink (mY M).cls idx "RowTriggers$Rule" "targetColumn" "I" ∈ UU) (kk : PW M d n (pc + 3) ls st (hp (uC1 x b (uS3 (cSt x.1 b) (upR (sRu (cSt x.1 b)) i (upd (sRu (cSt x.1 b) i) 5 v))))) Q) : PW M d n pc ls (.int v :: .ref (16 * b + (7 + i)) :: st) (hp x) Q := by
  refine pw_putfield (k := 5) clX3 hd ((hp_st x hb (by omega : 7 + i < 16)).trans (stc_ru b i _ hi)) (by decide) hlk rfl (fun G => narI G v) ?_
  have e := hp_us (x := x) (b := b) (o := 7 + i) (c := .inr (3, stF (fun k => .int (sRu (cSt x.1 b) i k)) 5 (.int v))) (uS3 (cSt x.1 b) (upR (sRu (cSt x.1 b)) i (upd (sRu (cSt x.1 b) i) 5 v))) hb (by omega) ((stc_ru b i _ hi).trans (congrArg (fun z => some (Sum.inr (3, z))) (by funext j; simp only [sRu, uS3, upR, if_pos, stF, upd]; by_cases e : j = 5 <;> simp [e]))) (fun j _ hj => stcRu b j i _ _ hi hj)
  rw [e]
  exact kk
theorem g3_amount {idx : Nat} {b i : Nat} (hb : b < 10) (hi : i < 8) (hd : decode (mC M) pc = .ok (.getfield idx, 3)) (hlk : Cond.fieldLink (mY M).cls idx "RowTriggers$Rule" "amount" "I" ∈ UU) (kk : PW M d n (pc + 3) ls (.int (sRu (cSt x.1 b) i 6) :: st) (hp x) Q) : PW M d n pc ls (.ref (16 * b + (7 + i)) :: st) (hp x) Q :=
  pw_getfield (k := 6) clX3 hd ((hp_st x hb (by omega : 7 + i < 16)).trans (stc_ru b i _ hi)) (by decide) hlk kk
theorem p3_amount {idx : Nat} {v : Int32} {b i : Nat} (hb : b < 10) (hi : i < 8) (hd : decode (mC M) pc = .ok (.putfield idx, 3)) (hlk : Cond.fieldLink (mY M).cls idx "RowTriggers$Rule" "amount" "I" ∈ UU) (kk : PW M d n (pc + 3) ls st (hp (uC1 x b (uS3 (cSt x.1 b) (upR (sRu (cSt x.1 b)) i (upd (sRu (cSt x.1 b) i) 6 v))))) Q) : PW M d n pc ls (.int v :: .ref (16 * b + (7 + i)) :: st) (hp x) Q := by
  refine pw_putfield (k := 6) clX3 hd ((hp_st x hb (by omega : 7 + i < 16)).trans (stc_ru b i _ hi)) (by decide) hlk rfl (fun G => narI G v) ?_
  have e := hp_us (x := x) (b := b) (o := 7 + i) (c := .inr (3, stF (fun k => .int (sRu (cSt x.1 b) i k)) 6 (.int v))) (uS3 (cSt x.1 b) (upR (sRu (cSt x.1 b)) i (upd (sRu (cSt x.1 b) i) 6 v))) hb (by omega) ((stc_ru b i _ hi).trans (congrArg (fun z => some (Sum.inr (3, z))) (by funext j; simp only [sRu, uS3, upR, if_pos, stF, upd]; by_cases e : j = 6 <;> simp [e]))) (fun j _ hj => stcRu b j i _ _ hi hj)
  rw [e]
  exact kk
theorem g3_muted {idx : Nat} {b i : Nat} (hb : b < 10) (hi : i < 8) (hd : decode (mC M) pc = .ok (.getfield idx, 3)) (hlk : Cond.fieldLink (mY M).cls idx "RowTriggers$Rule" "muted" "Z" ∈ UU) (kk : PW M d n (pc + 3) ls (.int (sRu (cSt x.1 b) i 7) :: st) (hp x) Q) : PW M d n pc ls (.ref (16 * b + (7 + i)) :: st) (hp x) Q :=
  pw_getfield (k := 7) clX3 hd ((hp_st x hb (by omega : 7 + i < 16)).trans (stc_ru b i _ hi)) (by decide) hlk kk
theorem p3_muted {idx : Nat} {v : Int32} {b i : Nat} (hb : b < 10) (hi : i < 8) (hd : decode (mC M) pc = .ok (.putfield idx, 3)) (hlk : Cond.fieldLink (mY M).cls idx "RowTriggers$Rule" "muted" "Z" ∈ UU) (hn : narrow .boolean (.int v) = .int v ∧ fits .boolean (.int v) = true) (kk : PW M d n (pc + 3) ls st (hp (uC1 x b (uS3 (cSt x.1 b) (upR (sRu (cSt x.1 b)) i (upd (sRu (cSt x.1 b) i) 7 v))))) Q) : PW M d n pc ls (.int v :: .ref (16 * b + (7 + i)) :: st) (hp x) Q := by
  refine pw_putfield (k := 7) clX3 hd ((hp_st x hb (by omega : 7 + i < 16)).trans (stc_ru b i _ hi)) (by decide) hlk rfl (fun _ => hn) ?_
  have e := hp_us (x := x) (b := b) (o := 7 + i) (c := .inr (3, stF (fun k => .int (sRu (cSt x.1 b) i k)) 7 (.int v))) (uS3 (cSt x.1 b) (upR (sRu (cSt x.1 b)) i (upd (sRu (cSt x.1 b) i) 7 v))) hb (by omega) ((stc_ru b i _ hi).trans (congrArg (fun z => some (Sum.inr (3, z))) (by funext j; simp only [sRu, uS3, upR, if_pos, stF, upd]; by_cases e : j = 7 <;> simp [e]))) (fun j _ hj => stcRu b j i _ _ hi hj)
  rw [e]
  exact kk
theorem g3_acts {idx : Nat} {b i : Nat} (hb : b < 10) (hi : i < 8) (hd : decode (mC M) pc = .ok (.getfield idx, 3)) (hlk : Cond.fieldLink (mY M).cls idx "RowTriggers$Rule" "acts" "I" ∈ UU) (kk : PW M d n (pc + 3) ls (.int (sRu (cSt x.1 b) i 8) :: st) (hp x) Q) : PW M d n pc ls (.ref (16 * b + (7 + i)) :: st) (hp x) Q :=
  pw_getfield (k := 8) clX3 hd ((hp_st x hb (by omega : 7 + i < 16)).trans (stc_ru b i _ hi)) (by decide) hlk kk
theorem p3_acts {idx : Nat} {v : Int32} {b i : Nat} (hb : b < 10) (hi : i < 8) (hd : decode (mC M) pc = .ok (.putfield idx, 3)) (hlk : Cond.fieldLink (mY M).cls idx "RowTriggers$Rule" "acts" "I" ∈ UU) (kk : PW M d n (pc + 3) ls st (hp (uC1 x b (uS3 (cSt x.1 b) (upR (sRu (cSt x.1 b)) i (upd (sRu (cSt x.1 b) i) 8 v))))) Q) : PW M d n pc ls (.int v :: .ref (16 * b + (7 + i)) :: st) (hp x) Q := by
  refine pw_putfield (k := 8) clX3 hd ((hp_st x hb (by omega : 7 + i < 16)).trans (stc_ru b i _ hi)) (by decide) hlk rfl (fun G => narI G v) ?_
  have e := hp_us (x := x) (b := b) (o := 7 + i) (c := .inr (3, stF (fun k => .int (sRu (cSt x.1 b) i k)) 8 (.int v))) (uS3 (cSt x.1 b) (upR (sRu (cSt x.1 b)) i (upd (sRu (cSt x.1 b) i) 8 v))) hb (by omega) ((stc_ru b i _ hi).trans (congrArg (fun z => some (Sum.inr (3, z))) (by funext j; simp only [sRu, uS3, upR, if_pos, stF, upd]; by_cases e : j = 8 <;> simp [e]))) (fun j _ hj => stcRu b j i _ _ hi hj)
  rw [e]
  exact kk
theorem g7_now {idx : Nat} (hd : decode (mC M) pc = .ok (.getfield idx, 3)) (hlk : Cond.fieldLink (mY M).cls idx "RowTriggers" "now" "LRowTriggers$State;" ∈ UU) (kk : PW M d n (pc + 3) ls (.ref (16 * 0) :: st) (hp x) Q) : PW M d n pc ls (.ref 160 :: st) (hp x) Q :=
  pw_getfield (k := 0) clX7 hd (hp_ot x 0) (by decide) hlk kk
theorem g7_trial {idx : Nat} (hd : decode (mC M) pc = .ok (.getfield idx, 3)) (hlk : Cond.fieldLink (mY M).cls idx "RowTriggers" "trial" "LRowTriggers$Statement;" ∈ UU) (kk : PW M d n (pc + 3) ls (.ref 161 :: st) (hp x) Q) : PW M d n pc ls (.ref 160 :: st) (hp x) Q :=
  pw_getfield (k := 1) clX7 hd (hp_ot x 0) (by decide) hlk kk
theorem g7_chains {idx : Nat} (hd : decode (mC M) pc = .ok (.getfield idx, 3)) (hlk : Cond.fieldLink (mY M).cls idx "RowTriggers" "chains" "LRowTriggers$Chains;" ∈ UU) (kk : PW M d n (pc + 3) ls (.ref 162 :: st) (hp x) Q) : PW M d n pc ls (.ref 160 :: st) (hp x) Q :=
  pw_getfield (k := 2) clX7 hd (hp_ot x 0) (by decide) hlk kk
theorem g7_text {idx : Nat} (hd : decode (mC M) pc = .ok (.getfield idx, 3)) (hlk : Cond.fieldLink (mY M).cls idx "RowTriggers" "text" "LRowTriggers$Text;" ∈ UU) (kk : PW M d n (pc + 3) ls (.ref 164 :: st) (hp x) Q) : PW M d n pc ls (.ref 160 :: st) (hp x) Q :=
  pw_getfield (k := 3) clX7 hd (hp_ot x 0) (by decide) hlk kk
theorem g7_history {idx : Nat} (hd : decode (mC M) pc = .ok (.getfield idx, 3)) (hlk : Cond.fieldLink (mY M).cls idx "RowTriggers" "history" "LRowTriggers$History;" ∈ UU) (kk : PW M d n (pc + 3) ls (.ref 167 :: st) (hp x) Q) : PW M d n pc ls (.ref 160 :: st) (hp x) Q :=
  pw_getfield (k := 4) clX7 hd (hp_ot x 0) (by decide) hlk kk
theorem g7_slots {idx : Nat} (hd : decode (mC M) pc = .ok (.getfield idx, 3)) (hlk : Cond.fieldLink (mY M).cls idx "RowTriggers" "slots" "[LRowTriggers$State;" ∈ UU) (kk : PW M d n (pc + 3) ls (.ref 169 :: st) (hp x) Q) : PW M d n pc ls (.ref 160 :: st) (hp x) Q :=
  pw_getfield (k := 5) clX7 hd (hp_ot x 0) (by decide) hlk kk
theorem g7_slotIsFilled {idx : Nat} (hd : decode (mC M) pc = .ok (.getfield idx, 3)) (hlk : Cond.fieldLink (mY M).cls idx "RowTriggers" "slotIsFilled" "[Z" ∈ UU) (kk : PW M d n (pc + 3) ls (.ref 170 :: st) (hp x) Q) : PW M d n pc ls (.ref 160 :: st) (hp x) Q :=
  pw_getfield (k := 6) clX7 hd (hp_ot x 0) (by decide) hlk kk
theorem g5_state {idx : Nat} (hd : decode (mC M) pc = .ok (.getfield idx, 3)) (hlk : Cond.fieldLink (mY M).cls idx "RowTriggers$Statement" "state" "LRowTriggers$State;" ∈ UU) (kk : PW M d n (pc + 3) ls (.ref (16 * 1) :: st) (hp x) Q) : PW M d n pc ls (.ref 161 :: st) (hp x) Q :=
  pw_getfield (k := 0) clX5 hd (hp_ot x 1) (by decide) hlk kk
theorem g5_events {idx : Nat} (hd : decode (mC M) pc = .ok (.getfield idx, 3)) (hlk : Cond.fieldLink (mY M).cls idx "RowTriggers$Statement" "events" "I" ∈ UU) (kk : PW M d n (pc + 3) ls (.int (cSm x.1 0) :: st) (hp x) Q) : PW M d n pc ls (.ref 161 :: st) (hp x) Q :=
  pw_getfield (k := 1) clX5 hd (hp_ot x 1) (by decide) hlk kk
theorem p5_events {idx : Nat} {v : Int32} (hd : decode (mC M) pc = .ok (.putfield idx, 3)) (hlk : Cond.fieldLink (mY M).cls idx "RowTriggers$Statement" "events" "I" ∈ UU) (kk : PW M d n (pc + 3) ls st (hp (uC2 x (upd (cSm x.1) 0 v))) Q) : PW M d n pc ls (.int v :: .ref 161 :: st) (hp x) Q := by
  refine pw_putfield (k := 1) clX5 hd (hp_ot x 1) (by decide) hlk rfl (fun G => narI G v) ?_
  rw [fn1 _ _ 1 v (by decide)]
  have e := hp_uo (x := x) (y := uC2 x (upd (cSm x.1) 0 v)) (o := 1) (fun _ => rfl) rfl (fun j hj => by simp only [otc, if_neg hj]; rfl)
  erw [e]
  exact kk
theorem g5_deepest {idx : Nat} (hd : decode (mC M) pc = .ok (.getfield idx, 3)) (hlk : Cond.fieldLink (mY M).cls idx "RowTriggers$Statement" "deepest" "I" ∈ UU) (kk : PW M d n (pc + 3) ls (.int (cSm x.1 1) :: st) (hp x) Q) : PW M d n pc ls (.ref 161 :: st) (hp x) Q :=
  pw_getfield (k := 2) clX5 hd (hp_ot x 1) (by decide) hlk kk
theorem p5_deepest {idx : Nat} {v : Int32} (hd : decode (mC M) pc = .ok (.putfield idx, 3)) (hlk : Cond.fieldLink (mY M).cls idx "RowTriggers$Statement" "deepest" "I" ∈ UU) (kk : PW M d n (pc + 3) ls st (hp (uC2 x (upd (cSm x.1) 1 v))) Q) : PW M d n pc ls (.int v :: .ref 161 :: st) (hp x) Q := by
  refine pw_putfield (k := 2) clX5 hd (hp_ot x 1) (by decide) hlk rfl (fun G => narI G v) ?_
  rw [fn1 _ _ 2 v (by decide)]
  have e := hp_uo (x := x) (y := uC2 x (upd (cSm x.1) 1 v)) (o := 1) (fun _ => rfl) rfl (fun j hj => by simp only [otc, if_neg hj]; rfl)
  erw [e]
  exact kk
theorem g5_refusal {idx : Nat} (hd : decode (mC M) pc = .ok (.getfield idx, 3)) (hlk : Cond.fieldLink (mY M).cls idx "RowTriggers$Statement" "refusal" "I" ∈ UU) (kk : PW M d n (pc + 3) ls (.int (cSm x.1 2) :: st) (hp x) Q) : PW M d n pc ls (.ref 161 :: st) (hp x) Q :=
  pw_getfield (k := 3) clX5 hd (hp_ot x 1) (by decide) hlk kk
theorem p5_refusal {idx : Nat} {v : Int32} (hd : decode (mC M) pc = .ok (.putfield idx, 3)) (hlk : Cond.fieldLink (mY M).cls idx "RowTriggers$Statement" "refusal" "I" ∈ UU) (kk : PW M d n (pc + 3) ls st (hp (uC2 x (upd (cSm x.1) 2 v))) Q) : PW M d n pc ls (.int v :: .ref 161 :: st) (hp x) Q := by
  refine pw_putfield (k := 3) clX5 hd (hp_ot x 1) (by decide) hlk rfl (fun G => narI G v) ?_
  rw [fn1 _ _ 3 v (by decide)]
  have e := hp_uo (x := x) (y := uC2 x (upd (cSm x.1) 2 v)) (o := 1) (fun _ => rfl) rfl (fun j hj => by simp only [otc, if_neg hj]; rfl)
  erw [e]
  exact kk
theorem g0_table {idx : Nat} (hd : decode (mC M) pc = .ok (.getfield idx, 3)) (hlk : Cond.fieldLink (mY M).cls idx "RowTriggers$Chains" "table" "[I" ∈ UU) (kk : PW M d n (pc + 3) ls (.ref 163 :: st) (hp x) Q) : PW M d n pc ls (.ref 162 :: st) (hp x) Q :=
  pw_getfield (k := 0) clX0 hd (hp_ot x 2) (by decide) hlk kk
theorem g6_signs {idx : Nat} (hd : decode (mC M) pc = .ok (.getfield idx, 3)) (hlk : Cond.fieldLink (mY M).cls idx "RowTriggers$Text" "signs" "[C" ∈ UU) (kk : PW M d n (pc + 3) ls (.ref 165 :: st) (hp x) Q) : PW M d n pc ls (.ref 164 :: st) (hp x) Q :=
  pw_getfield (k := 0) clX6 hd (hp_ot x 4) (by decide) hlk kk
theorem g6_length {idx : Nat} (hd : decode (mC M) pc = .ok (.getfield idx, 3)) (hlk : Cond.fieldLink (mY M).cls idx "RowTriggers$Text" "length" "I" ∈ UU) (kk : PW M d n (pc + 3) ls (.int (cTx x.1 0) :: st) (hp x) Q) : PW M d n pc ls (.ref 164 :: st) (hp x) Q :=
  pw_getfield (k := 1) clX6 hd (hp_ot x 4) (by decide) hlk kk
theorem p6_length {idx : Nat} {v : Int32} (hd : decode (mC M) pc = .ok (.putfield idx, 3)) (hlk : Cond.fieldLink (mY M).cls idx "RowTriggers$Text" "length" "I" ∈ UU) (kk : PW M d n (pc + 3) ls st (hp (uC5 x (upd (cTx x.1) 0 v))) Q) : PW M d n pc ls (.int v :: .ref 164 :: st) (hp x) Q := by
  refine pw_putfield (k := 1) clX6 hd (hp_ot x 4) (by decide) hlk rfl (fun G => narI G v) ?_
  rw [fnT _ 1 v (by decide) (by decide)]
  have e := hp_uo (x := x) (y := uC5 x (upd (cTx x.1) 0 v)) (o := 4) (fun _ => rfl) rfl (fun j hj => by simp only [otc, if_neg hj]; rfl)
  erw [e]
  exact kk
theorem g6_at {idx : Nat} (hd : decode (mC M) pc = .ok (.getfield idx, 3)) (hlk : Cond.fieldLink (mY M).cls idx "RowTriggers$Text" "at" "I" ∈ UU) (kk : PW M d n (pc + 3) ls (.int (cTx x.1 1) :: st) (hp x) Q) : PW M d n pc ls (.ref 164 :: st) (hp x) Q :=
  pw_getfield (k := 2) clX6 hd (hp_ot x 4) (by decide) hlk kk
theorem p6_at {idx : Nat} {v : Int32} (hd : decode (mC M) pc = .ok (.putfield idx, 3)) (hlk : Cond.fieldLink (mY M).cls idx "RowTriggers$Text" "at" "I" ∈ UU) (kk : PW M d n (pc + 3) ls st (hp (uC5 x (upd (cTx x.1) 1 v))) Q) : PW M d n pc ls (.int v :: .ref 164 :: st) (hp x) Q := by
  refine pw_putfield (k := 2) clX6 hd (hp_ot x 4) (by decide) hlk rfl (fun G => narI G v) ?_
  rw [fnT _ 2 v (by decide) (by decide)]
  have e := hp_uo (x := x) (y := uC5 x (upd (cTx x.1) 1 v)) (o := 4) (fun _ => rfl) rfl (fun j hj => by simp only [otc, if_neg hj]; rfl)
  erw [e]
  exact kk
theorem g6_command {idx : Nat} (hd : decode (mC M) pc = .ok (.getfield idx, 3)) (hlk : Cond.fieldLink (mY M).cls idx "RowTriggers$Text" "command" "C" ∈ UU) (kk : PW M d n (pc + 3) ls (.int (cTx x.1 2) :: st) (hp x) Q) : PW M d n pc ls (.ref 164 :: st) (hp x) Q :=
  pw_getfield (k := 3) clX6 hd (hp_ot x 4) (by decide) hlk kk
theorem p6_command {idx : Nat} {v : Int32} (hd : decode (mC M) pc = .ok (.putfield idx, 3)) (hlk : Cond.fieldLink (mY M).cls idx "RowTriggers$Text" "command" "C" ∈ UU) (hn : narrow .char (.int v) = .int v ∧ fits .char (.int v) = true) (kk : PW M d n (pc + 3) ls st (hp (uC5 x (upd (cTx x.1) 2 v))) Q) : PW M d n pc ls (.int v :: .ref 164 :: st) (hp x) Q := by
  refine pw_putfield (k := 3) clX6 hd (hp_ot x 4) (by decide) hlk rfl (fun _ => hn) ?_
  rw [fnT _ 3 v (by decide) (by decide)]
  have e := hp_uo (x := x) (y := uC5 x (upd (cTx x.1) 2 v)) (o := 4) (fun _ => rfl) rfl (fun j hj => by simp only [otc, if_neg hj]; rfl)
  erw [e]
  exact kk
theorem g6_numbers {idx : Nat} (hd : decode (mC M) pc = .ok (.getfield idx, 3)) (hlk : Cond.fieldLink (mY M).cls idx "RowTriggers$Text" "numbers" "[I" ∈ UU) (kk : PW M d n (pc + 3) ls (.ref 166 :: st) (hp x) Q) : PW M d n pc ls (.ref 164 :: st) (hp x) Q :=
  pw_getfield (k := 4) clX6 hd (hp_ot x 4) (by decide) hlk kk
theorem g1_states {idx : Nat} (hd : decode (mC M) pc = .ok (.getfield idx, 3)) (hlk : Cond.fieldLink (mY M).cls idx "RowTriggers$History" "states" "[LRowTriggers$State;" ∈ UU) (kk : PW M d n (pc + 3) ls (.ref 168 :: st) (hp x) Q) : PW M d n pc ls (.ref 167 :: st) (hp x) Q :=
  pw_getfield (k := 0) clX1 hd (hp_ot x 7) (by decide) hlk kk
theorem g1_size {idx : Nat} (hd : decode (mC M) pc = .ok (.getfield idx, 3)) (hlk : Cond.fieldLink (mY M).cls idx "RowTriggers$History" "size" "I" ∈ UU) (kk : PW M d n (pc + 3) ls (.int (cHi x.1 0) :: st) (hp x) Q) : PW M d n pc ls (.ref 167 :: st) (hp x) Q :=
  pw_getfield (k := 1) clX1 hd (hp_ot x 7) (by decide) hlk kk
theorem p1_size {idx : Nat} {v : Int32} (hd : decode (mC M) pc = .ok (.putfield idx, 3)) (hlk : Cond.fieldLink (mY M).cls idx "RowTriggers$History" "size" "I" ∈ UU) (kk : PW M d n (pc + 3) ls st (hp (uC7 x (upd (cHi x.1) 0 v))) Q) : PW M d n pc ls (.int v :: .ref 167 :: st) (hp x) Q := by
  refine pw_putfield (k := 1) clX1 hd (hp_ot x 7) (by decide) hlk rfl (fun G => narI G v) ?_
  rw [fn1 _ _ 1 v (by decide)]
  have e := hp_uo (x := x) (y := uC7 x (upd (cHi x.1) 0 v)) (o := 7) (fun _ => rfl) rfl (fun j hj => by simp only [otc, if_neg hj]; rfl)
  erw [e]
  exact kk
theorem g1_next {idx : Nat} (hd : decode (mC M) pc = .ok (.getfield idx, 3)) (hlk : Cond.fieldLink (mY M).cls idx "RowTriggers$History" "next" "I" ∈ UU) (kk : PW M d n (pc + 3) ls (.int (cHi x.1 1) :: st) (hp x) Q) : PW M d n pc ls (.ref 167 :: st) (hp x) Q :=
  pw_getfield (k := 2) clX1 hd (hp_ot x 7) (by decide) hlk kk
theorem p1_next {idx : Nat} {v : Int32} (hd : decode (mC M) pc = .ok (.putfield idx, 3)) (hlk : Cond.fieldLink (mY M).cls idx "RowTriggers$History" "next" "I" ∈ UU) (kk : PW M d n (pc + 3) ls st (hp (uC7 x (upd (cHi x.1) 1 v))) Q) : PW M d n pc ls (.int v :: .ref 167 :: st) (hp x) Q := by
  refine pw_putfield (k := 2) clX1 hd (hp_ot x 7) (by decide) hlk rfl (fun G => narI G v) ?_
  rw [fn1 _ _ 2 v (by decide)]
  have e := hp_uo (x := x) (y := uC7 x (upd (cHi x.1) 1 v)) (o := 7) (fun _ => rfl) rfl (fun j hj => by simp only [otc, if_neg hj]; rfl)
  erw [e]
  exact kk
theorem al_there {i : Int32} {b : Nat} (hb : b < 10) (hd : decode (mC M) pc = .ok (.baload, 1)) (hin : vp_in i 6) (kk : PW M d n (pc + 1) ls (.int (sTh (cSt x.1 b) i.toNatClampNeg) :: st) (hp x) Q) : PW M d n pc ls (.int i :: .ref (16 * b + 1) :: st) (hp x) Q :=
  pw_zald hd (hp_st x hb (by decide : 1 < 16)) hin kk
theorem as_there {i : Int32} {v : Int32} {b : Nat} (hb : b < 10) (hd : decode (mC M) pc = .ok (.bastore, 1)) (hin : vp_in i 6) (hn : narrow .boolean (.int v) = .int v) (kk : PW M d n (pc + 1) ls st (hp (uC1 x b (uS1 (cSt x.1 b) (upd (sTh (cSt x.1 b)) i.toNatClampNeg v)))) Q) : PW M d n pc ls (.int v :: .int i :: .ref (16 * b + 1) :: st) (hp x) Q := by
  refine pw_zast hd (hp_st x hb (by decide : 1 < 16)) hin hn ?_
  rw [iA_st]
  have e := hp_us (x := x) (b := b) (o := 1) (uS1 (cSt x.1 b) (upd (sTh (cSt x.1 b)) i.toNatClampNeg v)) hb (by decide) rfl (fun j _ hj => stcTh b j _ _ hj)
  erw [e]
  exact kk
theorem al_there_e {e : Nat} {i : Int32} {b : Nat} (hb : b < 10) (hd : decode (mC M) pc = .ok (.baload, 1)) (hi : i = nI e) (he : e < 6) (kk : PW M d n (pc + 1) ls (.int (sTh (cSt x.1 b) e) :: st) (hp x) Q) : PW M d n pc ls (.int i :: .ref (16 * b + 1) :: st) (hp x) Q := by
  subst hi
  exact al_there hb hd (vp_in_nI he (by decide)) (by rw [nI_clamp (by omega)]; exact kk)
theorem as_there_e {e : Nat} {i : Int32} {v : Int32} {b : Nat} (hb : b < 10) (hd : decode (mC M) pc = .ok (.bastore, 1)) (hi : i = nI e) (he : e < 6) (hn : narrow .boolean (.int v) = .int v) (kk : PW M d n (pc + 1) ls st (hp (uC1 x b (uS1 (cSt x.1 b) (upd (sTh (cSt x.1 b)) e v)))) Q) : PW M d n pc ls (.int v :: .int i :: .ref (16 * b + 1) :: st) (hp x) Q := by
  subst hi
  exact as_there hb hd (vp_in_nI he (by decide)) hn (by rw [nI_clamp (by omega)]; exact kk)
theorem al_values {i : Int32} {b : Nat} (hb : b < 10) (hd : decode (mC M) pc = .ok (.iaload, 1)) (hin : vp_in i 18) (kk : PW M d n (pc + 1) ls (.int (sVa (cSt x.1 b) i.toNatClampNeg) :: st) (hp x) Q) : PW M d n pc ls (.int i :: .ref (16 * b + 2) :: st) (hp x) Q :=
  pw_iald hd (hp_st x hb (by decide : 2 < 16)) hin kk
theorem as_values {i : Int32} {v : Int32} {b : Nat} (hb : b < 10) (hd : decode (mC M) pc = .ok (.iastore, 1)) (hin : vp_in i 18) (kk : PW M d n (pc + 1) ls st (hp (uC1 x b (uS2 (cSt x.1 b) (upd (sVa (cSt x.1 b)) i.toNatClampNeg v)))) Q) : PW M d n pc ls (.int v :: .int i :: .ref (16 * b + 2) :: st) (hp x) Q := by
  refine pw_iast hd (hp_st x hb (by decide : 2 < 16)) hin ?_
  rw [iA_st]
  have e := hp_us (x := x) (b := b) (o := 2) (uS2 (cSt x.1 b) (upd (sVa (cSt x.1 b)) i.toNatClampNeg v)) hb (by decide) rfl (fun j _ hj => stcVa b j _ _ hj)
  erw [e]
  exact kk
theorem al_values_e {e : Nat} {i : Int32} {b : Nat} (hb : b < 10) (hd : decode (mC M) pc = .ok (.iaload, 1)) (hi : i = nI e) (he : e < 18) (kk : PW M d n (pc + 1) ls (.int (sVa (cSt x.1 b) e) :: st) (hp x) Q) : PW M d n pc ls (.int i :: .ref (16 * b + 2) :: st) (hp x) Q := by
  subst hi
  exact al_values hb hd (vp_in_nI he (by decide)) (by rw [nI_clamp (by omega)]; exact kk)
theorem as_values_e {e : Nat} {i : Int32} {v : Int32} {b : Nat} (hb : b < 10) (hd : decode (mC M) pc = .ok (.iastore, 1)) (hi : i = nI e) (he : e < 18) (kk : PW M d n (pc + 1) ls st (hp (uC1 x b (uS2 (cSt x.1 b) (upd (sVa (cSt x.1 b)) e v)))) Q) : PW M d n pc ls (.int v :: .int i :: .ref (16 * b + 2) :: st) (hp x) Q := by
  subst hi
  exact as_values hb hd (vp_in_nI he (by decide)) (by rw [nI_clamp (by omega)]; exact kk)
theorem al_lr {i : Int32} {b : Nat} (hb : b < 10) (hd : decode (mC M) pc = .ok (.iaload, 1)) (hin : vp_in i 16) (kk : PW M d n (pc + 1) ls (.int (sLr (cSt x.1 b) i.toNatClampNeg) :: st) (hp x) Q) : PW M d n pc ls (.int i :: .ref (16 * b + 5) :: st) (hp x) Q :=
  pw_iald hd (hp_st x hb (by decide : 5 < 16)) hin kk
theorem as_lr {i : Int32} {v : Int32} {b : Nat} (hb : b < 10) (hd : decode (mC M) pc = .ok (.iastore, 1)) (hin : vp_in i 16) (kk : PW M d n (pc + 1) ls st (hp (uC1 x b (uS4 (cSt x.1 b) (upd (sLr (cSt x.1 b)) i.toNatClampNeg v)))) Q) : PW M d n pc ls (.int v :: .int i :: .ref (16 * b + 5) :: st) (hp x) Q := by
  refine pw_iast hd (hp_st x hb (by decide : 5 < 16)) hin ?_
  rw [iA_st]
  have e := hp_us (x := x) (b := b) (o := 5) (uS4 (cSt x.1 b) (upd (sLr (cSt x.1 b)) i.toNatClampNeg v)) hb (by decide) rfl (fun j _ hj => stcLr b j _ _ hj)
  erw [e]
  exact kk
theorem al_lr_e {e : Nat} {i : Int32} {b : Nat} (hb : b < 10) (hd : decode (mC M) pc = .ok (.iaload, 1)) (hi : i = nI e) (he : e < 16) (kk : PW M d n (pc + 1) ls (.int (sLr (cSt x.1 b) e) :: st) (hp x) Q) : PW M d n pc ls (.int i :: .ref (16 * b + 5) :: st) (hp x) Q := by
  subst hi
  exact al_lr hb hd (vp_in_nI he (by decide)) (by rw [nI_clamp (by omega)]; exact kk)
theorem as_lr_e {e : Nat} {i : Int32} {v : Int32} {b : Nat} (hb : b < 10) (hd : decode (mC M) pc = .ok (.iastore, 1)) (hi : i = nI e) (he : e < 16) (kk : PW M d n (pc + 1) ls st (hp (uC1 x b (uS4 (cSt x.1 b) (upd (sLr (cSt x.1 b)) e v)))) Q) : PW M d n pc ls (.int v :: .int i :: .ref (16 * b + 5) :: st) (hp x) Q := by
  subst hi
  exact as_lr hb hd (vp_in_nI he (by decide)) (by rw [nI_clamp (by omega)]; exact kk)
theorem al_ld {i : Int32} {b : Nat} (hb : b < 10) (hd : decode (mC M) pc = .ok (.iaload, 1)) (hin : vp_in i 16) (kk : PW M d n (pc + 1) ls (.int (sLd (cSt x.1 b) i.toNatClampNeg) :: st) (hp x) Q) : PW M d n pc ls (.int i :: .ref (16 * b + 6) :: st) (hp x) Q :=
  pw_iald hd (hp_st x hb (by decide : 6 < 16)) hin kk
theorem as_ld {i : Int32} {v : Int32} {b : Nat} (hb : b < 10) (hd : decode (mC M) pc = .ok (.iastore, 1)) (hin : vp_in i 16) (kk : PW M d n (pc + 1) ls st (hp (uC1 x b (uS5 (cSt x.1 b) (upd (sLd (cSt x.1 b)) i.toNatClampNeg v)))) Q) : PW M d n pc ls (.int v :: .int i :: .ref (16 * b + 6) :: st) (hp x) Q := by
  refine pw_iast hd (hp_st x hb (by decide : 6 < 16)) hin ?_
  rw [iA_st]
  have e := hp_us (x := x) (b := b) (o := 6) (uS5 (cSt x.1 b) (upd (sLd (cSt x.1 b)) i.toNatClampNeg v)) hb (by decide) rfl (fun j _ hj => stcLd b j _ _ hj)
  erw [e]
  exact kk
theorem al_ld_e {e : Nat} {i : Int32} {b : Nat} (hb : b < 10) (hd : decode (mC M) pc = .ok (.iaload, 1)) (hi : i = nI e) (he : e < 16) (kk : PW M d n (pc + 1) ls (.int (sLd (cSt x.1 b) e) :: st) (hp x) Q) : PW M d n pc ls (.int i :: .ref (16 * b + 6) :: st) (hp x) Q := by
  subst hi
  exact al_ld hb hd (vp_in_nI he (by decide)) (by rw [nI_clamp (by omega)]; exact kk)
theorem as_ld_e {e : Nat} {i : Int32} {v : Int32} {b : Nat} (hb : b < 10) (hd : decode (mC M) pc = .ok (.iastore, 1)) (hi : i = nI e) (he : e < 16) (kk : PW M d n (pc + 1) ls st (hp (uC1 x b (uS5 (cSt x.1 b) (upd (sLd (cSt x.1 b)) e v)))) Q) : PW M d n pc ls (.int v :: .int i :: .ref (16 * b + 6) :: st) (hp x) Q := by
  subst hi
  exact as_ld hb hd (vp_in_nI he (by decide)) (by rw [nI_clamp (by omega)]; exact kk)
theorem al_table {i : Int32} (hd : decode (mC M) pc = .ok (.iaload, 1)) (hin : vp_in i 8) (kk : PW M d n (pc + 1) ls (.int (cCt x.1 i.toNatClampNeg) :: st) (hp x) Q) : PW M d n pc ls (.int i :: .ref 163 :: st) (hp x) Q :=
  pw_iald hd (hp_ot x 3) hin kk
theorem as_table {i : Int32} {v : Int32} (hd : decode (mC M) pc = .ok (.iastore, 1)) (hin : vp_in i 8) (kk : PW M d n (pc + 1) ls st (hp (uC3 x (upd (cCt x.1) i.toNatClampNeg v))) Q) : PW M d n pc ls (.int v :: .int i :: .ref 163 :: st) (hp x) Q := by
  refine pw_iast hd (hp_ot x 3) hin ?_
  rw [iA_st]
  have e := hp_uo (x := x) (y := uC3 x (upd (cCt x.1) i.toNatClampNeg v)) (o := 3) (fun _ => rfl) rfl (fun j hj => by simp only [otc, if_neg hj]; rfl)
  erw [e]
  exact kk
theorem al_table_e {e : Nat} {i : Int32} (hd : decode (mC M) pc = .ok (.iaload, 1)) (hi : i = nI e) (he : e < 8) (kk : PW M d n (pc + 1) ls (.int (cCt x.1 e) :: st) (hp x) Q) : PW M d n pc ls (.int i :: .ref 163 :: st) (hp x) Q := by
  subst hi
  exact al_table hd (vp_in_nI he (by decide)) (by rw [nI_clamp (by omega)]; exact kk)
theorem as_table_e {e : Nat} {i : Int32} {v : Int32} (hd : decode (mC M) pc = .ok (.iastore, 1)) (hi : i = nI e) (he : e < 8) (kk : PW M d n (pc + 1) ls st (hp (uC3 x (upd (cCt x.1) e v))) Q) : PW M d n pc ls (.int v :: .int i :: .ref 163 :: st) (hp x) Q := by
  subst hi
  exact as_table hd (vp_in_nI he (by decide)) (by rw [nI_clamp (by omega)]; exact kk)
theorem al_signs {i : Int32} (hd : decode (mC M) pc = .ok (.caload, 1)) (hin : vp_in i 80) (kk : PW M d n (pc + 1) ls (.int (cSg x.1 i.toNatClampNeg) :: st) (hp x) Q) : PW M d n pc ls (.int i :: .ref 165 :: st) (hp x) Q :=
  pw_cald hd (hp_ot x 5) hin kk
theorem as_signs {i : Int32} {v : Int32} (hd : decode (mC M) pc = .ok (.castore, 1)) (hin : vp_in i 80) (hn : narrow .char (.int v) = .int v) (kk : PW M d n (pc + 1) ls st (hp (uC4 x (upd (cSg x.1) i.toNatClampNeg v))) Q) : PW M d n pc ls (.int v :: .int i :: .ref 165 :: st) (hp x) Q := by
  refine pw_cast hd (hp_ot x 5) hin hn ?_
  rw [iA_st]
  have e := hp_uo (x := x) (y := uC4 x (upd (cSg x.1) i.toNatClampNeg v)) (o := 5) (fun _ => rfl) rfl (fun j hj => by simp only [otc, if_neg hj]; rfl)
  erw [e]
  exact kk
theorem al_signs_e {e : Nat} {i : Int32} (hd : decode (mC M) pc = .ok (.caload, 1)) (hi : i = nI e) (he : e < 80) (kk : PW M d n (pc + 1) ls (.int (cSg x.1 e) :: st) (hp x) Q) : PW M d n pc ls (.int i :: .ref 165 :: st) (hp x) Q := by
  subst hi
  exact al_signs hd (vp_in_nI he (by decide)) (by rw [nI_clamp (by omega)]; exact kk)
theorem as_signs_e {e : Nat} {i : Int32} {v : Int32} (hd : decode (mC M) pc = .ok (.castore, 1)) (hi : i = nI e) (he : e < 80) (hn : narrow .char (.int v) = .int v) (kk : PW M d n (pc + 1) ls st (hp (uC4 x (upd (cSg x.1) e v))) Q) : PW M d n pc ls (.int v :: .int i :: .ref 165 :: st) (hp x) Q := by
  subst hi
  exact as_signs hd (vp_in_nI he (by decide)) hn (by rw [nI_clamp (by omega)]; exact kk)
theorem al_numbers {i : Int32} (hd : decode (mC M) pc = .ok (.iaload, 1)) (hin : vp_in i 4) (kk : PW M d n (pc + 1) ls (.int (cNu x.1 i.toNatClampNeg) :: st) (hp x) Q) : PW M d n pc ls (.int i :: .ref 166 :: st) (hp x) Q :=
  pw_iald hd (hp_ot x 6) hin kk
theorem as_numbers {i : Int32} {v : Int32} (hd : decode (mC M) pc = .ok (.iastore, 1)) (hin : vp_in i 4) (kk : PW M d n (pc + 1) ls st (hp (uC6 x (upd (cNu x.1) i.toNatClampNeg v))) Q) : PW M d n pc ls (.int v :: .int i :: .ref 166 :: st) (hp x) Q := by
  refine pw_iast hd (hp_ot x 6) hin ?_
  rw [iA_st]
  have e := hp_uo (x := x) (y := uC6 x (upd (cNu x.1) i.toNatClampNeg v)) (o := 6) (fun _ => rfl) rfl (fun j hj => by simp only [otc, if_neg hj]; rfl)
  erw [e]
  exact kk
theorem al_numbers_e {e : Nat} {i : Int32} (hd : decode (mC M) pc = .ok (.iaload, 1)) (hi : i = nI e) (he : e < 4) (kk : PW M d n (pc + 1) ls (.int (cNu x.1 e) :: st) (hp x) Q) : PW M d n pc ls (.int i :: .ref 166 :: st) (hp x) Q := by
  subst hi
  exact al_numbers hd (vp_in_nI he (by decide)) (by rw [nI_clamp (by omega)]; exact kk)
theorem as_numbers_e {e : Nat} {i : Int32} {v : Int32} (hd : decode (mC M) pc = .ok (.iastore, 1)) (hi : i = nI e) (he : e < 4) (kk : PW M d n (pc + 1) ls st (hp (uC6 x (upd (cNu x.1) e v))) Q) : PW M d n pc ls (.int v :: .int i :: .ref 166 :: st) (hp x) Q := by
  subst hi
  exact as_numbers hd (vp_in_nI he (by decide)) (by rw [nI_clamp (by omega)]; exact kk)
theorem al_filled {i : Int32} (hd : decode (mC M) pc = .ok (.baload, 1)) (hin : vp_in i 2) (kk : PW M d n (pc + 1) ls (.int (cSf x.1 i.toNatClampNeg) :: st) (hp x) Q) : PW M d n pc ls (.int i :: .ref 170 :: st) (hp x) Q :=
  pw_zald hd (hp_ot x 10) hin kk
theorem as_filled {i : Int32} {v : Int32} (hd : decode (mC M) pc = .ok (.bastore, 1)) (hin : vp_in i 2) (hn : narrow .boolean (.int v) = .int v) (kk : PW M d n (pc + 1) ls st (hp (uC8 x (upd (cSf x.1) i.toNatClampNeg v))) Q) : PW M d n pc ls (.int v :: .int i :: .ref 170 :: st) (hp x) Q := by
  refine pw_zast hd (hp_ot x 10) hin hn ?_
  rw [iA_st]
  have e := hp_uo (x := x) (y := uC8 x (upd (cSf x.1) i.toNatClampNeg v)) (o := 10) (fun _ => rfl) rfl (fun j hj => by simp only [otc, if_neg hj]; rfl)
  erw [e]
  exact kk
theorem al_filled_e {e : Nat} {i : Int32} (hd : decode (mC M) pc = .ok (.baload, 1)) (hi : i = nI e) (he : e < 2) (kk : PW M d n (pc + 1) ls (.int (cSf x.1 e) :: st) (hp x) Q) : PW M d n pc ls (.int i :: .ref 170 :: st) (hp x) Q := by
  subst hi
  exact al_filled hd (vp_in_nI he (by decide)) (by rw [nI_clamp (by omega)]; exact kk)
theorem as_filled_e {e : Nat} {i : Int32} {v : Int32} (hd : decode (mC M) pc = .ok (.bastore, 1)) (hi : i = nI e) (he : e < 2) (hn : narrow .boolean (.int v) = .int v) (kk : PW M d n (pc + 1) ls st (hp (uC8 x (upd (cSf x.1) e v))) Q) : PW M d n pc ls (.int v :: .int i :: .ref 170 :: st) (hp x) Q := by
  subst hi
  exact as_filled hd (vp_in_nI he (by decide)) hn (by rw [nI_clamp (by omega)]; exact kk)
theorem al_out {i : Int32} (hd : decode (mC M) pc = .ok (.iaload, 1)) (hin : vp_in i 1) (kk : PW M d n (pc + 1) ls (.int (x.2.2 i.toNatClampNeg) :: st) (hp x) Q) : PW M d n pc ls (.int i :: .ref 171 :: st) (hp x) Q :=
  pw_iald hd (hp_ot x 11) hin kk
theorem as_out {i : Int32} {v : Int32} (hd : decode (mC M) pc = .ok (.iastore, 1)) (hin : vp_in i 1) (kk : PW M d n (pc + 1) ls st (hp (uO x (upd (x.2.2) i.toNatClampNeg v))) Q) : PW M d n pc ls (.int v :: .int i :: .ref 171 :: st) (hp x) Q := by
  refine pw_iast hd (hp_ot x 11) hin ?_
  rw [iA_st]
  have e := hp_uo (x := x) (y := uO x (upd (x.2.2) i.toNatClampNeg v)) (o := 11) (fun _ => rfl) rfl (fun j hj => by simp only [otc, if_neg hj]; rfl)
  erw [e]
  exact kk
theorem al_out_e {e : Nat} {i : Int32} (hd : decode (mC M) pc = .ok (.iaload, 1)) (hi : i = nI e) (he : e < 1) (kk : PW M d n (pc + 1) ls (.int (x.2.2 e) :: st) (hp x) Q) : PW M d n pc ls (.int i :: .ref 171 :: st) (hp x) Q := by
  subst hi
  exact al_out hd (vp_in_nI he (by decide)) (by rw [nI_clamp (by omega)]; exact kk)
theorem as_out_e {e : Nat} {i : Int32} {v : Int32} (hd : decode (mC M) pc = .ok (.iastore, 1)) (hi : i = nI e) (he : e < 1) (kk : PW M d n (pc + 1) ls st (hp (uO x (upd (x.2.2) e v))) Q) : PW M d n pc ls (.int v :: .int i :: .ref 171 :: st) (hp x) Q := by
  subst hi
  exact as_out hd (vp_in_nI he (by decide)) (by rw [nI_clamp (by omega)]; exact kk)
theorem al_rules {i : Int32} {b : Nat} (hb : b < 10) (hd : decode (mC M) pc = .ok (.aaload, 1)) (hin : vp_in i 8) (kk : PW M d n (pc + 1) ls (.ref (16 * b + (7 + i.toNatClampNeg)) :: st) (hp x) Q) : PW M d n pc ls (.int i :: .ref (16 * b + 3) :: st) (hp x) Q :=
  pw_aald (t0 := 4) hd (hp_st x hb (by decide : 3 < 16)) rfl hin kk
theorem al_rules_e {e : Nat} {i : Int32} {b : Nat} (hb : b < 10) (hd : decode (mC M) pc = .ok (.aaload, 1)) (hi : i = nI e) (he : e < 8) (kk : PW M d n (pc + 1) ls (.ref (16 * b + (7 + e)) :: st) (hp x) Q) : PW M d n pc ls (.int i :: .ref (16 * b + 3) :: st) (hp x) Q := by
  subst hi
  exact al_rules hb hd (vp_in_nI he (by decide)) (by rw [nI_clamp (by omega)]; exact kk)
theorem al_hstates_e {e : Nat} {i : Int32} (hd : decode (mC M) pc = .ok (.aaload, 1)) (hi : i = nI e) (he : e < 6) (kk : PW M d n (pc + 1) ls (.ref (16 * (2 + e)) :: st) (hp x) Q) : PW M d n pc ls (.int i :: .ref 168 :: st) (hp x) Q := by
  subst hi
  exact pw_aald (t0 := 5) hd (hp_ot x 8) rfl (vp_in_nI he (by decide)) (by rw [nI_clamp (by omega)]; exact kk)
theorem al_slots_e {e : Nat} {i : Int32} (hd : decode (mC M) pc = .ok (.aaload, 1)) (hi : i = nI e) (he : e < 2) (kk : PW M d n (pc + 1) ls (.ref (16 * (8 + e)) :: st) (hp x) Q) : PW M d n pc ls (.int i :: .ref 169 :: st) (hp x) Q := by
  subst hi
  exact pw_aald (t0 := 5) hd (hp_ot x 9) rfl (vp_in_nI he (by decide)) (by rw [nI_clamp (by omega)]; exact kk)
theorem al_hstates {i : Int32} (hd : decode (mC M) pc = .ok (.aaload, 1)) (hin : vp_in i 6) (kk : PW M d n (pc + 1) ls (.ref (16 * (2 + i.toNatClampNeg)) :: st) (hp x) Q) : PW M d n pc ls (.int i :: .ref 168 :: st) (hp x) Q :=
  pw_aald (t0 := 5) hd (hp_ot x 8) rfl hin kk
theorem al_slots {i : Int32} (hd : decode (mC M) pc = .ok (.aaload, 1)) (hin : vp_in i 2) (kk : PW M d n (pc + 1) ls (.ref (16 * (8 + i.toNatClampNeg)) :: st) (hp x) Q) : PW M d n pc ls (.int i :: .ref 169 :: st) (hp x) Q :=
  pw_aald (t0 := 5) hd (hp_ot x 9) rfl hin kk
end PWD
end
section
abbrev Det (o : Out) (h1 : Hp) : Out → Hp → Prop := fun o2 h2 => o2 = o ∧ h2 = h1
def bI (b : Bool) : Int32 := if b then 1 else 0
theorem bI_t : bI true = 1 := rfl
theorem bI_f : bI false = 0 := rfl
theorem bI_0 {b : Bool} : bI b = 0 ↔ b = false := by cases b <;> decide
theorem nar_bI (b : Bool) : narrow .boolean (.int (bI b)) = .int (bI b) := by cases b <;> rfl
theorem fit_bI (b : Bool) : narrow .boolean (.int (bI b)) = .int (bI b) ∧ fits .boolean (.int (bI b)) = true := by cases b <;> exact ⟨rfl, rfl⟩
section PWS
variable {M : Mth} {d n pc : Nat} {ls : List (Option Value)} {st : List Value} {h : Hp} {Q : Out → Hp → Prop}
theorem pw_ifb {b : Bool} {off : Int} {tgt : Nat} (hd : decode (mC M) pc = .ok (.ifCond .eq off, 3)) (ht : (pc : Int) + off = (tgt : Int)) (kt : b = false → PW M d n tgt ls st h Q) (kf : b = true → PW M d n (pc + 3) ls st h Q) : PW M d n pc ls (.int (bI b) :: st) h Q :=
  pw_if_eq hd ht (fun c => kt (bI_0.mp c)) (fun c => kf (by cases b <;> first | rfl | exact absurd rfl c))
theorem pw_ifnb {b : Bool} {off : Int} {tgt : Nat} (hd : decode (mC M) pc = .ok (.ifCond .ne off, 3)) (ht : (pc : Int) + off = (tgt : Int)) (kt : b = true → PW M d n tgt ls st h Q) (kf : b = false → PW M d n (pc + 3) ls st h Q) : PW M d n pc ls (.int (bI b) :: st) h Q :=
  pw_if_ne hd ht (fun c => kt (by cases b <;> first | rfl | exact absurd rfl c)) (fun c => kf (bI_0.mp c))
theorem pw_ist0 {z : Option Value} {x : Int32} (hd : decode (mC M) pc = .ok (.istore_n 0, 1)) (hn : 0 < mL M) (kk : PW M d n (pc + 1) (some (.int x) :: ls) st h Q) : PW M d n pc (z :: ls) (.int x :: st) h Q :=
  pw_istore_n (k := 0) hd (fun j hj => absurd hj (by omega)) hn rfl kk
theorem pw_ist1 {a0 z : Option Value} {x : Int32} (hd : decode (mC M) pc = .ok (.istore_n 1, 1)) (hp : nlong a0 = true) (hn : 1 < mL M) (kk : PW M d n (pc + 1) (a0 :: some (.int x) :: ls) st h Q) : PW M d n pc (a0 :: z :: ls) (.int x :: st) h Q :=
  pw_istore_n (k := 1) hd (fun j hj w hw => by cases hj; rw [show (a0 :: z :: ls)[0]? = some a0 from rfl] at hw; cases hw; exact hp) hn rfl kk
theorem pw_ist2 {a0 a1 z : Option Value} {x : Int32} (hd : decode (mC M) pc = .ok (.istore_n 2, 1)) (hp : nlong a1 = true) (hn : 2 < mL M) (kk : PW M d n (pc + 1) (a0 :: a1 :: some (.int x) :: ls) st h Q) : PW M d n pc (a0 :: a1 :: z :: ls) (.int x :: st) h Q :=
  pw_istore_n (k := 2) hd (fun j hj w hw => by cases hj; rw [show (a0 :: a1 :: z :: ls)[1]? = some a1 from rfl] at hw; cases hw; exact hp) hn rfl kk
theorem pw_ist3 {a0 a1 a2 z : Option Value} {x : Int32} (hd : decode (mC M) pc = .ok (.istore_n 3, 1)) (hp : nlong a2 = true) (hn : 3 < mL M) (kk : PW M d n (pc + 1) (a0 :: a1 :: a2 :: some (.int x) :: ls) st h Q) : PW M d n pc (a0 :: a1 :: a2 :: z :: ls) (.int x :: st) h Q :=
  pw_istore_n (k := 3) hd (fun j hj w hw => by cases hj; rw [show (a0 :: a1 :: a2 :: z :: ls)[2]? = some a2 from rfl] at hw; cases hw; exact hp) hn rfl kk
theorem pw_ist4 {a0 a1 a2 a3 z : Option Value} {x : Int32} (hd : decode (mC M) pc = .ok (.istore 4, 2)) (hp : nlong a3 = true) (hn : 4 < mL M) (kk : PW M d n (pc + 2) (a0 :: a1 :: a2 :: a3 :: some (.int x) :: ls) st h Q) : PW M d n pc (a0 :: a1 :: a2 :: a3 :: z :: ls) (.int x :: st) h Q :=
  pw_istore (k := 4) hd (fun j hj w hw => by cases hj; rw [show (a0 :: a1 :: a2 :: a3 :: z :: ls)[3]? = some a3 from rfl] at hw; cases hw; exact hp) hn rfl kk
theorem pw_ist5 {a0 a1 a2 a3 a4 z : Option Value} {x : Int32} (hd : decode (mC M) pc = .ok (.istore 5, 2)) (hp : nlong a4 = true) (hn : 5 < mL M) (kk : PW M d n (pc + 2) (a0 :: a1 :: a2 :: a3 :: a4 :: some (.int x) :: ls) st h Q) : PW M d n pc (a0 :: a1 :: a2 :: a3 :: a4 :: z :: ls) (.int x :: st) h Q :=
  pw_istore (k := 5) hd (fun j hj w hw => by cases hj; rw [show (a0 :: a1 :: a2 :: a3 :: a4 :: z :: ls)[4]? = some a4 from rfl] at hw; cases hw; exact hp) hn rfl kk
theorem pw_ist6 {a0 a1 a2 a3 a4 a5 z : Option Value} {x : Int32} (hd : decode (mC M) pc = .ok (.istore 6, 2)) (hp : nlong a5 = true) (hn : 6 < mL M) (kk : PW M d n (pc + 2) (a0 :: a1 :: a2 :: a3 :: a4 :: a5 :: some (.int x) :: ls) st h Q) : PW M d n pc (a0 :: a1 :: a2 :: a3 :: a4 :: a5 :: z :: ls) (.int x :: st) h Q :=
  pw_istore (k := 6) hd (fun j hj w hw => by cases hj; rw [show (a0 :: a1 :: a2 :: a3 :: a4 :: a5 :: z :: ls)[5]? = some a5 from rfl] at hw; cases hw; exact hp) hn rfl kk
theorem pw_ist7 {a0 a1 a2 a3 a4 a5 a6 z : Option Value} {x : Int32} (hd : decode (mC M) pc = .ok (.istore 7, 2)) (hp : nlong a6 = true) (hn : 7 < mL M) (kk : PW M d n (pc + 2) (a0 :: a1 :: a2 :: a3 :: a4 :: a5 :: a6 :: some (.int x) :: ls) st h Q) : PW M d n pc (a0 :: a1 :: a2 :: a3 :: a4 :: a5 :: a6 :: z :: ls) (.int x :: st) h Q :=
  pw_istore (k := 7) hd (fun j hj w hw => by cases hj; rw [show (a0 :: a1 :: a2 :: a3 :: a4 :: a5 :: a6 :: z :: ls)[6]? = some a6 from rfl] at hw; cases hw; exact hp) hn rfl kk
theorem pw_ist8 {a0 a1 a2 a3 a4 a5 a6 a7 z : Option Value} {x : Int32} (hd : decode (mC M) pc = .ok (.istore 8, 2)) (hp : nlong a7 = true) (hn : 8 < mL M) (kk : PW M d n (pc + 2) (a0 :: a1 :: a2 :: a3 :: a4 :: a5 :: a6 :: a7 :: some (.int x) :: ls) st h Q) : PW M d n pc (a0 :: a1 :: a2 :: a3 :: a4 :: a5 :: a6 :: a7 :: z :: ls) (.int x :: st) h Q :=
  pw_istore (k := 8) hd (fun j hj w hw => by cases hj; rw [show (a0 :: a1 :: a2 :: a3 :: a4 :: a5 :: a6 :: a7 :: z :: ls)[7]? = some a7 from rfl] at hw; cases hw; exact hp) hn rfl kk
theorem pw_ist9 {a0 a1 a2 a3 a4 a5 a6 a7 a8 z : Option Value} {x : Int32} (hd : decode (mC M) pc = .ok (.istore 9, 2)) (hp : nlong a8 = true) (hn : 9 < mL M) (kk : PW M d n (pc + 2) (a0 :: a1 :: a2 :: a3 :: a4 :: a5 :: a6 :: a7 :: a8 :: some (.int x) :: ls) st h Q) : PW M d n pc (a0 :: a1 :: a2 :: a3 :: a4 :: a5 :: a6 :: a7 :: a8 :: z :: ls) (.int x :: st) h Q :=
  pw_istore (k := 9) hd (fun j hj w hw => by cases hj; rw [show (a0 :: a1 :: a2 :: a3 :: a4 :: a5 :: a6 :: a7 :: a8 :: z :: ls)[8]? = some a8 from rfl] at hw; cases hw; exact hp) hn rfl kk
theorem pw_ist10 {a0 a1 a2 a3 a4 a5 a6 a7 a8 a9 z : Option Value} {x : Int32} (hd : decode (mC M) pc = .ok (.istore 10, 2)) (hp : nlong a9 = true) (hn : 10 < mL M) (kk : PW M d n (pc + 2) (a0 :: a1 :: a2 :: a3 :: a4 :: a5 :: a6 :: a7 :: a8 :: a9 :: some (.int x) :: ls) st h Q) : PW M d n pc (a0 :: a1 :: a2 :: a3 :: a4 :: a5 :: a6 :: a7 :: a8 :: a9 :: z :: ls) (.int x :: st) h Q :=
  pw_istore (k := 10) hd (fun j hj w hw => by cases hj; rw [show (a0 :: a1 :: a2 :: a3 :: a4 :: a5 :: a6 :: a7 :: a8 :: a9 :: z :: ls)[9]? = some a9 from rfl] at hw; cases hw; exact hp) hn rfl kk
theorem pw_ist11 {a0 a1 a2 a3 a4 a5 a6 a7 a8 a9 a10 z : Option Value} {x : Int32} (hd : decode (mC M) pc = .ok (.istore 11, 2)) (hp : nlong a10 = true) (hn : 11 < mL M) (kk : PW M d n (pc + 2) (a0 :: a1 :: a2 :: a3 :: a4 :: a5 :: a6 :: a7 :: a8 :: a9 :: a10 :: some (.int x) :: ls) st h Q) : PW M d n pc (a0 :: a1 :: a2 :: a3 :: a4 :: a5 :: a6 :: a7 :: a8 :: a9 :: a10 :: z :: ls) (.int x :: st) h Q :=
  pw_istore (k := 11) hd (fun j hj w hw => by cases hj; rw [show (a0 :: a1 :: a2 :: a3 :: a4 :: a5 :: a6 :: a7 :: a8 :: a9 :: a10 :: z :: ls)[10]? = some a10 from rfl] at hw; cases hw; exact hp) hn rfl kk
theorem pw_ist12 {a0 a1 a2 a3 a4 a5 a6 a7 a8 a9 a10 a11 z : Option Value} {x : Int32} (hd : decode (mC M) pc = .ok (.istore 12, 2)) (hp : nlong a11 = true) (hn : 12 < mL M) (kk : PW M d n (pc + 2) (a0 :: a1 :: a2 :: a3 :: a4 :: a5 :: a6 :: a7 :: a8 :: a9 :: a10 :: a11 :: some (.int x) :: ls) st h Q) : PW M d n pc (a0 :: a1 :: a2 :: a3 :: a4 :: a5 :: a6 :: a7 :: a8 :: a9 :: a10 :: a11 :: z :: ls) (.int x :: st) h Q :=
  pw_istore (k := 12) hd (fun j hj w hw => by cases hj; rw [show (a0 :: a1 :: a2 :: a3 :: a4 :: a5 :: a6 :: a7 :: a8 :: a9 :: a10 :: a11 :: z :: ls)[11]? = some a11 from rfl] at hw; cases hw; exact hp) hn rfl kk
theorem pw_ist13 {a0 a1 a2 a3 a4 a5 a6 a7 a8 a9 a10 a11 a12 z : Option Value} {x : Int32} (hd : decode (mC M) pc = .ok (.istore 13, 2)) (hp : nlong a12 = true) (hn : 13 < mL M) (kk : PW M d n (pc + 2) (a0 :: a1 :: a2 :: a3 :: a4 :: a5 :: a6 :: a7 :: a8 :: a9 :: a10 :: a11 :: a12 :: some (.int x) :: ls) st h Q) : PW M d n pc (a0 :: a1 :: a2 :: a3 :: a4 :: a5 :: a6 :: a7 :: a8 :: a9 :: a10 :: a11 :: a12 :: z :: ls) (.int x :: st) h Q :=
  pw_istore (k := 13) hd (fun j hj w hw => by cases hj; rw [show (a0 :: a1 :: a2 :: a3 :: a4 :: a5 :: a6 :: a7 :: a8 :: a9 :: a10 :: a11 :: a12 :: z :: ls)[12]? = some a12 from rfl] at hw; cases hw; exact hp) hn rfl kk
theorem pw_ast0 {z : Option Value} {x : Nat} (hd : decode (mC M) pc = .ok (.astore_n 0, 1)) (hn : 0 < mL M) (kk : PW M d n (pc + 1) (some (.ref x) :: ls) st h Q) : PW M d n pc (z :: ls) (.ref x :: st) h Q :=
  pw_astore_n (k := 0) hd (fun j hj => absurd hj (by omega)) hn rfl kk
theorem pw_ast1 {a0 z : Option Value} {x : Nat} (hd : decode (mC M) pc = .ok (.astore_n 1, 1)) (hp : nlong a0 = true) (hn : 1 < mL M) (kk : PW M d n (pc + 1) (a0 :: some (.ref x) :: ls) st h Q) : PW M d n pc (a0 :: z :: ls) (.ref x :: st) h Q :=
  pw_astore_n (k := 1) hd (fun j hj w hw => by cases hj; rw [show (a0 :: z :: ls)[0]? = some a0 from rfl] at hw; cases hw; exact hp) hn rfl kk
theorem pw_ast2 {a0 a1 z : Option Value} {x : Nat} (hd : decode (mC M) pc = .ok (.astore_n 2, 1)) (hp : nlong a1 = true) (hn : 2 < mL M) (kk : PW M d n (pc + 1) (a0 :: a1 :: some (.ref x) :: ls) st h Q) : PW M d n pc (a0 :: a1 :: z :: ls) (.ref x :: st) h Q :=
  pw_astore_n (k := 2) hd (fun j hj w hw => by cases hj; rw [show (a0 :: a1 :: z :: ls)[1]? = some a1 from rfl] at hw; cases hw; exact hp) hn rfl kk
theorem pw_ast3 {a0 a1 a2 z : Option Value} {x : Nat} (hd : decode (mC M) pc = .ok (.astore_n 3, 1)) (hp : nlong a2 = true) (hn : 3 < mL M) (kk : PW M d n (pc + 1) (a0 :: a1 :: a2 :: some (.ref x) :: ls) st h Q) : PW M d n pc (a0 :: a1 :: a2 :: z :: ls) (.ref x :: st) h Q :=
  pw_astore_n (k := 3) hd (fun j hj w hw => by cases hj; rw [show (a0 :: a1 :: a2 :: z :: ls)[2]? = some a2 from rfl] at hw; cases hw; exact hp) hn rfl kk
theorem pw_ast4 {a0 a1 a2 a3 z : Option Value} {x : Nat} (hd : decode (mC M) pc = .ok (.astore 4, 2)) (hp : nlong a3 = true) (hn : 4 < mL M) (kk : PW M d n (pc + 2) (a0 :: a1 :: a2 :: a3 :: some (.ref x) :: ls) st h Q) : PW M d n pc (a0 :: a1 :: a2 :: a3 :: z :: ls) (.ref x :: st) h Q :=
  pw_astore (k := 4) hd (fun j hj w hw => by cases hj; rw [show (a0 :: a1 :: a2 :: a3 :: z :: ls)[3]? = some a3 from rfl] at hw; cases hw; exact hp) hn rfl kk
theorem pw_ast5 {a0 a1 a2 a3 a4 z : Option Value} {x : Nat} (hd : decode (mC M) pc = .ok (.astore 5, 2)) (hp : nlong a4 = true) (hn : 5 < mL M) (kk : PW M d n (pc + 2) (a0 :: a1 :: a2 :: a3 :: a4 :: some (.ref x) :: ls) st h Q) : PW M d n pc (a0 :: a1 :: a2 :: a3 :: a4 :: z :: ls) (.ref x :: st) h Q :=
  pw_astore (k := 5) hd (fun j hj w hw => by cases hj; rw [show (a0 :: a1 :: a2 :: a3 :: a4 :: z :: ls)[4]? = some a4 from rfl] at hw; cases hw; exact hp) hn rfl kk
theorem pw_ast6 {a0 a1 a2 a3 a4 a5 z : Option Value} {x : Nat} (hd : decode (mC M) pc = .ok (.astore 6, 2)) (hp : nlong a5 = true) (hn : 6 < mL M) (kk : PW M d n (pc + 2) (a0 :: a1 :: a2 :: a3 :: a4 :: a5 :: some (.ref x) :: ls) st h Q) : PW M d n pc (a0 :: a1 :: a2 :: a3 :: a4 :: a5 :: z :: ls) (.ref x :: st) h Q :=
  pw_astore (k := 6) hd (fun j hj w hw => by cases hj; rw [show (a0 :: a1 :: a2 :: a3 :: a4 :: a5 :: z :: ls)[5]? = some a5 from rfl] at hw; cases hw; exact hp) hn rfl kk
theorem pw_ast7 {a0 a1 a2 a3 a4 a5 a6 z : Option Value} {x : Nat} (hd : decode (mC M) pc = .ok (.astore 7, 2)) (hp : nlong a6 = true) (hn : 7 < mL M) (kk : PW M d n (pc + 2) (a0 :: a1 :: a2 :: a3 :: a4 :: a5 :: a6 :: some (.ref x) :: ls) st h Q) : PW M d n pc (a0 :: a1 :: a2 :: a3 :: a4 :: a5 :: a6 :: z :: ls) (.ref x :: st) h Q :=
  pw_astore (k := 7) hd (fun j hj w hw => by cases hj; rw [show (a0 :: a1 :: a2 :: a3 :: a4 :: a5 :: a6 :: z :: ls)[6]? = some a6 from rfl] at hw; cases hw; exact hp) hn rfl kk
theorem pw_ast8 {a0 a1 a2 a3 a4 a5 a6 a7 z : Option Value} {x : Nat} (hd : decode (mC M) pc = .ok (.astore 8, 2)) (hp : nlong a7 = true) (hn : 8 < mL M) (kk : PW M d n (pc + 2) (a0 :: a1 :: a2 :: a3 :: a4 :: a5 :: a6 :: a7 :: some (.ref x) :: ls) st h Q) : PW M d n pc (a0 :: a1 :: a2 :: a3 :: a4 :: a5 :: a6 :: a7 :: z :: ls) (.ref x :: st) h Q :=
  pw_astore (k := 8) hd (fun j hj w hw => by cases hj; rw [show (a0 :: a1 :: a2 :: a3 :: a4 :: a5 :: a6 :: a7 :: z :: ls)[7]? = some a7 from rfl] at hw; cases hw; exact hp) hn rfl kk
theorem pw_ast9 {a0 a1 a2 a3 a4 a5 a6 a7 a8 z : Option Value} {x : Nat} (hd : decode (mC M) pc = .ok (.astore 9, 2)) (hp : nlong a8 = true) (hn : 9 < mL M) (kk : PW M d n (pc + 2) (a0 :: a1 :: a2 :: a3 :: a4 :: a5 :: a6 :: a7 :: a8 :: some (.ref x) :: ls) st h Q) : PW M d n pc (a0 :: a1 :: a2 :: a3 :: a4 :: a5 :: a6 :: a7 :: a8 :: z :: ls) (.ref x :: st) h Q :=
  pw_astore (k := 9) hd (fun j hj w hw => by cases hj; rw [show (a0 :: a1 :: a2 :: a3 :: a4 :: a5 :: a6 :: a7 :: a8 :: z :: ls)[8]? = some a8 from rfl] at hw; cases hw; exact hp) hn rfl kk
theorem pw_ast10 {a0 a1 a2 a3 a4 a5 a6 a7 a8 a9 z : Option Value} {x : Nat} (hd : decode (mC M) pc = .ok (.astore 10, 2)) (hp : nlong a9 = true) (hn : 10 < mL M) (kk : PW M d n (pc + 2) (a0 :: a1 :: a2 :: a3 :: a4 :: a5 :: a6 :: a7 :: a8 :: a9 :: some (.ref x) :: ls) st h Q) : PW M d n pc (a0 :: a1 :: a2 :: a3 :: a4 :: a5 :: a6 :: a7 :: a8 :: a9 :: z :: ls) (.ref x :: st) h Q :=
  pw_astore (k := 10) hd (fun j hj w hw => by cases hj; rw [show (a0 :: a1 :: a2 :: a3 :: a4 :: a5 :: a6 :: a7 :: a8 :: a9 :: z :: ls)[9]? = some a9 from rfl] at hw; cases hw; exact hp) hn rfl kk
theorem pw_ast11 {a0 a1 a2 a3 a4 a5 a6 a7 a8 a9 a10 z : Option Value} {x : Nat} (hd : decode (mC M) pc = .ok (.astore 11, 2)) (hp : nlong a10 = true) (hn : 11 < mL M) (kk : PW M d n (pc + 2) (a0 :: a1 :: a2 :: a3 :: a4 :: a5 :: a6 :: a7 :: a8 :: a9 :: a10 :: some (.ref x) :: ls) st h Q) : PW M d n pc (a0 :: a1 :: a2 :: a3 :: a4 :: a5 :: a6 :: a7 :: a8 :: a9 :: a10 :: z :: ls) (.ref x :: st) h Q :=
  pw_astore (k := 11) hd (fun j hj w hw => by cases hj; rw [show (a0 :: a1 :: a2 :: a3 :: a4 :: a5 :: a6 :: a7 :: a8 :: a9 :: a10 :: z :: ls)[10]? = some a10 from rfl] at hw; cases hw; exact hp) hn rfl kk
theorem pw_ast12 {a0 a1 a2 a3 a4 a5 a6 a7 a8 a9 a10 a11 z : Option Value} {x : Nat} (hd : decode (mC M) pc = .ok (.astore 12, 2)) (hp : nlong a11 = true) (hn : 12 < mL M) (kk : PW M d n (pc + 2) (a0 :: a1 :: a2 :: a3 :: a4 :: a5 :: a6 :: a7 :: a8 :: a9 :: a10 :: a11 :: some (.ref x) :: ls) st h Q) : PW M d n pc (a0 :: a1 :: a2 :: a3 :: a4 :: a5 :: a6 :: a7 :: a8 :: a9 :: a10 :: a11 :: z :: ls) (.ref x :: st) h Q :=
  pw_astore (k := 12) hd (fun j hj w hw => by cases hj; rw [show (a0 :: a1 :: a2 :: a3 :: a4 :: a5 :: a6 :: a7 :: a8 :: a9 :: a10 :: a11 :: z :: ls)[11]? = some a11 from rfl] at hw; cases hw; exact hp) hn rfl kk
theorem pw_ast13 {a0 a1 a2 a3 a4 a5 a6 a7 a8 a9 a10 a11 a12 z : Option Value} {x : Nat} (hd : decode (mC M) pc = .ok (.astore 13, 2)) (hp : nlong a12 = true) (hn : 13 < mL M) (kk : PW M d n (pc + 2) (a0 :: a1 :: a2 :: a3 :: a4 :: a5 :: a6 :: a7 :: a8 :: a9 :: a10 :: a11 :: a12 :: some (.ref x) :: ls) st h Q) : PW M d n pc (a0 :: a1 :: a2 :: a3 :: a4 :: a5 :: a6 :: a7 :: a8 :: a9 :: a10 :: a11 :: a12 :: z :: ls) (.ref x :: st) h Q :=
  pw_astore (k := 13) hd (fun j hj w hw => by cases hj; rw [show (a0 :: a1 :: a2 :: a3 :: a4 :: a5 :: a6 :: a7 :: a8 :: a9 :: a10 :: a11 :: a12 :: z :: ls)[12]? = some a12 from rfl] at hw; cases hw; exact hp) hn rfl kk
theorem pw_lst0 {z z2 : Option Value} {x : Int64} (hd : decode (mC M) pc = .ok (.lstore_n 0, 1)) (hn : 0 + 1 < mL M) (kk : PW M d n (pc + 1) (some (.long x) :: none :: ls) st h Q) : PW M d n pc (z :: z2 :: ls) (.long x :: st) h Q :=
  pw_lstore_n (k := 0) hd (fun j hj => absurd hj (by omega)) hn rfl kk
theorem pw_lst1 {a0 z z2 : Option Value} {x : Int64} (hd : decode (mC M) pc = .ok (.lstore_n 1, 1)) (hp : nlong a0 = true) (hn : 1 + 1 < mL M) (kk : PW M d n (pc + 1) (a0 :: some (.long x) :: none :: ls) st h Q) : PW M d n pc (a0 :: z :: z2 :: ls) (.long x :: st) h Q :=
  pw_lstore_n (k := 1) hd (fun j hj w hw => by cases hj; rw [show (a0 :: z :: z2 :: ls)[0]? = some a0 from rfl] at hw; cases hw; exact hp) hn rfl kk
theorem pw_lst2 {a0 a1 z z2 : Option Value} {x : Int64} (hd : decode (mC M) pc = .ok (.lstore_n 2, 1)) (hp : nlong a1 = true) (hn : 2 + 1 < mL M) (kk : PW M d n (pc + 1) (a0 :: a1 :: some (.long x) :: none :: ls) st h Q) : PW M d n pc (a0 :: a1 :: z :: z2 :: ls) (.long x :: st) h Q :=
  pw_lstore_n (k := 2) hd (fun j hj w hw => by cases hj; rw [show (a0 :: a1 :: z :: z2 :: ls)[1]? = some a1 from rfl] at hw; cases hw; exact hp) hn rfl kk
theorem pw_lst3 {a0 a1 a2 z z2 : Option Value} {x : Int64} (hd : decode (mC M) pc = .ok (.lstore_n 3, 1)) (hp : nlong a2 = true) (hn : 3 + 1 < mL M) (kk : PW M d n (pc + 1) (a0 :: a1 :: a2 :: some (.long x) :: none :: ls) st h Q) : PW M d n pc (a0 :: a1 :: a2 :: z :: z2 :: ls) (.long x :: st) h Q :=
  pw_lstore_n (k := 3) hd (fun j hj w hw => by cases hj; rw [show (a0 :: a1 :: a2 :: z :: z2 :: ls)[2]? = some a2 from rfl] at hw; cases hw; exact hp) hn rfl kk
theorem pw_lst4 {a0 a1 a2 a3 z z2 : Option Value} {x : Int64} (hd : decode (mC M) pc = .ok (.lstore 4, 2)) (hp : nlong a3 = true) (hn : 4 + 1 < mL M) (kk : PW M d n (pc + 2) (a0 :: a1 :: a2 :: a3 :: some (.long x) :: none :: ls) st h Q) : PW M d n pc (a0 :: a1 :: a2 :: a3 :: z :: z2 :: ls) (.long x :: st) h Q :=
  pw_lstore (k := 4) hd (fun j hj w hw => by cases hj; rw [show (a0 :: a1 :: a2 :: a3 :: z :: z2 :: ls)[3]? = some a3 from rfl] at hw; cases hw; exact hp) hn rfl kk
theorem pw_lst5 {a0 a1 a2 a3 a4 z z2 : Option Value} {x : Int64} (hd : decode (mC M) pc = .ok (.lstore 5, 2)) (hp : nlong a4 = true) (hn : 5 + 1 < mL M) (kk : PW M d n (pc + 2) (a0 :: a1 :: a2 :: a3 :: a4 :: some (.long x) :: none :: ls) st h Q) : PW M d n pc (a0 :: a1 :: a2 :: a3 :: a4 :: z :: z2 :: ls) (.long x :: st) h Q :=
  pw_lstore (k := 5) hd (fun j hj w hw => by cases hj; rw [show (a0 :: a1 :: a2 :: a3 :: a4 :: z :: z2 :: ls)[4]? = some a4 from rfl] at hw; cases hw; exact hp) hn rfl kk
theorem pw_lst6 {a0 a1 a2 a3 a4 a5 z z2 : Option Value} {x : Int64} (hd : decode (mC M) pc = .ok (.lstore 6, 2)) (hp : nlong a5 = true) (hn : 6 + 1 < mL M) (kk : PW M d n (pc + 2) (a0 :: a1 :: a2 :: a3 :: a4 :: a5 :: some (.long x) :: none :: ls) st h Q) : PW M d n pc (a0 :: a1 :: a2 :: a3 :: a4 :: a5 :: z :: z2 :: ls) (.long x :: st) h Q :=
  pw_lstore (k := 6) hd (fun j hj w hw => by cases hj; rw [show (a0 :: a1 :: a2 :: a3 :: a4 :: a5 :: z :: z2 :: ls)[5]? = some a5 from rfl] at hw; cases hw; exact hp) hn rfl kk
theorem pw_lst7 {a0 a1 a2 a3 a4 a5 a6 z z2 : Option Value} {x : Int64} (hd : decode (mC M) pc = .ok (.lstore 7, 2)) (hp : nlong a6 = true) (hn : 7 + 1 < mL M) (kk : PW M d n (pc + 2) (a0 :: a1 :: a2 :: a3 :: a4 :: a5 :: a6 :: some (.long x) :: none :: ls) st h Q) : PW M d n pc (a0 :: a1 :: a2 :: a3 :: a4 :: a5 :: a6 :: z :: z2 :: ls) (.long x :: st) h Q :=
  pw_lstore (k := 7) hd (fun j hj w hw => by cases hj; rw [show (a0 :: a1 :: a2 :: a3 :: a4 :: a5 :: a6 :: z :: z2 :: ls)[6]? = some a6 from rfl] at hw; cases hw; exact hp) hn rfl kk
theorem pw_inc0 {z : Int} {x v : Int32} (hd : decode (mC M) pc = .ok (.iinc 0 z, 3)) (hn : 0 < mL M) (hv : x + Int32.ofInt z = v) (kk : PW M d n (pc + 3) (some (.int v) :: ls) st h Q) : PW M d n pc (some (.int x) :: ls) st h Q :=
  pw_iinc (i := 0) hd rfl (fun j hj => absurd hj (by omega)) hn hv rfl kk
theorem pw_inc1 {a0 : Option Value} {z : Int} {x v : Int32} (hd : decode (mC M) pc = .ok (.iinc 1 z, 3)) (hp : nlong a0 = true) (hn : 1 < mL M) (hv : x + Int32.ofInt z = v) (kk : PW M d n (pc + 3) (a0 :: some (.int v) :: ls) st h Q) : PW M d n pc (a0 :: some (.int x) :: ls) st h Q :=
  pw_iinc (i := 1) hd rfl (fun j hj w hw => by cases hj; rw [show (a0 :: some (.int x) :: ls)[0]? = some a0 from rfl] at hw; cases hw; exact hp) hn hv rfl kk
theorem pw_inc2 {a0 a1 : Option Value} {z : Int} {x v : Int32} (hd : decode (mC M) pc = .ok (.iinc 2 z, 3)) (hp : nlong a1 = true) (hn : 2 < mL M) (hv : x + Int32.ofInt z = v) (kk : PW M d n (pc + 3) (a0 :: a1 :: some (.int v) :: ls) st h Q) : PW M d n pc (a0 :: a1 :: some (.int x) :: ls) st h Q :=
  pw_iinc (i := 2) hd rfl (fun j hj w hw => by cases hj; rw [show (a0 :: a1 :: some (.int x) :: ls)[1]? = some a1 from rfl] at hw; cases hw; exact hp) hn hv rfl kk
theorem pw_inc3 {a0 a1 a2 : Option Value} {z : Int} {x v : Int32} (hd : decode (mC M) pc = .ok (.iinc 3 z, 3)) (hp : nlong a2 = true) (hn : 3 < mL M) (hv : x + Int32.ofInt z = v) (kk : PW M d n (pc + 3) (a0 :: a1 :: a2 :: some (.int v) :: ls) st h Q) : PW M d n pc (a0 :: a1 :: a2 :: some (.int x) :: ls) st h Q :=
  pw_iinc (i := 3) hd rfl (fun j hj w hw => by cases hj; rw [show (a0 :: a1 :: a2 :: some (.int x) :: ls)[2]? = some a2 from rfl] at hw; cases hw; exact hp) hn hv rfl kk
theorem pw_inc4 {a0 a1 a2 a3 : Option Value} {z : Int} {x v : Int32} (hd : decode (mC M) pc = .ok (.iinc 4 z, 3)) (hp : nlong a3 = true) (hn : 4 < mL M) (hv : x + Int32.ofInt z = v) (kk : PW M d n (pc + 3) (a0 :: a1 :: a2 :: a3 :: some (.int v) :: ls) st h Q) : PW M d n pc (a0 :: a1 :: a2 :: a3 :: some (.int x) :: ls) st h Q :=
  pw_iinc (i := 4) hd rfl (fun j hj w hw => by cases hj; rw [show (a0 :: a1 :: a2 :: a3 :: some (.int x) :: ls)[3]? = some a3 from rfl] at hw; cases hw; exact hp) hn hv rfl kk
theorem pw_inc5 {a0 a1 a2 a3 a4 : Option Value} {z : Int} {x v : Int32} (hd : decode (mC M) pc = .ok (.iinc 5 z, 3)) (hp : nlong a4 = true) (hn : 5 < mL M) (hv : x + Int32.ofInt z = v) (kk : PW M d n (pc + 3) (a0 :: a1 :: a2 :: a3 :: a4 :: some (.int v) :: ls) st h Q) : PW M d n pc (a0 :: a1 :: a2 :: a3 :: a4 :: some (.int x) :: ls) st h Q :=
  pw_iinc (i := 5) hd rfl (fun j hj w hw => by cases hj; rw [show (a0 :: a1 :: a2 :: a3 :: a4 :: some (.int x) :: ls)[4]? = some a4 from rfl] at hw; cases hw; exact hp) hn hv rfl kk
theorem pw_inc6 {a0 a1 a2 a3 a4 a5 : Option Value} {z : Int} {x v : Int32} (hd : decode (mC M) pc = .ok (.iinc 6 z, 3)) (hp : nlong a5 = true) (hn : 6 < mL M) (hv : x + Int32.ofInt z = v) (kk : PW M d n (pc + 3) (a0 :: a1 :: a2 :: a3 :: a4 :: a5 :: some (.int v) :: ls) st h Q) : PW M d n pc (a0 :: a1 :: a2 :: a3 :: a4 :: a5 :: some (.int x) :: ls) st h Q :=
  pw_iinc (i := 6) hd rfl (fun j hj w hw => by cases hj; rw [show (a0 :: a1 :: a2 :: a3 :: a4 :: a5 :: some (.int x) :: ls)[5]? = some a5 from rfl] at hw; cases hw; exact hp) hn hv rfl kk
theorem pw_inc7 {a0 a1 a2 a3 a4 a5 a6 : Option Value} {z : Int} {x v : Int32} (hd : decode (mC M) pc = .ok (.iinc 7 z, 3)) (hp : nlong a6 = true) (hn : 7 < mL M) (hv : x + Int32.ofInt z = v) (kk : PW M d n (pc + 3) (a0 :: a1 :: a2 :: a3 :: a4 :: a5 :: a6 :: some (.int v) :: ls) st h Q) : PW M d n pc (a0 :: a1 :: a2 :: a3 :: a4 :: a5 :: a6 :: some (.int x) :: ls) st h Q :=
  pw_iinc (i := 7) hd rfl (fun j hj w hw => by cases hj; rw [show (a0 :: a1 :: a2 :: a3 :: a4 :: a5 :: a6 :: some (.int x) :: ls)[6]? = some a6 from rfl] at hw; cases hw; exact hp) hn hv rfl kk
theorem pw_inc8 {a0 a1 a2 a3 a4 a5 a6 a7 : Option Value} {z : Int} {x v : Int32} (hd : decode (mC M) pc = .ok (.iinc 8 z, 3)) (hp : nlong a7 = true) (hn : 8 < mL M) (hv : x + Int32.ofInt z = v) (kk : PW M d n (pc + 3) (a0 :: a1 :: a2 :: a3 :: a4 :: a5 :: a6 :: a7 :: some (.int v) :: ls) st h Q) : PW M d n pc (a0 :: a1 :: a2 :: a3 :: a4 :: a5 :: a6 :: a7 :: some (.int x) :: ls) st h Q :=
  pw_iinc (i := 8) hd rfl (fun j hj w hw => by cases hj; rw [show (a0 :: a1 :: a2 :: a3 :: a4 :: a5 :: a6 :: a7 :: some (.int x) :: ls)[7]? = some a7 from rfl] at hw; cases hw; exact hp) hn hv rfl kk
theorem pw_inc9 {a0 a1 a2 a3 a4 a5 a6 a7 a8 : Option Value} {z : Int} {x v : Int32} (hd : decode (mC M) pc = .ok (.iinc 9 z, 3)) (hp : nlong a8 = true) (hn : 9 < mL M) (hv : x + Int32.ofInt z = v) (kk : PW M d n (pc + 3) (a0 :: a1 :: a2 :: a3 :: a4 :: a5 :: a6 :: a7 :: a8 :: some (.int v) :: ls) st h Q) : PW M d n pc (a0 :: a1 :: a2 :: a3 :: a4 :: a5 :: a6 :: a7 :: a8 :: some (.int x) :: ls) st h Q :=
  pw_iinc (i := 9) hd rfl (fun j hj w hw => by cases hj; rw [show (a0 :: a1 :: a2 :: a3 :: a4 :: a5 :: a6 :: a7 :: a8 :: some (.int x) :: ls)[8]? = some a8 from rfl] at hw; cases hw; exact hp) hn hv rfl kk
theorem pw_inc10 {a0 a1 a2 a3 a4 a5 a6 a7 a8 a9 : Option Value} {z : Int} {x v : Int32} (hd : decode (mC M) pc = .ok (.iinc 10 z, 3)) (hp : nlong a9 = true) (hn : 10 < mL M) (hv : x + Int32.ofInt z = v) (kk : PW M d n (pc + 3) (a0 :: a1 :: a2 :: a3 :: a4 :: a5 :: a6 :: a7 :: a8 :: a9 :: some (.int v) :: ls) st h Q) : PW M d n pc (a0 :: a1 :: a2 :: a3 :: a4 :: a5 :: a6 :: a7 :: a8 :: a9 :: some (.int x) :: ls) st h Q :=
  pw_iinc (i := 10) hd rfl (fun j hj w hw => by cases hj; rw [show (a0 :: a1 :: a2 :: a3 :: a4 :: a5 :: a6 :: a7 :: a8 :: a9 :: some (.int x) :: ls)[9]? = some a9 from rfl] at hw; cases hw; exact hp) hn hv rfl kk
theorem pw_inc11 {a0 a1 a2 a3 a4 a5 a6 a7 a8 a9 a10 : Option Value} {z : Int} {x v : Int32} (hd : decode (mC M) pc = .ok (.iinc 11 z, 3)) (hp : nlong a10 = true) (hn : 11 < mL M) (hv : x + Int32.ofInt z = v) (kk : PW M d n (pc + 3) (a0 :: a1 :: a2 :: a3 :: a4 :: a5 :: a6 :: a7 :: a8 :: a9 :: a10 :: some (.int v) :: ls) st h Q) : PW M d n pc (a0 :: a1 :: a2 :: a3 :: a4 :: a5 :: a6 :: a7 :: a8 :: a9 :: a10 :: some (.int x) :: ls) st h Q :=
  pw_iinc (i := 11) hd rfl (fun j hj w hw => by cases hj; rw [show (a0 :: a1 :: a2 :: a3 :: a4 :: a5 :: a6 :: a7 :: a8 :: a9 :: a10 :: some (.int x) :: ls)[10]? = some a10 from rfl] at hw; cases hw; exact hp) hn hv rfl kk
theorem pw_inc12 {a0 a1 a2 a3 a4 a5 a6 a7 a8 a9 a10 a11 : Option Value} {z : Int} {x v : Int32} (hd : decode (mC M) pc = .ok (.iinc 12 z, 3)) (hp : nlong a11 = true) (hn : 12 < mL M) (hv : x + Int32.ofInt z = v) (kk : PW M d n (pc + 3) (a0 :: a1 :: a2 :: a3 :: a4 :: a5 :: a6 :: a7 :: a8 :: a9 :: a10 :: a11 :: some (.int v) :: ls) st h Q) : PW M d n pc (a0 :: a1 :: a2 :: a3 :: a4 :: a5 :: a6 :: a7 :: a8 :: a9 :: a10 :: a11 :: some (.int x) :: ls) st h Q :=
  pw_iinc (i := 12) hd rfl (fun j hj w hw => by cases hj; rw [show (a0 :: a1 :: a2 :: a3 :: a4 :: a5 :: a6 :: a7 :: a8 :: a9 :: a10 :: a11 :: some (.int x) :: ls)[11]? = some a11 from rfl] at hw; cases hw; exact hp) hn hv rfl kk
theorem pw_inc13 {a0 a1 a2 a3 a4 a5 a6 a7 a8 a9 a10 a11 a12 : Option Value} {z : Int} {x v : Int32} (hd : decode (mC M) pc = .ok (.iinc 13 z, 3)) (hp : nlong a12 = true) (hn : 13 < mL M) (hv : x + Int32.ofInt z = v) (kk : PW M d n (pc + 3) (a0 :: a1 :: a2 :: a3 :: a4 :: a5 :: a6 :: a7 :: a8 :: a9 :: a10 :: a11 :: a12 :: some (.int v) :: ls) st h Q) : PW M d n pc (a0 :: a1 :: a2 :: a3 :: a4 :: a5 :: a6 :: a7 :: a8 :: a9 :: a10 :: a11 :: a12 :: some (.int x) :: ls) st h Q :=
  pw_iinc (i := 13) hd rfl (fun j hj w hw => by cases hj; rw [show (a0 :: a1 :: a2 :: a3 :: a4 :: a5 :: a6 :: a7 :: a8 :: a9 :: a10 :: a11 :: a12 :: some (.int x) :: ls)[12]? = some a12 from rfl] at hw; cases hw; exact hp) hn hv rfl kk
theorem pw_cS {M1 : Mth} {idx d1 n1 k : Nat} {h1 : Hp} {v : Value} {As rest : List Value} (ct : CT M1 d1 n1 (As) h (Det (.inl (some v)) h1)) (ok : MOK M1 k) (hd : decode (mC M) pc = .ok (.invokestatic idx, 3)) (hlk : Cond.methodLink (mY M).cls idx (mY M1) ∈ UU) (hst : Cond.static (mY M1) ∈ UU) (hk : As.length = k) (e : st = As.reverse ++ rest) (hd1 : d1 + 1 ≤ d) (hn : n1 ≤ n) (hr : (rest.map fun v => v.category).sum ≤ 8) (kk : PW M d (n - n1) (pc + 3) ls (v :: rest) h1 Q) : PW M d n pc ls st h Q :=
  pw_callS ct ok hd hlk hst hk e hd1 hn hr (fun r h2 q => by obtain ⟨q1, rfl⟩ := q; cases q1; exact kk) (fun E h2 q => by cases q.1)
theorem pw_cS0 {M1 : Mth} {idx d1 n1 k : Nat} {h1 : Hp} {As rest : List Value} (ct : CT M1 d1 n1 (As) h (Det (.inl none) h1)) (ok : MOK M1 k) (hd : decode (mC M) pc = .ok (.invokestatic idx, 3)) (hlk : Cond.methodLink (mY M).cls idx (mY M1) ∈ UU) (hst : Cond.static (mY M1) ∈ UU) (hk : As.length = k) (e : st = As.reverse ++ rest) (hd1 : d1 + 1 ≤ d) (hn : n1 ≤ n) (hr : (rest.map fun v => v.category).sum ≤ 8) (kk : PW M d (n - n1) (pc + 3) ls rest h1 Q) : PW M d n pc ls st h Q :=
  pw_callS ct ok hd hlk hst hk e hd1 hn hr (fun r h2 q => by obtain ⟨q1, rfl⟩ := q; cases q1; exact kk) (fun E h2 q => by cases q.1)
theorem pw_cSX {M1 : Mth} {idx d1 n1 k : Nat} {h1 : Hp} {E : String} {As rest : List Value} (ct : CT M1 d1 n1 (As) h (Det (.inr E) h1)) (ok : MOK M1 k) (hd : decode (mC M) pc = .ok (.invokestatic idx, 3)) (hlk : Cond.methodLink (mY M).cls idx (mY M1) ∈ UU) (hst : Cond.static (mY M1) ∈ UU) (hk : As.length = k) (e : st = As.reverse ++ rest) (hd1 : d1 + 1 ≤ d) (hn : n1 ≤ n) (hr : (rest.map fun v => v.category).sum ≤ 8) (kk : PT M d (n - n1) pc ls rest h1 Q E) : PW M d n pc ls st h Q :=
  pw_callS ct ok hd hlk hst hk e hd1 hn hr (fun r h2 q => by cases q.1) (fun E h2 q => by obtain ⟨q1, rfl⟩ := q; cases q1; exact kk)
theorem pw_cN {M1 : Mth} {idx d1 n1 k : Nat} {h1 : Hp} {v : Value} {host : String} {As rest : List Value} (ct : CT M1 d1 n1 (As) h (Det (.inl (some v)) h1)) (m0 : mK M1 = 0) (ok : MOK M1 k) (hd : decode (mC M) pc = .ok (.invokestatic idx, 3)) (hlk : Cond.methodLinkNest (mY M).cls idx (mY M1) host ∈ UN) (hst : Cond.static (mY M1) ∈ UU) (hk : As.length = k) (e : st = As.reverse ++ rest) (hd1 : d1 + 1 ≤ d) (hn : n1 ≤ n) (hr : (rest.map fun v => v.category).sum ≤ 8) (kk : PW M d (n - n1) (pc + 3) ls (v :: rest) h1 Q) : PW M d n pc ls st h Q :=
  pw_callSN ct m0 ok hd hlk hst hk e hd1 hn hr (fun r h2 q => by obtain ⟨q1, rfl⟩ := q; cases q1; exact kk)
theorem pw_cN0 {M1 : Mth} {idx d1 n1 k : Nat} {h1 : Hp} {host : String} {As rest : List Value} (ct : CT M1 d1 n1 (As) h (Det (.inl none) h1)) (m0 : mK M1 = 0) (ok : MOK M1 k) (hd : decode (mC M) pc = .ok (.invokestatic idx, 3)) (hlk : Cond.methodLinkNest (mY M).cls idx (mY M1) host ∈ UN) (hst : Cond.static (mY M1) ∈ UU) (hk : As.length = k) (e : st = As.reverse ++ rest) (hd1 : d1 + 1 ≤ d) (hn : n1 ≤ n) (hr : (rest.map fun v => v.category).sum ≤ 8) (kk : PW M d (n - n1) (pc + 3) ls rest h1 Q) : PW M d n pc ls st h Q :=
  pw_callSN ct m0 ok hd hlk hst hk e hd1 hn hr (fun r h2 q => by obtain ⟨q1, rfl⟩ := q; cases q1; exact kk)
theorem pw_cV {M1 : Mth} {idx d1 n1 k : Nat} {h1 : Hp} {v : Value} {b ci N1 : Nat} {T : u_T} {fs : Nat → Value} {As rest : List Value} (ct : CT M1 d1 n1 (.ref b :: As) h (Det (.inl (some v)) h1)) (ok : MOK M1 k) (hd : decode (mC M) pc = .ok (.invokevirtual idx, 3)) (hlk : Cond.methodLink (mY M).cls idx (mY M1) ∈ UU) (hin : Cond.instanceMethod (mY M1) ∈ UU) (hse : Cond.selects (mY M1).cls (mY M1) (mY M1) ∈ UU) (hb : h.2 b = some (.inr (ci, fs))) (hcl : vwCl[ci]? = some ((mY M1).cls, T, N1)) (hk : As.length = k) (e : st = As.reverse ++ .ref b :: rest) (hd1 : d1 + 1 ≤ d) (hn : n1 ≤ n) (hr : (rest.map fun v => v.category).sum ≤ 8) (kk : PW M d (n - n1) (pc + 3) ls (v :: rest) h1 Q) : PW M d n pc ls st h Q :=
  pw_callV ct ok hd hlk hin hse hb hcl hk e hd1 hn hr (fun r h2 q => by obtain ⟨q1, rfl⟩ := q; cases q1; exact kk) (fun E h2 q => by cases q.1)
theorem pw_cV0 {M1 : Mth} {idx d1 n1 k : Nat} {h1 : Hp} {b ci N1 : Nat} {T : u_T} {fs : Nat → Value} {As rest : List Value} (ct : CT M1 d1 n1 (.ref b :: As) h (Det (.inl none) h1)) (ok : MOK M1 k) (hd : decode (mC M) pc = .ok (.invokevirtual idx, 3)) (hlk : Cond.methodLink (mY M).cls idx (mY M1) ∈ UU) (hin : Cond.instanceMethod (mY M1) ∈ UU) (hse : Cond.selects (mY M1).cls (mY M1) (mY M1) ∈ UU) (hb : h.2 b = some (.inr (ci, fs))) (hcl : vwCl[ci]? = some ((mY M1).cls, T, N1)) (hk : As.length = k) (e : st = As.reverse ++ .ref b :: rest) (hd1 : d1 + 1 ≤ d) (hn : n1 ≤ n) (hr : (rest.map fun v => v.category).sum ≤ 8) (kk : PW M d (n - n1) (pc + 3) ls rest h1 Q) : PW M d n pc ls st h Q :=
  pw_callV ct ok hd hlk hin hse hb hcl hk e hd1 hn hr (fun r h2 q => by obtain ⟨q1, rfl⟩ := q; cases q1; exact kk) (fun E h2 q => by cases q.1)
theorem pw_cVX {M1 : Mth} {idx d1 n1 k : Nat} {h1 : Hp} {E : String} {b ci N1 : Nat} {T : u_T} {fs : Nat → Value} {As rest : List Value} (ct : CT M1 d1 n1 (.ref b :: As) h (Det (.inr E) h1)) (ok : MOK M1 k) (hd : decode (mC M) pc = .ok (.invokevirtual idx, 3)) (hlk : Cond.methodLink (mY M).cls idx (mY M1) ∈ UU) (hin : Cond.instanceMethod (mY M1) ∈ UU) (hse : Cond.selects (mY M1).cls (mY M1) (mY M1) ∈ UU) (hb : h.2 b = some (.inr (ci, fs))) (hcl : vwCl[ci]? = some ((mY M1).cls, T, N1)) (hk : As.length = k) (e : st = As.reverse ++ .ref b :: rest) (hd1 : d1 + 1 ≤ d) (hn : n1 ≤ n) (hr : (rest.map fun v => v.category).sum ≤ 8) (kk : PT M d (n - n1) pc ls rest h1 Q E) : PW M d n pc ls st h Q :=
  pw_callV ct ok hd hlk hin hse hb hcl hk e hd1 hn hr (fun r h2 q => by cases q.1) (fun E h2 q => by obtain ⟨q1, rfl⟩ := q; cases q1; exact kk)
theorem pw_cI0 {M1 : Mth} {idx d1 n1 k : Nat} {h1 : Hp} {b : Nat} {As rest : List Value} (ct : CT M1 d1 n1 (.ref b :: As) h (Det (.inl none) h1)) (m0 : mK M1 = 0) (ok : MOK M1 k) (hm : (mY M1).name = "<init>") (hret : mR M1 = none) (hd : decode (mC M) pc = .ok (.invokespecial idx, 3)) (hlk : Cond.methodLink (mY M).cls idx (mY M1) ∈ UU) (hin : Cond.instanceMethod (mY M1) ∈ UU) (hk : As.length = k) (e : st = As.reverse ++ .ref b :: rest) (hd1 : d1 + 1 ≤ d) (hn : n1 ≤ n) (hr : (rest.map fun v => v.category).sum ≤ 8) (kk : PW M d (n - n1) (pc + 3) ls rest h1 Q) : PW M d n pc ls st h Q :=
  pw_callI ct m0 ok hm hret hd hlk hin hk e hd1 hn hr (fun r h2 q => by obtain ⟨q1, rfl⟩ := q; cases q1; exact kk)
theorem pw_cIN0 {M1 : Mth} {idx d1 n1 k : Nat} {h1 : Hp} {b : Nat} {host : String} {As rest : List Value} (ct : CT M1 d1 n1 (.ref b :: As) h (Det (.inl none) h1)) (m0 : mK M1 = 0) (ok : MOK M1 k) (hm : (mY M1).name = "<init>") (hret : mR M1 = none) (hd : decode (mC M) pc = .ok (.invokespecial idx, 3)) (hlk : Cond.methodLinkNest (mY M).cls idx (mY M1) host ∈ UN) (hin : Cond.instanceMethod (mY M1) ∈ UU) (hk : As.length = k) (e : st = As.reverse ++ .ref b :: rest) (hd1 : d1 + 1 ≤ d) (hn : n1 ≤ n) (hr : (rest.map fun v => v.category).sum ≤ 8) (kk : PW M d (n - n1) (pc + 3) ls rest h1 Q) : PW M d n pc ls st h Q :=
  pw_callIN ct m0 ok hm hret hd hlk hin hk e hd1 hn hr (fun r h2 q => by obtain ⟨q1, rfl⟩ := q; cases q1; exact kk)
theorem pw_ldc2 {idx : Nat} {v : Int64} (hd : decode (mC M) pc = .ok (.ldc2_w idx, 3)) (hlk : Cond.constantLong (mY M).cls idx v ∈ UU) (kk : PW M d n (pc + 3) ls (.long v :: st) h Q) : PW M d n pc ls st h Q := by
  intro p l e_ R s m args below meth c G N H locs cells slots lsA C9 hc hs hR hS hw
  exact lv_ldc2 C9.1.1 C9.1.2.1 C9.1.2.2.2.2.1 (C9.2.1 _ hlk) hd (kk p l e_ R s m args below meth c G N H locs cells slots lsA C9 hc hs hR hS hw)
end PWS
theorem lit_nI (k : Nat) : (OfNat.ofNat k : Int32) = nI k := rfl
def cpN (k : Nat) (f g : Nat → Int32) : Nat → Int32 := fun j => if j < k then f j else g j
theorem cpN_0 (f g : Nat → Int32) : cpN 0 f g = g := by funext j; unfold cpN; rw [if_neg (by omega)]
theorem cpN_s (k : Nat) (f g : Nat → Int32) : upd (cpN k f g) k (f k) = cpN (k + 1) f g := by
  funext j
  unfold cpN upd
  by_cases e : j = k
  · subst e; rw [if_pos rfl, if_pos (by omega)]
  · rw [if_neg e]
    dsimp only
    by_cases e2 : j < k
    · rw [if_pos e2, if_pos (by omega)]
    · rw [if_neg e2, if_neg (by omega)]
/-- k numbers of f laid into g from a on -/
def puN (a k : Nat) (f g : Nat → Int32) : Nat → Int32 := fun j => if a ≤ j ∧ j < a + k then f (j - a) else g j
theorem puN_0 (a : Nat) (f g : Nat → Int32) : puN a 0 f g = g := by funext j; unfold puN; rw [if_neg (by omega)]
theorem puN_s (a k : Nat) (f g : Nat → Int32) : upd (puN a k f g) (a + k) (f k) = puN a (k + 1) f g := by
  funext j
  unfold puN upd
  by_cases e : j = a + k
  · subst e; rw [if_pos rfl, if_pos (by omega), show a + k - a = k by omega]
  · rw [if_neg e]
    dsimp only
    by_cases e2 : a ≤ j ∧ j < a + k
    · rw [if_pos e2, if_pos (by omega)]
    · rw [if_neg e2, if_neg (by omega)]
end
section
def inR (v lo hi : Int32) : Bool := decide (¬ v < lo) && decide (¬ hi < v)
def smN (f : Nat → Int32) : Nat → Int32
  | 0 => 0
  | k + 1 => smN f k + f k
theorem upd_at (f : Nat → Int32) (k : Nat) (x : Int32) : upd f k x k = x := if_pos rfl
theorem upd_nt (f : Nat → Int32) {k j : Nat} (x : Int32) (h : j ≠ k) : upd f k x j = f j := if_neg h
def rN (s : Nat → Int32) (i k : Nat) : Int32 := s (26 + 9 * i + k)
def mkM (p : Nat → Bool) : Nat → Int32
  | 0 => 0
  | k + 1 => mkM p k ||| (if p k = true then 1 <<< (nI k &&& 31) else 0)
def seeN (s : Nat → Int32) (ev : Int32) (r : Nat) (v : Int32) (i : Nat) : Int32 := if ev = 1 then v else s (6 + 3 * r + (rN s i 1).toNatClampNeg)
def mtB (s : Nat → Int32) (ev : Int32) (r : Nat) (col v : Int32) (i : Nat) : Bool :=
  decide (rN s i 7 = 0) && (decide (rN s i 0 = ev) && ((decide (¬ ev = 1) || decide (rN s i 1 = col)) && decide (¬ seeN s ev r v i < rN s i 2)))
def mtC (s : Nat → Int32) (ev : Int32) (r : Nat) (col v : Int32) (isR : Bool) (i : Nat) : Bool := mtB s ev r col v i && (decide (rN s i 3 = 1) == isR)
/-- what the model's numbers keep between calls -/
def VS (u : Nat) (s : Nat → Int32) : Prop := u ≤ 8 ∧ s 25 = nI u ∧ (∃ dp, dp ≤ 5 ∧ s 24 = nI dp) ∧ (∃ l, l ≤ 16 ∧ s 99 = nI l) ∧ (∀ j, j < 6 → s j = 0 ∨ s j = 1) ∧ ∀ i, i < u → (∃ c, c < 3 ∧ rN s i 1 = nI c) ∧ (∃ r, r < 6 ∧ rN s i 4 = nI r) ∧ (∃ c, c < 3 ∧ rN s i 5 = nI c) ∧ (rN s i 7 = 0 ∨ rN s i 7 = 1) ∧ (rN s i 3 = 0 ∨ rN s i 3 = 1 ∨ rN s i 3 = 2 ∨ rN s i 3 = 3)
/-- the same rules, acts aside -/
def SR (s t : Nat → Int32) : Prop := ∀ j, 24 ≤ j → j < 98 → (∀ i, j ≠ 26 + 9 * i + 8) → t j = s j
theorem SR.rf (s : Nat → Int32) : SR s s := fun _ _ _ _ => rfl
theorem SR.tr {s t w : Nat → Int32} (h : SR s t) (g : SR t w) : SR s w := fun j a b c => (g j a b c).trans (h j a b c)
theorem SR.ru {s t : Nat → Int32} (h : SR s t) {i k : Nat} (hi : i < 8) (hk : k < 8) : rN t i k = rN s i k := h _ (by omega) (by omega) (fun j => by omega)
theorem VS.of {u : Nat} {s t : Nat → Int32} (h : VS u s) (g : SR s t) (h5 : ∃ l, l ≤ 16 ∧ t 99 = nI l) (h6 : ∀ j, j < 6 → t j = 0 ∨ t j = 1) : VS u t := by
  obtain ⟨a, b, c, d, e, f⟩ := h
  refine ⟨a, by rw [g 25 (by omega) (by omega) (fun i => by omega)]; exact b, by rw [g 24 (by omega) (by omega) (fun i => by omega)]; exact c, h5, h6, fun i hi => ?_⟩
  rw [g.ru (k := 1) (by omega) (by omega), g.ru (k := 4) (by omega) (by omega), g.ru (k := 5) (by omega) (by omega), g.ru (k := 7) (by omega) (by omega), g.ru (k := 3) (by omega) (by omega)]
  exact f i hi
def lgL (s : Nat → Int32) : Nat := if s 99 = 16 then 15 else (s 99).toNatClampNeg
def shD (L k : Nat) (s : Nat → Int32) : Nat → Int32 := fun j => if (100 + k < j ∧ j ≤ 100 + L) ∨ (116 + k < j ∧ j ≤ 116 + L) then s (j - 1) else s j
def lgS (s : Nat → Int32) (i : Nat) (d : Int32) : Nat → Int32 :=
  upd (upd (upd (upd (shD (lgL s) 0 s) 100 (nI i)) 116 d) 99 (nI (lgL s + 1))) (26 + 9 * i + 8) (s (26 + 9 * i + 8) + 1)
theorem lgS_nt (s : Nat → Int32) (i : Nat) (d : Int32) {j : Nat} (h : j < 99) (hi : j ≠ 26 + 9 * i + 8) : lgS s i d j = s j := by
  unfold lgS; rw [upd_nt _ _ hi, upd_nt _ _ (by omega), upd_nt _ _ (by omega), upd_nt _ _ (by omega)]; unfold shD; rw [if_neg (by omega)]
theorem lgS_99 (s : Nat → Int32) {i : Nat} (d : Int32) (hi : i < 8) : lgS s i d 99 = nI (lgL s + 1) := by
  unfold lgS; rw [upd_nt _ _ (by omega), upd_at]
theorem lgS_SR (s : Nat → Int32) (i : Nat) (d : Int32) : SR s (lgS s i d) := fun j _ b c => lgS_nt s i d (by omega) (c i)
theorem lgL_le {u : Nat} {s : Nat → Int32} (h : VS u s) : lgL s ≤ 15 := by
  obtain ⟨_, _, _, ⟨l, hl, e⟩, _⟩ := h
  unfold lgL
  by_cases c : s 99 = 16
  · rw [if_pos c]; exact Nat.le_refl _
  · rw [if_neg c, e, nI_clamp (by omega)]
    have : l ≠ 16 := fun q => c (by rw [e, q]; rfl)
    omega
theorem lgS_VS {u : Nat} {s : Nat → Int32} (h : VS u s) {i : Nat} (d : Int32) (hi : i < u) : VS u (lgS s i d) :=
  h.of (lgS_SR s i d) ⟨_, Nat.succ_le_succ (lgL_le h), lgS_99 s d (by have := h.1; omega)⟩ (fun j hj => by rw [lgS_nt s i d (by omega) (by omega)]; exact h.2.2.2.2.1 j hj)
def alt (s : Nat → Int32) (ev : Int32) (r c : Nat) (v : Int32) : Nat → Int32 := if ev = 1 then upd s (6 + 3 * r + c) v else upd s r (if ev = 0 then 1 else 0)
theorem alt_nt (s : Nat → Int32) (ev : Int32) {r c : Nat} (v : Int32) {j : Nat} (hr : r < 6) (hc : c < 3) (h : 24 ≤ j) : alt s ev r c v j = s j := by
  unfold alt; by_cases e : ev = 1
  · rw [if_pos e]; exact upd_nt _ _ (by omega)
  · rw [if_neg e]; exact upd_nt _ _ (by omega)
theorem alt_VS {u : Nat} {s : Nat → Int32} (h : VS u s) (ev : Int32) {r c : Nat} (v : Int32) (hr : r < 6) (hc : c < 3) : VS u (alt s ev r c v) := by
  refine h.of (fun j a _ _ => alt_nt s ev v hr hc a) (by rw [alt_nt s ev v hr hc (by omega)]; exact h.2.2.2.1) (fun j hj => ?_)
  unfold alt; by_cases e : ev = 1
  · rw [if_pos e, upd_nt _ _ (by omega)]; exact h.2.2.2.2.1 j hj
  · rw [if_neg e]
    unfold upd
    by_cases q : j = r
    · rw [if_pos q]; by_cases z : ev = 0
      · rw [if_pos z]; exact .inr rfl
      · rw [if_neg z]; exact .inl rfl
    · rw [if_neg q]; exact h.2.2.2.2.1 j hj
def bgC (s : Nat → Int32) (u : Nat) (hp : Int32) (ev : Int32) (r c : Nat) (v its : Int32) : Int32 :=
  if ¬ its ≤ s 24 then 3 else if hp = 100 then 4 else if ¬ mkM (mtC s ev r (nI c) v true) u = 0 then 5 else 0
theorem bgC_cs (s : Nat → Int32) (u : Nat) (hp : Int32) (ev : Int32) (r c : Nat) (v its : Int32) : bgC s u hp ev r c v its = 3 ∨ bgC s u hp ev r c v its = 4 ∨ bgC s u hp ev r c v its = 5 ∨ (bgC s u hp ev r c v its = 0 ∧ its ≤ s 24) := by
  unfold bgC
  by_cases a : ¬ its ≤ s 24
  · rw [if_pos a]; exact .inl rfl
  · rw [if_neg a]; by_cases b : hp = 100
    · rw [if_pos b]; exact .inr (.inl rfl)
    · rw [if_neg b]; by_cases c : ¬ mkM (mtC s ev r (nI ‹Nat›) v true) u = 0
      · exact .inr (.inr (.inl (by first | exact if_pos c | (split <;> simp_all))))
      · exact .inr (.inr (by split <;> simp_all))
def mx (a b : Int32) : Int32 := if a ≤ b then b else a
def ro (s : Nat → Int32) (i : Nat) : Nat := (rN s i 4).toNatClampNeg
def co (s : Nat → Int32) (i : Nat) : Nat := (rN s i 5).toNatClampNeg
theorem ro_e {u : Nat} {s : Nat → Int32} (h : VS u s) {i : Nat} (hi : i < u) : rN s i 4 = nI (ro s i) ∧ ro s i < 6 := by
  obtain ⟨r, h6, e⟩ := (h.2.2.2.2.2 i hi).2.1
  unfold ro; rw [e, nI_clamp (by omega)]; exact ⟨rfl, h6⟩
theorem co_e {u : Nat} {s : Nat → Int32} (h : VS u s) {i : Nat} (hi : i < u) : rN s i 5 = nI (co s i) ∧ co s i < 3 := by
  obtain ⟨r, h6, e⟩ := (h.2.2.2.2.2 i hi).2.2.1
  unfold co; rw [e, nI_clamp (by omega)]; exact ⟨rfl, h6⟩
theorem mkM_cg {p q : Nat → Bool} : ∀ (u : Nat), (∀ j, j < u → p j = q j) → mkM p u = mkM q u
  | 0, _ => rfl
  | u + 1, h => by
    show mkM p u ||| _ = mkM q u ||| _
    rw [mkM_cg u (fun j hj => h j (by omega)), h u (by omega)]
theorem mkM_up {q : Nat → Bool} (u : Nat) : ∀ (k : Nat), (∀ j, u ≤ j → q j = false) → mkM q (u + k) = mkM q u
  | 0, _ => rfl
  | k + 1, h => by
    show mkM q (u + k) ||| (if q (u + k) = true then _ else 0) = _
    rw [h (u + k) (by omega), if_neg (by decide), mkM_up u k h]
    exact Int32.or_zero
theorem mkM_8 (q : Nat → Bool) {u : Nat} (hu : u ≤ 8) : mkM q u = mkM (fun j => q j && decide (j < u)) 8 := by
  have e := mkM_up (q := fun j => q j && decide (j < u)) u (8 - u) (fun j hj => by rw [decide_eq_false (by omega), Bool.and_false])
  rw [show u + (8 - u) = 8 by omega] at e
  rw [e]
  exact mkM_cg u (fun j hj => by rw [decide_eq_true hj, Bool.and_true])
def b8 (a b c d e f g h : Bool) : Nat → Bool
  | 0 => a
  | 1 => b
  | 2 => c
  | 3 => d
  | 4 => e
  | 5 => f
  | 6 => g
  | 7 => h
  | _ => false
theorem mk_b8 (q : Nat → Bool) : mkM q 8 = mkM (b8 (q 0) (q 1) (q 2) (q 3) (q 4) (q 5) (q 6) (q 7)) 8 := rfl
theorem b8_and : ∀ (a b c d e f g h : Bool) (r : Fin 8), mkM (b8 a b c d e f g h) 8 &&& ((1 : Int32) <<< (nI r.val &&& 31)) = if b8 a b c d e f g h r.val = true then (1 : Int32) <<< (nI r.val &&& 31) else 0 := by decide +kernel
theorem b8_ne : ∀ (a b c d e f g h : Bool) (r : Fin 8), b8 a b c d e f g h r.val = true → ¬ mkM (b8 a b c d e f g h) 8 = 0 := by decide +kernel
theorem b8_at (q : Nat → Bool) {r : Nat} (hr : r < 8) : b8 (q 0) (q 1) (q 2) (q 3) (q 4) (q 5) (q 6) (q 7) r = q r := by
  match r, hr with
  | 0, _ => rfl
  | 1, _ => rfl
  | 2, _ => rfl
  | 3, _ => rfl
  | 4, _ => rfl
  | 5, _ => rfl
  | 6, _ => rfl
  | 7, _ => rfl
  | r + 8, h => exact absurd h (by omega)
theorem sh_ne : ∀ (r : Fin 8), ¬ (1 : Int32) <<< (nI r.val &&& 31) = 0 := by decide +kernel
theorem mk_and (q : Nat → Bool) {u r : Nat} (hu : u ≤ 8) (hr : r < u) : mkM q u &&& ((1 : Int32) <<< (nI r &&& 31)) = if q r = true then (1 : Int32) <<< (nI r &&& 31) else 0 := by
  rw [mkM_8 q hu, mk_b8]
  refine (b8_and _ _ _ _ _ _ _ _ ⟨r, by omega⟩).trans ?_
  rw [b8_at (fun j => q j && decide (j < u)) (by omega)]
  dsimp only
  rw [decide_eq_true hr, Bool.and_true]
theorem mk_and0 (q : Nat → Bool) {u r : Nat} (hu : u ≤ 8) (hr : r < u) : mkM q u &&& ((1 : Int32) <<< (nI r &&& 31)) = 0 ↔ q r = false := by
  rw [mk_and q hu hr]
  by_cases h : q r = true
  · rw [if_pos h]; exact ⟨fun e => absurd e (sh_ne ⟨r, by omega⟩), fun e => by rw [h] at e; cases e⟩
  · rw [if_neg h]; exact ⟨fun _ => by cases e : q r <;> first | rfl | exact absurd e h, fun _ => rfl⟩
theorem mk_ne (q : Nat → Bool) {u r : Nat} (hu : u ≤ 8) (hr : r < u) (h : q r = true) : ¬ mkM q u = 0 := by
  rw [mkM_8 q hu, mk_b8]
  refine b8_ne _ _ _ _ _ _ _ _ ⟨r, by omega⟩ ?_
  rw [b8_at (fun j => q j && decide (j < u)) (by omega)]
  dsimp only
  rw [decide_eq_true hr, Bool.and_true, h]
theorem mk_0 (q : Nat → Bool) : ∀ (u : Nat), (∀ j, j < u → q j = false) → mkM q u = 0
  | 0, _ => rfl
  | u + 1, h => by
    show mkM q u ||| (if q u = true then _ else 0) = 0
    rw [mk_0 q u (fun j hj => h j (by omega)), h u (by omega), if_neg (by decide)]
    exact Int32.or_zero
/-- a statement under way: the numbers, happened, deepest, refused -/
abbrev TT : Type := (Nat → Int32) × Int32 × Int32 × Int32
def bgT (u : Nat) (t : TT) (ev : Int32) (r c : Nat) (v : Int32) (its : Nat) : TT :=
  if bgC t.1 u t.2.1 ev r c v (nI its) = 0 then (alt t.1 ev r c v, t.2.1 + 1, mx (nI its) t.2.2.1, 0) else (t.1, t.2.1, t.2.2.1, bgC t.1 u t.2.1 ev r c v (nI its))
def lpT (F : Nat → TT → TT) (p : Nat → Bool) : Nat → Nat → TT → TT
  | 0, _, t => t
  | k + 1, i, t => lpT F p k (i + 1) (if p i = true ∧ t.2.2.2 = 0 then F i t else t)
def acT (H : TT → Int32 → Nat → Nat → Int32 → Nat → TT) (d i : Nat) (t : TT) : TT :=
  if rN t.1 i 3 = 0 ∨ lgS t.1 i (nI d) (ro t.1 i) = 0 then (lgS t.1 i (nI d), t.2)
  else if rN t.1 i 3 = 3 then H (lgS t.1 i (nI d), t.2) 2 (ro t.1 i) 0 0 (d + 1)
  else if inR (lgS t.1 i (nI d) (6 + 3 * ro t.1 i + co t.1 i) + rN t.1 i 6) 0 999 = false then (lgS t.1 i (nI d), t.2.1, t.2.2.1, 2)
  else if lgS t.1 i (nI d) (6 + 3 * ro t.1 i + co t.1 i) + rN t.1 i 6 = lgS t.1 i (nI d) (6 + 3 * ro t.1 i + co t.1 i) then (lgS t.1 i (nI d), t.2)
  else H (lgS t.1 i (nI d), t.2) 1 (ro t.1 i) (co t.1 i) (lgS t.1 i (nI d) (6 + 3 * ro t.1 i + co t.1 i) + rN t.1 i 6) (d + 1)
def hapT (u : Nat) : Nat → TT → Int32 → Nat → Nat → Int32 → Nat → TT
  | 0, t, ev, r, c, v, its => bgT u t ev r c v its
  | f + 1, t, ev, r, c, v, its => if bgC t.1 u t.2.1 ev r c v (nI its) = 0 then lpT (acT (hapT u f) its) (mtC t.1 ev r (nI c) v false) u 0 (bgT u t ev r c v its) else bgT u t ev r c v its
theorem lpT_stop (F : Nat → TT → TT) (p : Nat → Bool) : ∀ (k i : Nat) (t : TT), ¬ t.2.2.2 = 0 → lpT F p k i t = t
  | 0, _, _, _ => rfl
  | k + 1, i, t, h => by
    show lpT F p k (i + 1) (if _ then _ else _) = _
    rw [if_neg (fun q => h q.2), lpT_stop F p k (i + 1) t h]
theorem hapT_bad (u f : Nat) (t : TT) (ev : Int32) (r c : Nat) (v : Int32) (its : Nat) (h : ¬ bgC t.1 u t.2.1 ev r c v (nI its) = 0) : hapT u f t ev r c v its = bgT u t ev r c v its := by
  cases f with
  | zero => rfl
  | succ f => exact if_neg h
/-- what stays of T through a run -/
def KV (u : Nat) (s : Nat → Int32) (t : TT) : Prop := VS u t.1 ∧ SR s t.1
theorem bgT_KV {u : Nat} {s : Nat → Int32} {t : TT} (h : KV u s t) (ev : Int32) {r c : Nat} (v : Int32) (its : Nat) (hr : r < 6) (hc : c < 3) : KV u s (bgT u t ev r c v its) := by
  unfold bgT
  by_cases e : bgC t.1 u t.2.1 ev r c v (nI its) = 0
  · rw [if_pos e]; exact ⟨alt_VS h.1 ev v hr hc, h.2.tr (fun j a _ _ => alt_nt _ ev v hr hc a)⟩
  · rw [if_neg e]; exact h
theorem lpT_KV {u : Nat} {s : Nat → Int32} {F : Nat → TT → TT} (hF : ∀ i t, i < u → KV u s t → KV u s (F i t)) (p : Nat → Bool) : ∀ (k i : Nat) (t : TT), i + k = u → KV u s t → KV u s (lpT F p k i t)
  | 0, _, _, _, h => h
  | k + 1, i, t, e, h => by
    refine lpT_KV hF p k (i + 1) _ (by omega) ?_
    by_cases q : p i = true ∧ t.2.2.2 = 0
    · rw [if_pos q]; exact hF i t (by omega) h
    · rw [if_neg q]; exact h
theorem acT_KV {u : Nat} {s : Nat → Int32} {H : TT → Int32 → Nat → Nat → Int32 → Nat → TT} (hH : ∀ t ev r c v d, r < 6 → c < 3 → KV u s t → KV u s (H t ev r c v d)) (d : Nat) (i : Nat) (t : TT) (hi : i < u) (h : KV u s t) : KV u s (acT H d i t) := by
  obtain ⟨er, hr⟩ := ro_e h.1 hi
  obtain ⟨ec, hc⟩ := co_e h.1 hi
  have h1 : ∀ w, KV u s (lgS t.1 i (nI d), w) := fun w => ⟨lgS_VS h.1 _ hi, h.2.tr (lgS_SR _ _ _)⟩
  unfold acT
  split
  · exact h1 _
  · split
    · exact hH _ _ _ _ _ _ hr (by decide) (h1 _)
    · split
      · exact h1 _
      · split
        · exact h1 _
        · exact hH _ _ _ _ _ _ hr hc (h1 _)
theorem hapT_KV (u : Nat) (s : Nat → Int32) : ∀ (f : Nat) (t : TT) (ev : Int32) (r c : Nat) (v : Int32) (d : Nat), r < 6 → c < 3 → KV u s t → KV u s (hapT u f t ev r c v d)
  | 0, t, ev, r, c, v, d, hr, hc, h => bgT_KV h ev v d hr hc
  | f + 1, t, ev, r, c, v, d, hr, hc, h => by
    show KV u s (if _ then _ else _)
    split
    · exact lpT_KV (fun i t hi ht => acT_KV (fun t ev r c v d => hapT_KV u s f t ev r c v d) d i t hi ht) _ u 0 _ (by omega) (bgT_KV h ev v d hr hc)
    · exact bgT_KV h ev v d hr hc
def E132 (f g : Nat → Int32) : Prop := ∀ j, j < 132 → f j = g j
def fin (R : TT) (s : Nat → Int32) : Nat → Int32 := if R.2.2.2 = 0 then upd R.1 98 (R.1 98 + R.2.1) else s
theorem VS_val {u : Nat} {s : Nat → Int32} (h : VS u s) {k : Nat} (v : Int32) (h6 : 6 ≤ k) (hk : k < 24) : VS u (upd s k v) :=
  h.of (fun j a _ _ => upd_nt _ _ (by omega)) (by rw [upd_nt _ _ (by omega)]; exact h.2.2.2.1) (fun j hj => by rw [upd_nt _ _ (by omega)]; exact h.2.2.2.2.1 j hj)
def insR (u : Nat) (s : Nat → Int32) (r : Nat) (a b c : Int32) : TT := if s r = 1 then (s, 0, -1, 1) else hapT u 6 (upd (upd (upd s (6 + 3 * r + 0) a) (6 + 3 * r + 1) b) (6 + 3 * r + 2) c, 0, -1, 0) 0 r 0 0 0
def updR (u : Nat) (s : Nat → Int32) (r c : Nat) (v : Int32) : TT := if s r = 0 then (s, 0, -1, 1) else if s (6 + 3 * r + c) = v then (s, 0, -1, 0) else hapT u 6 (s, 0, -1, 0) 1 r c v 0
def remR (u : Nat) (s : Nat → Int32) (r : Nat) : TT := if s r = 1 then hapT u 6 (s, 0, -1, 0) 2 r 0 0 0 else (s, 0, -1, 1)
/-- the abstract machine: the numbers; how many are recorded and they; kept and slots; the text's length and signs -/
abbrev AM : Type := (Nat → Int32) × (Nat × (Nat → Nat → Int32)) × ((Nat → Bool) × (Nat → Nat → Int32)) × (Nat × (Nat → Int32))
abbrev aS (a : AM) : Nat → Int32 := a.1
abbrev aK (a : AM) : Nat := a.2.1.1
abbrev aH (a : AM) : Nat → Nat → Int32 := a.2.1.2
abbrev aB (a : AM) : Nat → Bool := a.2.2.1.1
abbrev aL (a : AM) : Nat → Nat → Int32 := a.2.2.1.2
abbrev aN (a : AM) : Nat := a.2.2.2.1
abbrev aT (a : AM) : Nat → Int32 := a.2.2.2.2
def uN (s : Nat → Int32) : Nat := (s 25).toNatClampNeg
/-- the end of a call of the model: thrown, the answer, the new machine -/
abbrev RS3 : Type := Int32 × Int32 × AM
theorem ne_f {b : Bool} (h : b = true) : ¬ b = false := fun e => Bool.noConfusion (h.symm.trans e)
theorem inR_nI {v hi : Int32} {n : Nat} (hM : hi.toInt = n) (h : inR v 0 hi = true) : ∃ r, r ≤ n ∧ v = nI r := by
  unfold inR at h
  rw [Bool.and_eq_true] at h
  exact nI_of2 hM (of_decide_eq_true h.1) (Int32.not_lt.mp (of_decide_eq_true h.2))
theorem inR_row {v : Int32} (h : inR v 0 5 = true) : ∃ r, r < 6 ∧ v = nI r ∧ v.toNatClampNeg = r := by
  obtain ⟨r, h1, h2⟩ := inR_nI (n := 5) (by decide) h
  exact ⟨r, by omega, h2, by rw [h2, nI_clamp (by omega)]⟩
theorem inR_col {v : Int32} (h : inR v 0 2 = true) : ∃ r, r < 3 ∧ v = nI r ∧ v.toNatClampNeg = r := by
  obtain ⟨r, h1, h2⟩ := inR_nI (n := 2) (by decide) h
  exact ⟨r, by omega, h2, by rw [h2, nI_clamp (by omega)]⟩
theorem inR_lt {v w : Int32} {u : Nat} (hw : w = nI u) (hu : u < 2 ^ 30) (h : inR v 0 (w - 1) = true) : ∃ r, r < u ∧ v = nI r ∧ v.toNatClampNeg = r := by
  cases u with
  | zero =>
    unfold inR at h
    rw [Bool.and_eq_true, hw] at h
    exact absurd (of_decide_eq_true h.2) (fun q => (of_decide_eq_true h.1 : ¬ v < 0) (Int32.lt_of_le_of_lt (Int32.not_lt.mp q) (by decide)))
  | succ u =>
    rw [hw, nI_pred] at h
    obtain ⟨r, h1, h2⟩ := inR_nI (n := u) (nI_toInt (by omega)) h
    exact ⟨r, by omega, h2, by rw [h2, nI_clamp (by omega)]⟩
def shasRow (a : AM) (r : Int32) : RS3 := if inR r 0 5 = false then (1, 0, a) else if aS a r.toNatClampNeg = 1 then (0, 1, a) else (0, 0, a)
def svalueAt (a : AM) (r c : Int32) : RS3 := if inR r 0 5 = false then (1, 0, a) else if inR c 0 2 = false then (1, 0, a) else if aS a r.toNatClampNeg = 0 then (2, 0, a) else (0, aS a (6 + 3 * r.toNatClampNeg + c.toNatClampNeg), a)
def sactionOf (a : AM) (r : Int32) : RS3 := if inR r 0 (aS a 25 - 1) = false then (1, 0, a) else (0, rN (aS a) r.toNatClampNeg 3, a)
def sactsOf (a : AM) (r : Int32) : RS3 := if inR r 0 (aS a 25 - 1) = false then (1, 0, a) else (0, rN (aS a) r.toNatClampNeg 8, a)
def sisMuted (a : AM) (r : Int32) : RS3 := if inR r 0 (aS a 25 - 1) = false then (1, 0, a) else if rN (aS a) r.toNatClampNeg 7 = 1 then (0, 1, a) else (0, 0, a)
def sloggedRule (a : AM) (r : Int32) : RS3 := if inR r 0 (aS a 99 - 1) = false then (1, 0, a) else (0, aS a (100 + r.toNatClampNeg), a)
def sloggedDepth (a : AM) (r : Int32) : RS3 := if inR r 0 (aS a 99 - 1) = false then (1, 0, a) else (0, aS a (116 + r.toNatClampNeg), a)
def sruleCount (a : AM)  : RS3 := (0, aS a 25, a)
def seventCount (a : AM)  : RS3 := (0, aS a 98, a)
def slogSize (a : AM)  : RS3 := (0, aS a 99, a)
def srowCount (a : AM)  : RS3 := (0, smN (aS a) 6, a)
def sundoCount (a : AM)  : RS3 := (0, nI (aK a), a)
def recH (a : AM) (s0 : Nat → Int32) : Nat × (Nat → Nat → Int32) := if aK a = 6 then (6, fun i => if i = 5 then s0 else aH a (i + 1)) else (aK a + 1, fun i => if i = aK a then s0 else aH a i)
theorem uN_of {s t : Nat → Int32} (h : t 25 = s 25) : uN t = uN s := by unfold uN; rw [h]
def ssetDepth (a : AM) (v : Int32) : RS3 := if inR v 0 5 = false then (1, 0, a) else (0, aS a 24, (upd (aS a) 24 v, recH a (aS a), a.2.2))
def sturnMute (a : AM) (r : Int32) : RS3 := if inR r 0 (aS a 25 - 1) = false then (1, 0, a) else (0, (if 1 - rN (aS a) r.toNatClampNeg 7 = 1 then 1 else 0), (upd (aS a) (26 + 9 * r.toNatClampNeg + 7) (1 - rN (aS a) r.toNatClampNeg 7), recH a (aS a), a.2.2))
def ssetAction (a : AM) (r k ro c m : Int32) : RS3 := if inR r 0 (aS a 25 - 1) = false then (1, 0, a) else if inR k 0 3 = false then (2, 0, a) else if inR ro 0 5 = false then (2, 0, a) else if inR c 0 2 = false then (2, 0, a) else if inR m (-999) 999 = false then (2, 0, a)
  else (0, rN (aS a) r.toNatClampNeg 3, (upd (upd (upd (upd (aS a) (26 + 9 * r.toNatClampNeg + 3) k) (26 + 9 * r.toNatClampNeg + 4) ro) (26 + 9 * r.toNatClampNeg + 5) c) (26 + 9 * r.toNatClampNeg + 6) m, recH a (aS a), a.2.2))
def zrN (k p : Nat) (f : Nat → Int32) : Nat → Int32 := fun j => if p ≤ j ∧ j < p + k then 0 else f j
def newR (s : Nat → Int32) (u : Nat) (e c l : Int32) : Nat → Int32 := upd (upd (upd (upd (zrN 9 (26 + 9 * u) s) (26 + 9 * u) e) (26 + 9 * u + 1) c) (26 + 9 * u + 2) l) 25 (nI (u + 1))
theorem newR_nt (s : Nat → Int32) (u : Nat) (e c l : Int32) {j : Nat} (h : j ≠ 25) (h2 : j < 26 + 9 * u ∨ 26 + 9 * u + 9 ≤ j) : newR s u e c l j = s j := by
  unfold newR; rw [upd_nt _ _ h, upd_nt _ _ (by omega), upd_nt _ _ (by omega), upd_nt _ _ (by omega)]; unfold zrN; rw [if_neg (by omega)]
theorem newR_z (s : Nat → Int32) (u : Nat) (e c l : Int32) {k : Nat} (h : 3 ≤ k) (h9 : k < 9) : newR s u e c l (26 + 9 * u + k) = 0 := by
  unfold newR; rw [upd_nt _ _ (by omega), upd_nt _ _ (by omega), upd_nt _ _ (by omega), upd_nt _ _ (by omega)]; unfold zrN; rw [if_pos (by omega)]
theorem VS.E {u : Nat} {s t : Nat → Int32} (h : VS u s) (e : E132 s t) : VS u t := by
  obtain ⟨b1, b2, b3, b4, b5, b6⟩ := h
  refine ⟨b1, by rw [← e 25 (by omega)]; exact b2, (by rw [← e 24 (by omega)]; exact b3), (by rw [← e 99 (by omega)]; exact b4), fun j hj => by rw [← e j (by omega)]; exact b5 j hj, fun i hi => ?_⟩
  have g : ∀ w, w < 9 → rN t i w = rN s i w := fun w hw => (e _ (by omega)).symm
  rw [g 1 (by omega), g 4 (by omega), g 5 (by omega), g 7 (by omega), g 3 (by omega)]
  exact b6 i hi
theorem uN_E {s t : Nat → Int32} (e : E132 s t) : uN t = uN s := by unfold uN; rw [e 25 (by omega)]
/-- what is recorded and saved is as the numbers are -/
def VA (a : AM) : Prop := (∀ i, i < aK a → VS (uN (aH a i)) (aH a i)) ∧ ∀ i, i < 2 → aB a i = true → VS (uN (aL a i)) (aL a i)
def saddRule (a : AM) (e c l : Int32) : RS3 := if inR e 0 2 = false then (1, 0, a) else if inR c 0 2 = false then (1, 0, a) else if inR l 0 999 = false then (1, 0, a) else if aS a 25 = 8 then (2, 0, a) else (0, nI (uN (aS a)), (newR (aS a) (uN (aS a)) e c l, recH a (aS a), a.2.2))
def sundo (a : AM) : RS3 := if aK a = 0 then (1, 0, a) else (0, nI (aK a - 1), (aH a (aK a - 1), (aK a - 1, aH a), a.2.2))
theorem VS.un {u : Nat} {t : Nat → Int32} (h : VS u t) : uN t = u := by unfold uN; rw [h.2.1, nI_clamp (by have := h.1; omega)]
theorem hap_VS {u : Nat} {s : Nat → Int32} (h : VS u s) (f : Nat) (a b : Int32) (c0 : Int32) (ev : Int32) {r c : Nat} (v : Int32) (d : Nat) (hr : r < 6) (hc : c < 3) : VS u (hapT u f (s, a, b, c0) ev r c v d).1 :=
  (hapT_KV u s f (s, a, b, c0) ev r c v d hr hc ⟨h, SR.rf s⟩).1
theorem insR_VS {u : Nat} {s : Nat → Int32} (h : VS u s) {r : Nat} (a b c : Int32) (hr : r < 6) : VS u (insR u s r a b c).1 := by
  unfold insR; split
  · exact h
  · exact hap_VS (VS_val (VS_val (VS_val h a (by omega) (by omega)) b (by omega) (by omega)) c (by omega) (by omega)) 6 _ _ _ 0 0 0 hr (by decide)
theorem updR_VS {u : Nat} {s : Nat → Int32} (h : VS u s) {r c : Nat} (v : Int32) (hr : r < 6) (hc : c < 3) : VS u (updR u s r c v).1 := by
  unfold updR; split
  · exact h
  · split
    · exact h
    · exact hap_VS h 6 _ _ _ 1 v 0 hr hc
theorem remR_VS {u : Nat} {s : Nat → Int32} (h : VS u s) {r : Nat} (hr : r < 6) : VS u (remR u s r).1 := by
  unfold remR; split
  · exact hap_VS h 6 _ _ _ 2 0 0 hr (by decide)
  · exact h
theorem E132.tr {f g w : Nat → Int32} (h : E132 f g) (k : E132 g w) : E132 f w := fun j hj => (h j hj).trans (k j hj)
/-- the answer of a statement -/
def stA (a : AM) (R : TT) (bad : Int32) : RS3 := if decide (R.2.2.2 = 0) = false then (bad, 0, a) else (0, R.2.1, (fin R (aS a), recH a (aS a), a.2.2))
theorem stA_bad {a : AM} {R : TT} (b : Int32) (h : decide (R.2.2.2 = 0) = false) : stA a R b = (b, 0, a) := if_pos h
theorem stA_ok {a : AM} {R : TT} (b : Int32) (h : decide (R.2.2.2 = 0) = true) : stA a R b = (0, R.2.1, (fin R (aS a), recH a (aS a), a.2.2)) := if_neg (ne_f h)
def sinsert (a : AM) (r p q w : Int32) : RS3 := if inR r 0 5 = false then (1, 0, a) else if inR p 0 999 = false then (2, 0, a) else if inR q 0 999 = false then (2, 0, a) else if inR w 0 999 = false then (2, 0, a) else stA a (insR (uN (aS a)) (aS a) r.toNatClampNeg p q w) 3
def supdate (a : AM) (r c v : Int32) : RS3 := if inR r 0 5 = false then (1, 0, a) else if inR c 0 2 = false then (1, 0, a) else if inR v 0 999 = false then (2, 0, a) else stA a (updR (uN (aS a)) (aS a) r.toNatClampNeg c.toNatClampNeg v) 3
def sremove (a : AM) (r : Int32) : RS3 := if inR r 0 5 = false then (1, 0, a) else stA a (remR (uN (aS a)) (aS a) r.toNatClampNeg) 2
def tuC (r c v : Int32) : Int32 := if inR r 0 5 = false then 1 else if inR c 0 2 = false then 1 else if inR v 0 999 = false then 2 else 0
def tuR (a : AM) (r c v : Int32) : TT := updR (uN (aS a)) (aS a) r.toNatClampNeg c.toNatClampNeg v
def swhyNotUpdate (a : AM) (r c v : Int32) : RS3 := (tuC r c v, (if tuC r c v = 0 then (tuR a r c v).2.2.2 else 0), a)
def seventsOfUpdate (a : AM) (r c v : Int32) : RS3 := (tuC r c v, (if tuC r c v = 0 then (if (tuR a r c v).2.2.2 ≤ 0 then (tuR a r c v).2.1 else -1) else 0), a)
def sdepthOfUpdate (a : AM) (r c v : Int32) : RS3 := (tuC r c v, (if tuC r c v = 0 then (if (tuR a r c v).2.2.2 ≤ 0 then (tuR a r c v).2.2.1 else -1) else 0), a)
theorem or_if (w : Int32) (a b : Bool) : (if a = true then w else 0) ||| (if b = true then w else 0) = if (a || b) = true then w else 0 := by cases a <;> cases b <;> simp
theorem mk_or (p q : Nat → Bool) : ∀ (u : Nat), mkM p u ||| mkM q u = mkM (fun j => p j || q j) u
  | 0 => (Int32.or_zero : (0 : Int32) ||| 0 = 0)
  | u + 1 => by
    have e : ∀ a b c d : Int32, (a ||| c) ||| (b ||| d) = (a ||| b) ||| (c ||| d) := fun a b c d => by
      rw [Int32.or_assoc, Int32.or_assoc, ← Int32.or_assoc c b d, Int32.or_comm c b, Int32.or_assoc b c d]
    exact (e _ _ _ _).trans (by rw [mk_or p q u, or_if]; rfl)
def sumF (s : Nat → Int32) (c : Nat) : Nat → Int32
  | 0 => 0
  | k + 1 => sumF s c k + (if s k = 1 then s (6 + 3 * k + c) else 0)
def ssumOf (a : AM) (c : Int32) : RS3 := if inR c 0 2 = false then (1, 0, a) else (0, sumF (aS a) c.toNatClampNeg 6, a)
def stO (s : Nat → Int32) (i j : Nat) : Bool := decide (rN s i 7 = 0) && (decide (rN s j 7 = 0) && ((decide (rN s i 3 = 2) && (decide (rN s j 0 = 1) && decide (rN s j 1 = rN s i 5))) || (decide (rN s i 3 = 3) && decide (rN s j 0 = 2))))
def moN (s : Nat → Int32) (p : Nat → Bool) : Nat → Nat → Bool
  | 0 => p
  | k + 1 => fun j => moN s p k j || (p k && stO s k j)
def rcN (s : Nat → Int32) (u r : Nat) : Nat → Nat → Bool
  | 0 => stO s r
  | t + 1 => moN s (rcN s u r t) u
def scanSetOff (a : AM) (r q : Int32) : RS3 := if inR r 0 (aS a 25 - 1) = false then (1, 0, a) else if inR q 0 (aS a 25 - 1) = false then (1, 0, a) else (0, bI (stO (aS a) r.toNatClampNeg q.toNatClampNeg), a)
def sreachOf (a : AM) (r : Int32) : RS3 := if inR r 0 (aS a 25 - 1) = false then (1, 0, a) else (0, mkM (rcN (aS a) (uN (aS a)) r.toNatClampNeg 8) (uN (aS a)), a)
def sreachByTable (a : AM) (r : Int32) : RS3 := sreachOf a r
def scircularRules (a : AM) : RS3 := (0, mkM (fun i => rcN (aS a) (uN (aS a)) i 8 i) (uN (aS a)), a)
def shR (r n : Nat) (s : Nat → Int32) : Nat → Int32 := fun j => if 26 + 9 * r ≤ j ∧ j < 26 + 9 * r + n then s (j + 9) else s j
def drV (t : Nat → Int32) (r k : Nat) : Int32 := if t (100 + k) ≤ nI r then t (100 + k) else t (100 + k) - 1
def drL (s : Nat → Int32) (r : Nat) : Nat → (Nat → Int32) × Nat
  | 0 => (s, 0)
  | k + 1 => (upd (upd (drL s r k).1 (100 + (drL s r k).2) (drV (drL s r k).1 r k)) (116 + (drL s r k).2) (upd (drL s r k).1 (100 + (drL s r k).2) (drV (drL s r k).1 r k) (116 + k)), (drL s r k).2 + (if (drL s r k).1 (100 + k) = nI r then 0 else 1))
theorem drL_le (s : Nat → Int32) (r : Nat) : ∀ k, (drL s r k).2 ≤ k
  | 0 => Nat.le_refl _
  | k + 1 => by
    have := drL_le s r k
    show (drL s r k).2 + (if _ then 0 else 1) ≤ k + 1
    split <;> omega
theorem drL_nt (s : Nat → Int32) (r : Nat) {j : Nat} (h : j < 100) : ∀ k, (drL s r k).1 j = s j
  | 0 => rfl
  | k + 1 => by
    show upd (upd _ _ _) _ _ j = s j
    rw [upd_nt _ _ (by omega), upd_nt _ _ (by omega), drL_nt s r h k]
def drB (s : Nat → Int32) (u r : Nat) : Nat → Int32 := shR r (9 * (u - 1 - r)) (upd s 25 (nI (u - 1)))
def drS (s : Nat → Int32) (u r l : Nat) : Nat → Int32 := upd (drL (drB s u r) r l).1 99 (nI (drL (drB s u r) r l).2)
theorem drB_hi (s : Nat → Int32) {u r : Nat} (hr : r < u) (hu : u ≤ 8) {j : Nat} (h : j ≠ 25) (h2 : j < 26 ∨ 98 ≤ j) : drB s u r j = s j := by
  unfold drB shR; rw [if_neg (by omega), upd_nt _ _ h]
theorem drB_ru (s : Nat → Int32) {u r : Nat} (hr : r < u) {i k : Nat} (hi : i < u - 1) (hk : k < 9) : rN (drB s u r) i k = rN s (if i < r then i else i + 1) k := by
  unfold rN drB shR
  by_cases q : i < r
  · rw [if_neg (by omega), upd_nt _ _ (by omega), if_pos q]
  · rw [if_pos (by omega), upd_nt _ _ (by omega), if_neg q, show 26 + 9 * i + k + 9 = 26 + 9 * (i + 1) + k by omega]
def sdropRule (a : AM) (r : Int32) : RS3 := if inR r 0 (aS a 25 - 1) = false then (1, 0, a) else (0, rN (aS a) r.toNatClampNeg 8, (drS (aS a) (uN (aS a)) r.toNatClampNeg (aS a 99).toNatClampNeg, recH a (aS a), a.2.2))
end
section
theorem i32_65 (v : Int32) : (6 : Int32) ≤ v ↔ 5 < v := by
  rw [Int32.le_iff_toInt_le, Int32.lt_iff_toInt_lt, show (6 : Int32).toInt = 6 from by decide, show (5 : Int32).toInt = 5 from by decide]; omega
theorem i32_32 (v : Int32) : (3 : Int32) ≤ v ↔ 2 < v := by
  rw [Int32.le_iff_toInt_le, Int32.lt_iff_toInt_lt, show (3 : Int32).toInt = 3 from by decide, show (2 : Int32).toInt = 2 from by decide]; omega
set_option maxRecDepth 100000 in
set_option maxHeartbeats 4000000 in
theorem ct_X7_isRow (h : Hp) (v : Int32) : CT MX7_isRow 0 0 [.int v] h (Det (.inl (some (.int (bI (inR v 0 5))))) h) := by
  refine ct_of (by decide +kernel) (by decide) rfl (k := 0) (ls := [some (.int v)]) rfl (Nat.le_of_ble_eq_true rfl) ?_
  refine pw_iload_n (tk tkX7_isRow 0 rfl) rfl ?_
  refine pw_if_lt (tgt := 14) (tk tkX7_isRow 1 rfl) (by decide) (fun c1 => ?_) (fun c1 => ?_)
  · refine pw_iconst (v := 0) (tk tkX7_isRow 7 rfl) (by decide) ?_
    refine pw_ireturn (tk tkX7_isRow 8 rfl) rfl (by decide) (by first | rfl | exact nar_bI _) ?_
    refine ⟨?_, rfl⟩
    simp [inR, bI, *]
  · refine pw_iload_n (tk tkX7_isRow 2 rfl) rfl ?_
    refine pw_bipush (v := 6) (tk tkX7_isRow 3 rfl) (by decide) ?_
    refine pw_icmp_ge (tgt := 14) (tk tkX7_isRow 4 rfl) (by decide) (fun c7 => ?_) (fun c7 => ?_)
    · refine pw_iconst (v := 0) (tk tkX7_isRow 7 rfl) (by decide) ?_
      refine pw_ireturn (tk tkX7_isRow 8 rfl) rfl (by decide) (by first | rfl | exact nar_bI _) ?_
      rw [i32_65] at c7
      refine ⟨?_, rfl⟩
      simp [inR, bI, *]
    · refine pw_iconst (v := 1) (tk tkX7_isRow 5 rfl) (by decide) ?_
      refine pw_goto (tgt := 15) (tk tkX7_isRow 6 rfl) (by decide) ?_
      refine pw_ireturn (tk tkX7_isRow 8 rfl) rfl (by decide) (by first | rfl | exact nar_bI _) ?_
      rw [i32_65] at c7
      refine ⟨?_, rfl⟩
      simp [inR, bI, *]
set_option maxRecDepth 100000 in
set_option maxHeartbeats 4000000 in
theorem ct_X7_isColumn (h : Hp) (v : Int32) : CT MX7_isColumn 0 0 [.int v] h (Det (.inl (some (.int (bI (inR v 0 2))))) h) := by
  refine ct_of (by decide +kernel) (by decide) rfl (k := 0) (ls := [some (.int v)]) rfl (Nat.le_of_ble_eq_true rfl) ?_
  refine pw_iload_n (tk tkX7_isColumn 0 rfl) rfl ?_
  refine pw_if_lt (tgt := 13) (tk tkX7_isColumn 1 rfl) (by decide) (fun c1 => ?_) (fun c1 => ?_)
  · refine pw_iconst (v := 0) (tk tkX7_isColumn 7 rfl) (by decide) ?_
    refine pw_ireturn (tk tkX7_isColumn 8 rfl) rfl (by decide) (by first | rfl | exact nar_bI _) ?_
    refine ⟨?_, rfl⟩
    simp [inR, bI, *]
  · refine pw_iload_n (tk tkX7_isColumn 2 rfl) rfl ?_
    refine pw_iconst (v := 3) (tk tkX7_isColumn 3 rfl) (by decide) ?_
    refine pw_icmp_ge (tgt := 13) (tk tkX7_isColumn 4 rfl) (by decide) (fun c6 => ?_) (fun c6 => ?_)
    · refine pw_iconst (v := 0) (tk tkX7_isColumn 7 rfl) (by decide) ?_
      refine pw_ireturn (tk tkX7_isColumn 8 rfl) rfl (by decide) (by first | rfl | exact nar_bI _) ?_
      rw [i32_32] at c6
      refine ⟨?_, rfl⟩
      simp [inR, bI, *]
    · refine pw_iconst (v := 1) (tk tkX7_isColumn 5 rfl) (by decide) ?_
      refine pw_goto (tgt := 14) (tk tkX7_isColumn 6 rfl) (by decide) ?_
      refine pw_ireturn (tk tkX7_isColumn 8 rfl) rfl (by decide) (by first | rfl | exact nar_bI _) ?_
      rw [i32_32] at c6
      refine ⟨?_, rfl⟩
      simp [inR, bI, *]
set_option maxRecDepth 100000 in
set_option maxHeartbeats 4000000 in
theorem ct_X7_isValue (h : Hp) (v : Int32) : CT MX7_isValue 0 0 [.int v] h (Det (.inl (some (.int (bI (inR v 0 999))))) h) := by
  refine ct_of (by decide +kernel) (by decide) rfl (k := 0) (ls := [some (.int v)]) rfl (Nat.le_of_ble_eq_true rfl) ?_
  refine pw_iload_n (tk tkX7_isValue 0 rfl) rfl ?_
  refine pw_if_lt (tgt := 15) (tk tkX7_isValue 1 rfl) (by decide) (fun c1 => ?_) (fun c1 => ?_)
  · refine pw_iconst (v := 0) (tk tkX7_isValue 7 rfl) (by decide) ?_
    refine pw_ireturn (tk tkX7_isValue 8 rfl) rfl (by decide) (by first | rfl | exact nar_bI _) ?_
    refine ⟨?_, rfl⟩
    simp [inR, bI, *]
  · refine pw_iload_n (tk tkX7_isValue 2 rfl) rfl ?_
    refine pw_sipush (v := 999) (tk tkX7_isValue 3 rfl) (by decide) ?_
    refine pw_icmp_gt (tgt := 15) (tk tkX7_isValue 4 rfl) (by decide) (fun c8 => ?_) (fun c8 => ?_)
    · refine pw_iconst (v := 0) (tk tkX7_isValue 7 rfl) (by decide) ?_
      refine pw_ireturn (tk tkX7_isValue 8 rfl) rfl (by decide) (by first | rfl | exact nar_bI _) ?_
      refine ⟨?_, rfl⟩
      simp [inR, bI, *]
    · refine pw_iconst (v := 1) (tk tkX7_isValue 5 rfl) (by decide) ?_
      refine pw_goto (tgt := 16) (tk tkX7_isValue 6 rfl) (by decide) ?_
      refine pw_ireturn (tk tkX7_isValue 8 rfl) rfl (by decide) (by first | rfl | exact nar_bI _) ?_
      refine ⟨?_, rfl⟩
      simp [inR, bI, *]
def soC (r q : Nat → Int32) : Bool := decide (r 7 = 0) && (decide (q 7 = 0) && ((decide (r 3 = 2) && (decide (q 0 = 1) && decide (q 1 = r 5))) || (decide (r 3 = 3) && decide (q 0 = 2))))
set_option maxRecDepth 100000 in
set_option maxHeartbeats 4000000 in
theorem ct_X3_setsOff (x : XW) (b i b2 j : Nat) (hb : b < 10) (hi : i < 8) (hb2 : b2 < 10) (hj : j < 8) : CT MX3_setsOff 0 0 [.ref (16 * b + (7 + i)), .ref (16 * b2 + (7 + j))] (hp x) (Det (.inl (some (.int (bI (soC (sRu (cSt x.1 b) i) (sRu (cSt x.1 b2) j)))))) (hp x)) := by
  refine ct_of (by decide +kernel) (by decide) rfl (k := 0) (ls := [some (.ref (16 * b + (7 + i))), some (.ref (16 * b2 + (7 + j)))]) rfl (Nat.le_of_ble_eq_true rfl) ?_
  refine pw_aload_n (tk tkX3_setsOff 0 rfl) rfl ?_
  refine g3_muted (by first | assumption | decide | omega) (by first | assumption | decide | omega) (tk tkX3_setsOff 1 rfl) fkX3_33 ?_
  refine pw_if_ne (tgt := 14) (tk tkX3_setsOff 2 rfl) (by decide) (fun c4 => ?_) (fun c4 => ?_)
  · refine pw_iconst (v := 0) (tk tkX3_setsOff 6 rfl) (by decide) ?_
    refine pw_ireturn (tk tkX3_setsOff 7 rfl) rfl (by decide) (by first | rfl | exact nar_bI _) ?_
    refine ⟨congrArg (fun b => Sum.inl (some (Value.int (bI b)))) (show false = soC (sRu (cSt x.1 b) i) (sRu (cSt x.1 b2) j) from ?_), rfl⟩
    unfold soC
    simp [c4]
  · refine pw_aload_n (tk tkX3_setsOff 3 rfl) rfl ?_
    refine g3_muted (by first | assumption | decide | omega) (by first | assumption | decide | omega) (tk tkX3_setsOff 4 rfl) fkX3_33 ?_
    refine pw_if_eq (tgt := 16) (tk tkX3_setsOff 5 rfl) (by decide) (fun c11 => ?_) (fun c11 => ?_)
    · refine pw_aload_n (tk tkX3_setsOff 8 rfl) rfl ?_
      refine g3_action (by first | assumption | decide | omega) (by first | assumption | decide | omega) (tk tkX3_setsOff 9 rfl) fkX3_21 ?_
      refine pw_iconst (v := 2) (tk tkX3_setsOff 10 rfl) (by decide) ?_
      refine pw_icmp_ne (tgt := 49) (tk tkX3_setsOff 11 rfl) (by decide) (fun c21 => ?_) (fun c21 => ?_)
      · refine pw_aload_n (tk tkX3_setsOff 25 rfl) rfl ?_
        refine g3_action (by first | assumption | decide | omega) (by first | assumption | decide | omega) (tk tkX3_setsOff 26 rfl) fkX3_21 ?_
        refine pw_iconst (v := 3) (tk tkX3_setsOff 27 rfl) (by decide) ?_
        refine pw_icmp_ne (tgt := 69) (tk tkX3_setsOff 28 rfl) (by decide) (fun c54 => ?_) (fun c54 => ?_)
        · refine pw_iconst (v := 0) (tk tkX3_setsOff 35 rfl) (by decide) ?_
          refine pw_ireturn (tk tkX3_setsOff 36 rfl) rfl (by decide) (by first | rfl | exact nar_bI _) ?_
          refine ⟨congrArg (fun b => Sum.inl (some (Value.int (bI b)))) (show false = soC (sRu (cSt x.1 b) i) (sRu (cSt x.1 b2) j) from ?_), rfl⟩
          unfold soC
          simp [c4, c11, c21, c54]
        · refine pw_aload_n (tk tkX3_setsOff 29 rfl) rfl ?_
          refine g3_event (by first | assumption | decide | omega) (by first | assumption | decide | omega) (tk tkX3_setsOff 30 rfl) fkX3_9 ?_
          refine pw_iconst (v := 2) (tk tkX3_setsOff 31 rfl) (by decide) ?_
          refine pw_icmp_ne (tgt := 69) (tk tkX3_setsOff 32 rfl) (by decide) (fun c62 => ?_) (fun c62 => ?_)
          · refine pw_iconst (v := 0) (tk tkX3_setsOff 35 rfl) (by decide) ?_
            refine pw_ireturn (tk tkX3_setsOff 36 rfl) rfl (by decide) (by first | rfl | exact nar_bI _) ?_
            refine ⟨congrArg (fun b => Sum.inl (some (Value.int (bI b)))) (show false = soC (sRu (cSt x.1 b) i) (sRu (cSt x.1 b2) j) from ?_), rfl⟩
            unfold soC
            simp [c4, c11, c21, c54, c62]
          · refine pw_iconst (v := 1) (tk tkX3_setsOff 33 rfl) (by decide) ?_
            refine pw_goto (tgt := 70) (tk tkX3_setsOff 34 rfl) (by decide) ?_
            refine pw_ireturn (tk tkX3_setsOff 36 rfl) rfl (by decide) (by first | rfl | exact nar_bI _) ?_
            refine ⟨congrArg (fun b => Sum.inl (some (Value.int (bI b)))) (show true = soC (sRu (cSt x.1 b) i) (sRu (cSt x.1 b2) j) from ?_), rfl⟩
            unfold soC
            simp [c4, c11, c21, c54, c62]
      · refine pw_aload_n (tk tkX3_setsOff 12 rfl) rfl ?_
        refine g3_event (by first | assumption | decide | omega) (by first | assumption | decide | omega) (tk tkX3_setsOff 13 rfl) fkX3_9 ?_
        refine pw_iconst (v := 1) (tk tkX3_setsOff 14 rfl) (by decide) ?_
        refine pw_icmp_ne (tgt := 47) (tk tkX3_setsOff 15 rfl) (by decide) (fun c29 => ?_) (fun c29 => ?_)
        · refine pw_iconst (v := 0) (tk tkX3_setsOff 23 rfl) (by decide) ?_
          refine pw_ireturn (tk tkX3_setsOff 24 rfl) rfl (by decide) (by first | rfl | exact nar_bI _) ?_
          refine ⟨congrArg (fun b => Sum.inl (some (Value.int (bI b)))) (show false = soC (sRu (cSt x.1 b) i) (sRu (cSt x.1 b2) j) from ?_), rfl⟩
          unfold soC
          simp [c4, c11, c21, c29]
        · refine pw_aload_n (tk tkX3_setsOff 16 rfl) rfl ?_
          refine g3_column (by first | assumption | decide | omega) (by first | assumption | decide | omega) (tk tkX3_setsOff 17 rfl) fkX3_15 ?_
          refine pw_aload_n (tk tkX3_setsOff 18 rfl) rfl ?_
          refine g3_targetColumn (by first | assumption | decide | omega) (by first | assumption | decide | omega) (tk tkX3_setsOff 19 rfl) fkX3_27 ?_
          refine pw_icmp_ne (tgt := 47) (tk tkX3_setsOff 20 rfl) (by decide) (fun c40 => ?_) (fun c40 => ?_)
          · refine pw_iconst (v := 0) (tk tkX3_setsOff 23 rfl) (by decide) ?_
            refine pw_ireturn (tk tkX3_setsOff 24 rfl) rfl (by decide) (by first | rfl | exact nar_bI _) ?_
            refine ⟨congrArg (fun b => Sum.inl (some (Value.int (bI b)))) (show false = soC (sRu (cSt x.1 b) i) (sRu (cSt x.1 b2) j) from ?_), rfl⟩
            unfold soC
            simp [c4, c11, c21, c29, c40]
          · refine pw_iconst (v := 1) (tk tkX3_setsOff 21 rfl) (by decide) ?_
            refine pw_goto (tgt := 48) (tk tkX3_setsOff 22 rfl) (by decide) ?_
            refine pw_ireturn (tk tkX3_setsOff 24 rfl) rfl (by decide) (by first | rfl | exact nar_bI _) ?_
            refine ⟨congrArg (fun b => Sum.inl (some (Value.int (bI b)))) (show true = soC (sRu (cSt x.1 b) i) (sRu (cSt x.1 b2) j) from ?_), rfl⟩
            unfold soC
            simp [c4, c11, c21, c29, c40]
    · refine pw_iconst (v := 0) (tk tkX3_setsOff 6 rfl) (by decide) ?_
      refine pw_ireturn (tk tkX3_setsOff 7 rfl) rfl (by decide) (by first | rfl | exact nar_bI _) ?_
      refine ⟨congrArg (fun b => Sum.inl (some (Value.int (bI b)))) (show false = soC (sRu (cSt x.1 b) i) (sRu (cSt x.1 b2) j) from ?_), rfl⟩
      unfold soC
      simp [c4, c11]
end
section
theorem cSt_u (x : XW) (b : Nat) (σ : SS) : cSt (uC1 x b σ).1 b = σ := if_pos rfl
theorem cSt_n (x : XW) {b j : Nat} (σ : SS) (h : j ≠ b) : cSt (uC1 x b σ).1 j = cSt x.1 j := if_neg h
theorem uC1_uC1 (x : XW) (b : Nat) (σ τ : SS) : uC1 (uC1 x b σ) b τ = uC1 x b τ := by
  have e : upS (upS x.1.1 b σ) b τ = upS x.1.1 b τ := by
    funext j; unfold upS; by_cases h : j = b
    · rw [if_pos h, if_pos h]
    · rw [if_neg h, if_neg h, if_neg h]
  show ((upS (upS x.1.1 b σ) b τ, x.1.2), x.2) = _
  rw [e]; rfl
theorem uC1_self (x : XW) (b : Nat) : uC1 x b (cSt x.1 b) = x := by
  have e : upS x.1.1 b (cSt x.1 b) = x.1.1 := by
    funext j; unfold upS; by_cases h : j = b
    · rw [if_pos h, h]
    · rw [if_neg h]
  show ((upS x.1.1 b (cSt x.1 b), x.1.2), x.2) = x
  rw [e]
theorem nar01 {v : Int32} (h : v = 0 ∨ v = 1) : narrow .boolean (.int v) = .int v ∧ fits .boolean (.int v) = true := by rcases h with h | h <;> subst h <;> exact ⟨rfl, rfl⟩
/-- the rule i of the block b -/
def uRu (x : XW) (b i : Nat) (r : Nat → Int32) : XW := uC1 x b (uS3 (cSt x.1 b) (upR (sRu (cSt x.1 b)) i r))
theorem upR_upR (f : Nat → Nat → Int32) (i : Nat) (r q : Nat → Int32) : upR (upR f i r) i q = upR f i q := by
  funext j; unfold upR; by_cases h : j = i
  · rw [if_pos h, if_pos h]
  · rw [if_neg h, if_neg h, if_neg h]
theorem uRu_get (x : XW) (b i : Nat) (r : Nat → Int32) : sRu (cSt (uRu x b i r).1 b) i = r := by
  unfold uRu; rw [cSt_u]; exact if_pos rfl
theorem uRu_ne (x : XW) {b i b2 j : Nat} (r : Nat → Int32) (h : b ≠ b2 ∨ i ≠ j) : sRu (cSt (uRu x b i r).1 b2) j = sRu (cSt x.1 b2) j := by
  unfold uRu
  by_cases e : b2 = b
  · subst e; rw [cSt_u]; exact if_neg (fun q => by omega)
  · rw [cSt_n _ _ e]
theorem uRu_put0 (x : XW) (b i k : Nat) (v : Int32) : uC1 x b (uS3 (cSt x.1 b) (upR (sRu (cSt x.1 b)) i (upd (sRu (cSt x.1 b) i) k v))) = uRu x b i (upd (sRu (cSt x.1 b) i) k v) := rfl
theorem uRu_put (x : XW) (b i k : Nat) (r : Nat → Int32) (v : Int32) : uC1 (uRu x b i r) b (uS3 (cSt (uRu x b i r).1 b) (upR (sRu (cSt (uRu x b i r).1 b)) i (upd (sRu (cSt (uRu x b i r).1 b) i) k v))) = uRu x b i (upd r k v) := by
  rw [uRu_get]
  unfold uRu
  rw [cSt_u, uC1_uC1]
  show uC1 x b (uS3 (cSt x.1 b) (upR (upR (sRu (cSt x.1 b)) i r) i (upd r k v))) = _
  rw [upR_upR]
def stRu (q : Nat → Int32) (e c l : Int32) : Nat → Int32 := upd (upd (upd (upd (upd (upd (upd (upd (upd q 0 e) 1 c) 2 l) 3 0) 4 0) 5 0) 6 0) 7 0) 8 0
def cp9 (r q : Nat → Int32) : Nat → Int32 := upd (upd (upd (upd (upd (upd (upd (upd (upd q 0 (r 0)) 1 (r 1)) 2 (r 2)) 3 (r 3)) 4 (r 4)) 5 (r 5)) 6 (r 6)) 7 (r 7)) 8 (r 8)
theorem cp9_at (r q : Nat → Int32) : ∀ k, k < 9 → cp9 r q k = r k
  | 0, _ => rfl | 1, _ => rfl | 2, _ => rfl | 3, _ => rfl | 4, _ => rfl | 5, _ => rfl | 6, _ => rfl | 7, _ => rfl | 8, _ => rfl
  | k + 9, h => absurd h (by omega)
set_option maxRecDepth 100000 in
set_option maxHeartbeats 4000000 in
theorem ct_X3_start (x : XW) (b i : Nat) (hb : b < 10) (hi : i < 8) (e c l : Int32) : CT MX3_start 0 0 [.ref (16 * b + (7 + i)), .int e, .int c, .int l] (hp x) (Det (.inl none) (hp (uRu x b i (stRu (sRu (cSt x.1 b) i) e c l)))) := by
  refine ct_of (by decide +kernel) (by decide) rfl (k := 0) (ls := [some (.ref (16 * b + (7 + i))), some (.int e), some (.int c), some (.int l)]) rfl (Nat.le_of_ble_eq_true rfl) ?_
  refine pw_aload_n (tk tkX3_start 0 rfl) rfl ?_
  refine pw_iload_n (tk tkX3_start 1 rfl) rfl ?_
  refine p3_event (by first | assumption | decide | omega) (by first | assumption | decide | omega) (tk tkX3_start 2 rfl) fkX3_9 ?_
  rw [uRu_put0]
  refine pw_aload_n (tk tkX3_start 3 rfl) rfl ?_
  refine pw_iload_n (tk tkX3_start 4 rfl) rfl ?_
  refine p3_column (by first | assumption | decide | omega) (by first | assumption | decide | omega) (tk tkX3_start 5 rfl) fkX3_15 ?_
  rw [uRu_put]
  refine pw_aload_n (tk tkX3_start 6 rfl) rfl ?_
  refine pw_iload_n (tk tkX3_start 7 rfl) rfl ?_
  refine p3_least (by first | assumption | decide | omega) (by first | assumption | decide | omega) (tk tkX3_start 8 rfl) fkX3_18 ?_
  rw [uRu_put]
  refine pw_aload_n (tk tkX3_start 9 rfl) rfl ?_
  refine pw_iconst (v := 0) (tk tkX3_start 10 rfl) (by decide) ?_
  refine p3_action (by first | assumption | decide | omega) (by first | assumption | decide | omega) (tk tkX3_start 11 rfl) fkX3_21 ?_
  rw [uRu_put]
  refine pw_aload_n (tk tkX3_start 12 rfl) rfl ?_
  refine pw_iconst (v := 0) (tk tkX3_start 13 rfl) (by decide) ?_
  refine p3_targetRow (by first | assumption | decide | omega) (by first | assumption | decide | omega) (tk tkX3_start 14 rfl) fkX3_24 ?_
  rw [uRu_put]
  refine pw_aload_n (tk tkX3_start 15 rfl) rfl ?_
  refine pw_iconst (v := 0) (tk tkX3_start 16 rfl) (by decide) ?_
  refine p3_targetColumn (by first | assumption | decide | omega) (by first | assumption | decide | omega) (tk tkX3_start 17 rfl) fkX3_27 ?_
  rw [uRu_put]
  refine pw_aload_n (tk tkX3_start 18 rfl) rfl ?_
  refine pw_iconst (v := 0) (tk tkX3_start 19 rfl) (by decide) ?_
  refine p3_amount (by first | assumption | decide | omega) (by first | assumption | decide | omega) (tk tkX3_start 20 rfl) fkX3_30 ?_
  rw [uRu_put]
  refine pw_aload_n (tk tkX3_start 21 rfl) rfl ?_
  refine pw_iconst (v := 0) (tk tkX3_start 22 rfl) (by decide) ?_
  refine p3_muted (by first | assumption | decide | omega) (by first | assumption | decide | omega) (tk tkX3_start 23 rfl) fkX3_33 ⟨rfl, rfl⟩ ?_
  rw [uRu_put]
  refine pw_aload_n (tk tkX3_start 24 rfl) rfl ?_
  refine pw_iconst (v := 0) (tk tkX3_start 25 rfl) (by decide) ?_
  refine p3_acts (by first | assumption | decide | omega) (by first | assumption | decide | omega) (tk tkX3_start 26 rfl) fkX3_37 ?_
  rw [uRu_put]
  exact pw_return (tk tkX3_start 27 rfl) rfl (by decide) ⟨rfl, rfl⟩
set_option maxRecDepth 100000 in
set_option maxHeartbeats 4000000 in
theorem ct_X3_copyFrom (x : XW) (b i b2 j : Nat) (hb : b < 10) (hi : i < 8) (hb2 : b2 < 10) (hj : j < 8) (hne : b ≠ b2 ∨ i ≠ j) (hm : sRu (cSt x.1 b2) j 7 = 0 ∨ sRu (cSt x.1 b2) j 7 = 1) : CT MX3_copyFrom 0 0 [.ref (16 * b + (7 + i)), .ref (16 * b2 + (7 + j))] (hp x) (Det (.inl none) (hp (uRu x b i (cp9 (sRu (cSt x.1 b2) j) (sRu (cSt x.1 b) i))))) := by
  refine ct_of (by decide +kernel) (by decide) rfl (k := 0) (ls := [some (.ref (16 * b + (7 + i))), some (.ref (16 * b2 + (7 + j)))]) rfl (Nat.le_of_ble_eq_true rfl) ?_
  refine pw_aload_n (tk tkX3_copyFrom 0 rfl) rfl ?_
  refine pw_aload_n (tk tkX3_copyFrom 1 rfl) rfl ?_
  refine g3_event (by first | assumption | decide | omega) (by first | assumption | decide | omega) (tk tkX3_copyFrom 2 rfl) fkX3_9 ?_
  refine p3_event (by first | assumption | decide | omega) (by first | assumption | decide | omega) (tk tkX3_copyFrom 3 rfl) fkX3_9 ?_
  rw [uRu_put0]
  refine pw_aload_n (tk tkX3_copyFrom 4 rfl) rfl ?_
  refine pw_aload_n (tk tkX3_copyFrom 5 rfl) rfl ?_
  refine g3_column (by first | assumption | decide | omega) (by first | assumption | decide | omega) (tk tkX3_copyFrom 6 rfl) fkX3_15 ?_
  rw [uRu_ne _ _ hne]
  refine p3_column (by first | assumption | decide | omega) (by first | assumption | decide | omega) (tk tkX3_copyFrom 7 rfl) fkX3_15 ?_
  rw [uRu_put]
  refine pw_aload_n (tk tkX3_copyFrom 8 rfl) rfl ?_
  refine pw_aload_n (tk tkX3_copyFrom 9 rfl) rfl ?_
  refine g3_least (by first | assumption | decide | omega) (by first | assumption | decide | omega) (tk tkX3_copyFrom 10 rfl) fkX3_18 ?_
  rw [uRu_ne _ _ hne]
  refine p3_least (by first | assumption | decide | omega) (by first | assumption | decide | omega) (tk tkX3_copyFrom 11 rfl) fkX3_18 ?_
  rw [uRu_put]
  refine pw_aload_n (tk tkX3_copyFrom 12 rfl) rfl ?_
  refine pw_aload_n (tk tkX3_copyFrom 13 rfl) rfl ?_
  refine g3_action (by first | assumption | decide | omega) (by first | assumption | decide | omega) (tk tkX3_copyFrom 14 rfl) fkX3_21 ?_
  rw [uRu_ne _ _ hne]
  refine p3_action (by first | assumption | decide | omega) (by first | assumption | decide | omega) (tk tkX3_copyFrom 15 rfl) fkX3_21 ?_
  rw [uRu_put]
  refine pw_aload_n (tk tkX3_copyFrom 16 rfl) rfl ?_
  refine pw_aload_n (tk tkX3_copyFrom 17 rfl) rfl ?_
  refine g3_targetRow (by first | assumption | decide | omega) (by first | assumption | decide | omega) (tk tkX3_copyFrom 18 rfl) fkX3_24 ?_
  rw [uRu_ne _ _ hne]
  refine p3_targetRow (by first | assumption | decide | omega) (by first | assumption | decide | omega) (tk tkX3_copyFrom 19 rfl) fkX3_24 ?_
  rw [uRu_put]
  refine pw_aload_n (tk tkX3_copyFrom 20 rfl) rfl ?_
  refine pw_aload_n (tk tkX3_copyFrom 21 rfl) rfl ?_
  refine g3_targetColumn (by first | assumption | decide | omega) (by first | assumption | decide | omega) (tk tkX3_copyFrom 22 rfl) fkX3_27 ?_
  rw [uRu_ne _ _ hne]
  refine p3_targetColumn (by first | assumption | decide | omega) (by first | assumption | decide | omega) (tk tkX3_copyFrom 23 rfl) fkX3_27 ?_
  rw [uRu_put]
  refine pw_aload_n (tk tkX3_copyFrom 24 rfl) rfl ?_
  refine pw_aload_n (tk tkX3_copyFrom 25 rfl) rfl ?_
  refine g3_amount (by first | assumption | decide | omega) (by first | assumption | decide | omega) (tk tkX3_copyFrom 26 rfl) fkX3_30 ?_
  rw [uRu_ne _ _ hne]
  refine p3_amount (by first | assumption | decide | omega) (by first | assumption | decide | omega) (tk tkX3_copyFrom 27 rfl) fkX3_30 ?_
  rw [uRu_put]
  refine pw_aload_n (tk tkX3_copyFrom 28 rfl) rfl ?_
  refine pw_aload_n (tk tkX3_copyFrom 29 rfl) rfl ?_
  refine g3_muted (by first | assumption | decide | omega) (by first | assumption | decide | omega) (tk tkX3_copyFrom 30 rfl) fkX3_33 ?_
  rw [uRu_ne _ _ hne]
  refine p3_muted (by first | assumption | decide | omega) (by first | assumption | decide | omega) (tk tkX3_copyFrom 31 rfl) fkX3_33 (nar01 hm) ?_
  rw [uRu_put]
  refine pw_aload_n (tk tkX3_copyFrom 32 rfl) rfl ?_
  refine pw_aload_n (tk tkX3_copyFrom 33 rfl) rfl ?_
  refine g3_acts (by first | assumption | decide | omega) (by first | assumption | decide | omega) (tk tkX3_copyFrom 34 rfl) fkX3_37 ?_
  rw [uRu_ne _ _ hne]
  refine p3_acts (by first | assumption | decide | omega) (by first | assumption | decide | omega) (tk tkX3_copyFrom 35 rfl) fkX3_37 ?_
  rw [uRu_put]
  exact pw_return (tk tkX3_copyFrom 36 rfl) rfl (by decide) ⟨rfl, rfl⟩
theorem Met_ofWF {l : Launch} {y : MethodName} {ws ws' : List Cond} {rm : Room} {Pc : Array Value → State → Prop} {Qc : Array Value → State → Outcome → State → Prop} {mc ms : Nat} {free : Addr → Prop} {cc : ByteArray} {maxL : Nat} {ret : Option FieldType}
    (hy : plainFor y = true) (hw : ws = Cond.code y cc maxL ret :: ws')
    (body : ∀ p e s m args below meth c s₁, BodyLoose p l y (headSpec ws rm) cc maxL ret e s m args below meth c s₁ → c.maxLocals = maxL → Pc args s →
      W p l e (headSpec ws rm).room s m args below meth c s.heap [] 0 0 (MQ below Qc args s mc ms free) (entryFrame m args maxL)) : Met l y ws rm Pc Qc mc ms free := by
  refine MetFree.of_bodySF (code := cc) (maxLocals := maxL) (ret := ret) hy ?_ ?_
  · intro args s m h hn
    obtain ⟨meth, c, h1, h2, h3, h4, h5, h6, -, -⟩ := Cond.code_spec hn (atoms_spec (ws := ws) h _ (by rw [hw]; exact List.mem_cons_self))
    exact ⟨meth, c, h1, h2, h3, h4, h5, h6⟩
  · intro p e s m args below meth c s₁ B hml hP _
    have hh0 : s₁.heap = s.heap := by rw [B.state]; rfl
    obtain ⟨t, a1, o, b1, b2, b3⟩ := body p e s m args below meth c s₁ B hml hP s₁ hh0 (Stand.of_body B)
    exact ⟨t, o, a1, b1, b2, b3⟩
theorem ct_ofF {M : Mth} {d n : Nat} {args : List Value} {h : Hp} {Q : Out → Hp → Prop} (hp : plainFor (mY M) = true) (m0 : mK M = 0) (hh : mH M = []) {k : Nat} {ls : List (Option Value)} (e1 : els args ++ List.replicate k none = ls) (hn : (lg_sl args).length ≤ mL M) (body : PW M d n 0 ls [] h Q) : CT M d n args h Q := by
  intro l hl G
  have ew : wsM M = .code (mY M) (mC M) (mL M) (mR M) :: UU := wsM_eq hh
  rw [if_pos m0]
  refine Met_ofWF (cc := mC M) (maxL := mL M) (ret := mR M) hp ew fun p e s m va below meth c s₁ B hml hP => ?_
  have ht : c.exceptionTable.toList = tableOf (mH M) := by
    obtain ⟨meth9, c9, h1, h2, -, -, -, -, h7, -⟩ := Cond.code_spec B.named (atoms_spec (ws := wsM M) B.pre _ (by rw [ew]; exact List.mem_cons_self))
    cases Option.some.inj (h1.symm.trans B.method)
    cases Option.some.inj (h2.symm.trans (Stand.of_body B).code)
    rw [hh, Array.isEmpty_iff.mp h7]
    rfl
  have w := ent_go (e := e) (below := below) e1 hn (ent_cx (Q := Q) hl (by omega) B hml ht hP) hP body
  unfold PZ at w
  rw [if_pos m0] at w
  exact w
def flm (x y : Int32) : Int32 := if 0 ≤ x ^^^ y then x - x / y * y else if x - x / y * y = 0 then x - x / y * y else x - x / y * y + y
set_option maxRecDepth 100000 in
set_option maxHeartbeats 4000000 in
theorem ct_J9_floorMod (h : Hp) (x y : Int32) (hy : ¬ y = 0) : CT MJ9_floorMod_7cf53 0 0 [.int x, .int y] h (Det (.inl (some (.int (flm x y)))) h) := by
  refine ct_ofF (by decide +kernel) rfl rfl (k := 1) (ls := [some (.int x), some (.int y), none]) rfl (Nat.le_of_ble_eq_true rfl) ?_
  refine pw_iload_n (tk tkJ9_floorMod_7cf53 0 rfl) rfl ?_
  refine pw_iload_n (tk tkJ9_floorMod_7cf53 1 rfl) rfl ?_
  refine pw_irem (tk tkJ9_floorMod_7cf53 2 rfl) hy ?_
  refine pw_ist2 (tk tkJ9_floorMod_7cf53 3 rfl) rfl (by decide) ?_
  refine pw_iload_n (tk tkJ9_floorMod_7cf53 4 rfl) rfl ?_
  refine pw_iload_n (tk tkJ9_floorMod_7cf53 5 rfl) rfl ?_
  refine pw_ixor (tk tkJ9_floorMod_7cf53 6 rfl) ?_
  refine pw_if_ge (tgt := 18) (tk tkJ9_floorMod_7cf53 7 rfl) (by decide) (fun c7 => ?_) (fun c7 => ?_)
  · refine pw_iload_n (tk tkJ9_floorMod_7cf53 14 rfl) rfl ?_
    exact pw_ireturn (tk tkJ9_floorMod_7cf53 15 rfl) rfl (by decide) rfl ⟨by unfold flm; simp [c7], rfl⟩
  · refine pw_iload_n (tk tkJ9_floorMod_7cf53 8 rfl) rfl ?_
    refine pw_if_eq (tgt := 18) (tk tkJ9_floorMod_7cf53 9 rfl) (by decide) (fun c11 => ?_) (fun c11 => ?_)
    · refine pw_iload_n (tk tkJ9_floorMod_7cf53 14 rfl) rfl ?_
      exact pw_ireturn (tk tkJ9_floorMod_7cf53 15 rfl) rfl (by decide) rfl ⟨by unfold flm; simp [c7, c11], rfl⟩
    · refine pw_iload_n (tk tkJ9_floorMod_7cf53 10 rfl) rfl ?_
      refine pw_iload_n (tk tkJ9_floorMod_7cf53 11 rfl) rfl ?_
      refine pw_iadd (tk tkJ9_floorMod_7cf53 12 rfl) ?_
      exact pw_ireturn (tk tkJ9_floorMod_7cf53 13 rfl) rfl (by decide) rfl ⟨by unfold flm; simp [c7, c11], rfl⟩
theorem flm16 : ∀ k : Fin 64, flm (nI k.val - 32) 16 = nI (k.val % 16) := by decide +kernel
theorem flm6 : ∀ k : Fin 12, flm (nI k.val - 6) 6 = nI (k.val % 6) := by decide +kernel
theorem fl16 {x : Int32} (k : Nat) (hk : k < 64) (h : x = nI k - 32) : flm x 16 = nI (k % 16) := by rw [h]; exact flm16 ⟨k, hk⟩
theorem fl6 {x : Int32} (k : Nat) (hk : k < 12) (h : x = nI k - 6) : flm x 6 = nI (k % 6) := by rw [h]; exact flm6 ⟨k, hk⟩
theorem rem16 {a : Nat} (h : a < 16) : (nI a + 1) - (nI a + 1) / 16 * 16 = nI ((a + 1) % 16) := by rw [nI_1]; exact pk_rem (by omega) (by decide) (by decide)
theorem rem6 {a : Nat} (h : a < 6) : (nI a + 1) - (nI a + 1) / 6 * 6 = nI ((a + 1) % 6) := by rw [nI_1]; exact pk_rem (by omega) (by decide) (by decide)
theorem mn16 : ∀ l : Fin 17, (if (16 : Int32) < nI l.val + 1 then (16 : Int32) else nI l.val + 1) = nI (min (l.val + 1) 16) := by decide +kernel
theorem mn6 : ∀ l : Fin 7, (if (6 : Int32) < nI l.val + 1 then (6 : Int32) else nI l.val + 1) = nI (min (l.val + 1) 6) := by decide +kernel
theorem cpy0 (n : Nat) (f g : Nat → Int32) : va_cpy (iA f) (iA g) 0 0 n = iA (cpN n f g) := by
  funext j
  unfold va_cpy iA cpN
  by_cases h : j < n
  · rw [if_pos ⟨Nat.zero_le _, by omega⟩, if_pos h]; simp
  · rw [if_neg (fun q => by omega), if_neg h]
theorem hp_cp5 (x : XW) {b : Nat} (hb : b < 10) (f : Nat → Int32) : upH (hp x) (16 * b + 5) (.inl (.int, 16, va_cpy (iA f) (iA (sLr (cSt x.1 b))) (0 : Int32).toNatClampNeg (0 : Int32).toNatClampNeg (16 : Int32).toNatClampNeg)) = hp (uC1 x b (uS4 (cSt x.1 b) (cpN 16 f (sLr (cSt x.1 b))))) := by
  rw [show (0 : Int32).toNatClampNeg = 0 from rfl, show (16 : Int32).toNatClampNeg = 16 from rfl, cpy0]
  exact hp_us x _ hb (by decide) rfl (fun j _ hj => stcLr _ _ _ _ hj)
theorem hp_cp6 (x : XW) {b : Nat} (hb : b < 10) (f : Nat → Int32) : upH (hp x) (16 * b + 6) (.inl (.int, 16, va_cpy (iA f) (iA (sLd (cSt x.1 b))) (0 : Int32).toNatClampNeg (0 : Int32).toNatClampNeg (16 : Int32).toNatClampNeg)) = hp (uC1 x b (uS5 (cSt x.1 b) (cpN 16 f (sLd (cSt x.1 b))))) := by
  rw [show (0 : Int32).toNatClampNeg = 0 from rfl, show (16 : Int32).toNatClampNeg = 16 from rfl, cpy0]
  exact hp_us x _ hb (by decide) rfl (fun j _ hj => stcLd _ _ _ _ hj)
theorem hp_cp2 (x : XW) {b : Nat} (hb : b < 10) (f : Nat → Int32) : upH (hp x) (16 * b + 2) (.inl (.int, 18, va_cpy (iA f) (iA (sVa (cSt x.1 b))) (0 : Int32).toNatClampNeg (0 : Int32).toNatClampNeg (18 : Int32).toNatClampNeg)) = hp (uC1 x b (uS2 (cSt x.1 b) (cpN 18 f (sVa (cSt x.1 b))))) := by
  rw [show (0 : Int32).toNatClampNeg = 0 from rfl, show (18 : Int32).toNatClampNeg = 18 from rfl, cpy0]
  exact hp_us x _ hb (by decide) rfl (fun j _ hj => stcVa _ _ _ _ hj)
def cpLg (σ τ : SS) : SS := uS6 (uS5 (uS4 σ (cpN 16 (sLr τ) (sLr σ))) (cpN 16 (sLd τ) (sLd σ))) (upd (upd (sLs σ) 0 (sLs τ 0)) 1 (sLs τ 1))
set_option maxRecDepth 100000 in
set_option maxHeartbeats 4000000 in
theorem ct_X2_copyFrom (x : XW) (b b2 : Nat) (hb : b < 10) (hb2 : b2 < 10) (hne : b2 ≠ b) : CT MX2_copyFrom 1 0 [.ref (16 * b + 4), .ref (16 * b2 + 4)] (hp x) (Det (.inl none) (hp (uC1 x b (cpLg (cSt x.1 b) (cSt x.1 b2))))) := by
  refine ct_of (by decide +kernel) (by decide) rfl (k := 0) (ls := [some (.ref (16 * b + 4)), some (.ref (16 * b2 + 4))]) rfl (Nat.le_of_ble_eq_true rfl) ?_
  refine pw_aload_n (tk tkX2_copyFrom 0 rfl) rfl ?_
  refine g2_rules (by first | assumption | decide | omega) (tk tkX2_copyFrom 1 rfl) fkX2_9 ?_
  refine pw_iconst (v := 0) (tk tkX2_copyFrom 2 rfl) (by decide) ?_
  refine pw_aload_n (tk tkX2_copyFrom 3 rfl) rfl ?_
  refine g2_rules (by first | assumption | decide | omega) (tk tkX2_copyFrom 4 rfl) fkX2_9 ?_
  refine pw_iconst (v := 0) (tk tkX2_copyFrom 5 rfl) (by decide) ?_
  refine pw_bipush (v := 16) (tk tkX2_copyFrom 6 rfl) (by decide) ?_
  refine pw_copy (a := 16 * b2 + 5) (b := 16 * b + 5) (tk tkX2_copyFrom 7 rfl) mkX2_18 na_copy st_copy in_Sys (hp_st _ hb2 (by decide : 5 < 16)) (hp_st _ hb (by decide : 5 < 16)) (by decide) (by decide) (by decide) (Nat.le_of_ble_eq_true rfl) (Nat.le_of_ble_eq_true rfl) (fun i => ⟨_, rfl⟩) (by decide) (Nat.le_of_ble_eq_true rfl) ?_
  rw [hp_cp5 x hb]
  refine pw_aload_n (tk tkX2_copyFrom 8 rfl) rfl ?_
  refine g2_depths (by first | assumption | decide | omega) (tk tkX2_copyFrom 9 rfl) fkX2_15 ?_
  refine pw_iconst (v := 0) (tk tkX2_copyFrom 10 rfl) (by decide) ?_
  refine pw_aload_n (tk tkX2_copyFrom 11 rfl) rfl ?_
  refine g2_depths (by first | assumption | decide | omega) (tk tkX2_copyFrom 12 rfl) fkX2_15 ?_
  refine pw_iconst (v := 0) (tk tkX2_copyFrom 13 rfl) (by decide) ?_
  refine pw_bipush (v := 16) (tk tkX2_copyFrom 14 rfl) (by decide) ?_
  refine pw_copy (a := 16 * b2 + 6) (b := 16 * b + 6) (tk tkX2_copyFrom 15 rfl) mkX2_18 na_copy st_copy in_Sys (hp_st _ hb2 (by decide : 6 < 16)) (hp_st _ hb (by decide : 6 < 16)) (by decide) (by decide) (by decide) (Nat.le_of_ble_eq_true rfl) (Nat.le_of_ble_eq_true rfl) (fun i => ⟨_, rfl⟩) (by decide) (Nat.le_of_ble_eq_true rfl) ?_
  rw [hp_cp6 _ hb, cSt_n _ _ hne, cSt_u, uC1_uC1]
  refine pw_aload_n (tk tkX2_copyFrom 16 rfl) rfl ?_
  refine pw_aload_n (tk tkX2_copyFrom 17 rfl) rfl ?_
  refine g2_size (by first | assumption | decide | omega) (tk tkX2_copyFrom 18 rfl) fkX2_24 ?_
  rw [cSt_n _ _ hne]
  refine p2_size (by first | assumption | decide | omega) (tk tkX2_copyFrom 19 rfl) fkX2_24 ?_
  rw [cSt_u, uC1_uC1]
  refine pw_aload_n (tk tkX2_copyFrom 20 rfl) rfl ?_
  refine pw_aload_n (tk tkX2_copyFrom 21 rfl) rfl ?_
  refine g2_latest (by first | assumption | decide | omega) (tk tkX2_copyFrom 22 rfl) fkX2_28 ?_
  rw [cSt_n _ _ hne]
  refine p2_latest (by first | assumption | decide | omega) (tk tkX2_copyFrom 23 rfl) fkX2_28 ?_
  rw [cSt_u, uC1_uC1]
  exact pw_return (tk tkX2_copyFrom 24 rfl) rfl (by decide) ⟨rfl, rfl⟩
set_option maxRecDepth 100000 in
set_option maxHeartbeats 4000000 in
theorem ct_X2_placeOf (x : XW) (b : Nat) (hb : b < 10) (v : Int32) : CT MX2_placeOf 1 0 [.ref (16 * b + 4), .int v] (hp x) (Det (.inl (some (.int (flm (sLs (cSt x.1 b) 1 - v) 16)))) (hp x)) := by
  refine ct_of (by decide +kernel) (by decide) rfl (k := 0) (ls := [some (.ref (16 * b + 4)), some (.int v)]) rfl (Nat.le_of_ble_eq_true rfl) ?_
  refine pw_aload_n (tk tkX2_placeOf 0 rfl) rfl ?_
  refine g2_latest (by first | assumption | decide | omega) (tk tkX2_placeOf 1 rfl) fkX2_28 ?_
  refine pw_iload_n (tk tkX2_placeOf 2 rfl) rfl ?_
  refine pw_isub (tk tkX2_placeOf 3 rfl) ?_
  refine pw_bipush (v := 16) (tk tkX2_placeOf 4 rfl) (by decide) ?_
  refine pw_cS (ct_J9_floorMod (hp x) _ 16 (by decide)) okJ9_floorMod_7cf53 (tk tkX2_placeOf 5 rfl) mkX2_31 stJ9_floorMod_7cf53 rfl rfl (by decide) (by decide) (Nat.le_of_ble_eq_true rfl) ?_
  exact pw_ireturn (tk tkX2_placeOf 6 rfl) rfl (by decide) rfl ⟨rfl, rfl⟩
def ntS (σ : SS) (la l : Nat) (v d : Int32) : SS := uS6 (uS5 (uS4 σ (upd (sLr σ) ((la + 1) % 16) v)) (upd (sLd σ) ((la + 1) % 16) d)) (upd (upd (sLs σ) 1 (nI ((la + 1) % 16))) 0 (nI (min (l + 1) 16)))
set_option maxRecDepth 100000 in
set_option maxHeartbeats 4000000 in
theorem ct_X2_note (x : XW) (b la l : Nat) (hb : b < 10) (h1 : sLs (cSt x.1 b) 1 = nI la) (hla : la < 16) (h0 : sLs (cSt x.1 b) 0 = nI l) (hl : l ≤ 16) (v w : Int32) : CT MX2_note 1 0 [.ref (16 * b + 4), .int v, .int w] (hp x) (Det (.inl none) (hp (uC1 x b (ntS (cSt x.1 b) la l v w)))) := by
  refine ct_of (by decide +kernel) (by decide) rfl (k := 0) (ls := [some (.ref (16 * b + 4)), some (.int v), some (.int w)]) rfl (Nat.le_of_ble_eq_true rfl) ?_
  refine pw_aload_n (tk tkX2_note 0 rfl) rfl ?_
  refine pw_aload_n (tk tkX2_note 1 rfl) rfl ?_
  refine g2_latest (by first | assumption | decide | omega) (tk tkX2_note 2 rfl) fkX2_28 ?_
  refine pw_iconst (v := 1) (tk tkX2_note 3 rfl) (by decide) ?_
  refine pw_iadd (tk tkX2_note 4 rfl) ?_
  refine pw_bipush (v := 16) (tk tkX2_note 5 rfl) (by decide) ?_
  refine pw_irem (tk tkX2_note 6 rfl) (by decide) ?_
  rw [h1, rem16 hla]
  refine p2_latest (by first | assumption | decide | omega) (tk tkX2_note 7 rfl) fkX2_28 ?_
  refine pw_aload_n (tk tkX2_note 8 rfl) rfl ?_
  refine g2_rules (by first | assumption | decide | omega) (tk tkX2_note 9 rfl) fkX2_9 ?_
  refine pw_aload_n (tk tkX2_note 10 rfl) rfl ?_
  refine g2_latest (by first | assumption | decide | omega) (tk tkX2_note 11 rfl) fkX2_28 ?_
  refine pw_iload_n (tk tkX2_note 12 rfl) rfl ?_
  refine as_lr_e (e := (la + 1) % 16) (by first | assumption | decide | omega) (tk tkX2_note 13 rfl) (by rw [cSt_u]; rfl) (by first | decide | omega) ?_
  rw [cSt_u, uC1_uC1]
  refine pw_aload_n (tk tkX2_note 14 rfl) rfl ?_
  refine g2_depths (by first | assumption | decide | omega) (tk tkX2_note 15 rfl) fkX2_15 ?_
  refine pw_aload_n (tk tkX2_note 16 rfl) rfl ?_
  refine g2_latest (by first | assumption | decide | omega) (tk tkX2_note 17 rfl) fkX2_28 ?_
  refine pw_iload_n (tk tkX2_note 18 rfl) rfl ?_
  refine as_ld_e (e := (la + 1) % 16) (by first | assumption | decide | omega) (tk tkX2_note 19 rfl) (by rw [cSt_u]; rfl) (by first | decide | omega) ?_
  rw [cSt_u, uC1_uC1]
  refine pw_aload_n (tk tkX2_note 20 rfl) rfl ?_
  refine pw_aload_n (tk tkX2_note 21 rfl) rfl ?_
  refine g2_size (by first | assumption | decide | omega) (tk tkX2_note 22 rfl) fkX2_24 ?_
  refine pw_iconst (v := 1) (tk tkX2_note 23 rfl) (by decide) ?_
  refine pw_iadd (tk tkX2_note 24 rfl) ?_
  refine pw_bipush (v := 16) (tk tkX2_note 25 rfl) (by decide) ?_
  refine pw_min (tk tkX2_note 26 rfl) mkX2_37 st_min in_Math co_min (by decide) (Nat.le_of_ble_eq_true rfl) ?_
  rw [cSt_u]
  rw [show ∀ f g, sLs (uS5 (uS4 (uS6 (cSt x.1 b) (upd (sLs (cSt x.1 b)) 1 (nI ((la + 1) % 16)))) f) g) 0 = nI l from fun _ _ => h0, mn16 ⟨l, by omega⟩]
  refine p2_size (by first | assumption | decide | omega) (tk tkX2_note 27 rfl) fkX2_24 ?_
  rw [cSt_u, uC1_uC1]
  exact pw_return (tk tkX2_note 28 rfl) rfl (by decide) ⟨rfl, rfl⟩
end
section
theorem sub_k (A B C D : Int32) (h : -D = B + -C) : A - D = A + B - C := by rw [Int32.sub_eq_add_neg, Int32.sub_eq_add_neg, Int32.add_assoc, h]
def ruN (u : Nat) (f g : Nat → Nat → Int32) : Nat → Nat → Int32 := fun i => if i < u then cp9 (f i) (g i) else g i
theorem ruN_0 (f g : Nat → Nat → Int32) : ruN 0 f g = g := by funext i; unfold ruN; rw [if_neg (by omega)]
theorem ruN_at (u : Nat) (f g : Nat → Nat → Int32) : ruN u f g u = g u := if_neg (by omega)
theorem ruN_s (u : Nat) (f g : Nat → Nat → Int32) : upR (ruN u f g) u (cp9 (f u) (g u)) = ruN (u + 1) f g := by
  funext j
  unfold ruN upR
  by_cases e : j = u
  · subst e; rw [if_pos rfl, if_pos (by omega)]
  · rw [if_neg e]
    dsimp only
    by_cases e2 : j < u
    · rw [if_pos e2, if_pos (by omega)]
    · rw [if_neg e2, if_neg (by omega)]
def cpA (σ τ : SS) (i : Nat) : SS := uS1 (uS2 σ (cpN 18 (sVa τ) (sVa σ))) (cpN i (sTh τ) (sTh σ))
def cpB (σ τ : SS) (i : Nat) : SS := uS3 (cpA σ τ 6) (ruN i (sRu τ) (sRu σ))
def cpS (u : Nat) (σ τ : SS) : SS := uS7 (cpLg (cpB σ τ u) τ) (upd (upd (upd (sSc σ) 0 (sSc τ 0)) 1 (sSc τ 1)) 2 (sSc τ 2))
/-- what a copy needs of its source -/
def WB (u : Nat) (σ : SS) : Prop := u ≤ 8 ∧ sSc σ 0 = nI u ∧ (∀ j, j < 6 → sTh σ j = 0 ∨ sTh σ j = 1) ∧ ∀ i, i < u → sRu σ i 7 = 0 ∨ sRu σ i 7 = 1
set_option maxRecDepth 100000 in
set_option maxHeartbeats 4000000 in
theorem ct_X4_copyFrom (x : XW) (b b2 u : Nat) (hb : b < 10) (hb2 : b2 < 10) (hne : b2 ≠ b) (hw : WB u (cSt x.1 b2)) : CT MX4_copyFrom 2 0 [.ref (16 * b), .ref (16 * b2)] (hp x) (Det (.inl none) (hp (uC1 x b (cpS u (cSt x.1 b) (cSt x.1 b2))))) := by
  refine ct_of (by decide +kernel) (by decide) rfl (k := 1) (ls := [some (.ref (16 * b)), some (.ref (16 * b2)), none]) rfl (Nat.le_of_ble_eq_true rfl) ?_
  obtain ⟨hu8, hu, hth, hm⟩ := hw
  have L2 : ∀ k i, i + k = u → PW MX4_copyFrom 2 0 43 [some (.ref (16 * b)), some (.ref (16 * b2)), some (.int (nI i))] [] (hp (uC1 x b (cpB (cSt x.1 b) (cSt x.1 b2) i))) (Det (.inl none) (hp (uC1 x b (cpS u (cSt x.1 b) (cSt x.1 b2))))) := by
    intro k
    induction k with
    | zero =>
      intro i hi
      obtain rfl : i = u := by omega
      refine pw_iload_n (tk tkX4_copyFrom 25 rfl) rfl ?_
      refine pw_aload_n (tk tkX4_copyFrom 26 rfl) rfl ?_
      refine g4_rulesUsed (by first | assumption | decide | omega) (tk tkX4_copyFrom 27 rfl) fkX4_43 ?_
      rw [cSt_n _ _ hne, hu]
      refine pw_icmp_ge (tgt := 72) (tk tkX4_copyFrom 28 rfl) (by decide) (fun c48 => ?_) (fun c48 => absurd (Int32.le_refl _) c48)
      refine pw_aload_n (tk tkX4_copyFrom 40 rfl) rfl ?_
      refine g4_log (by first | assumption | decide | omega) (tk tkX4_copyFrom 41 rfl) fkX4_28 ?_
      refine pw_aload_n (tk tkX4_copyFrom 42 rfl) rfl ?_
      refine g4_log (by first | assumption | decide | omega) (tk tkX4_copyFrom 43 rfl) fkX4_28 ?_
      refine pw_cV0 (ct_X2_copyFrom _ b b2 hb hb2 hne) okX2_copyFrom (tk tkX4_copyFrom 44 rfl) mkX4_50 imX2_copyFrom seX2_copyFrom (hp_st _ (by first | assumption | decide | omega) (by decide : 4 < 16)) rfl rfl rfl (by decide) (by decide) (Nat.le_of_ble_eq_true rfl) ?_
      rw [cSt_n _ _ hne, cSt_u, uC1_uC1]
      refine pw_aload_n (tk tkX4_copyFrom 45 rfl) rfl ?_
      refine pw_aload_n (tk tkX4_copyFrom 46 rfl) rfl ?_
      refine g4_rulesUsed (by first | assumption | decide | omega) (tk tkX4_copyFrom 47 rfl) fkX4_43 ?_
      rw [cSt_n _ _ hne]
      refine p4_rulesUsed (by first | assumption | decide | omega) (tk tkX4_copyFrom 48 rfl) fkX4_43 ?_
      rw [cSt_u, uC1_uC1]
      refine pw_aload_n (tk tkX4_copyFrom 49 rfl) rfl ?_
      refine pw_aload_n (tk tkX4_copyFrom 50 rfl) rfl ?_
      refine g4_depth (by first | assumption | decide | omega) (tk tkX4_copyFrom 51 rfl) fkX4_32 ?_
      rw [cSt_n _ _ hne]
      refine p4_depth (by first | assumption | decide | omega) (tk tkX4_copyFrom 52 rfl) fkX4_32 ?_
      rw [cSt_u, uC1_uC1]
      refine pw_aload_n (tk tkX4_copyFrom 53 rfl) rfl ?_
      refine pw_aload_n (tk tkX4_copyFrom 54 rfl) rfl ?_
      refine g4_events (by first | assumption | decide | omega) (tk tkX4_copyFrom 55 rfl) fkX4_53 ?_
      rw [cSt_n _ _ hne]
      refine p4_events (by first | assumption | decide | omega) (tk tkX4_copyFrom 56 rfl) fkX4_53 ?_
      rw [cSt_u, uC1_uC1]
      exact pw_return (tk tkX4_copyFrom 57 rfl) rfl (by decide) ⟨rfl, rfl⟩
    | succ k ih =>
      intro i hi
      refine pw_iload_n (tk tkX4_copyFrom 25 rfl) rfl ?_
      refine pw_aload_n (tk tkX4_copyFrom 26 rfl) rfl ?_
      refine g4_rulesUsed (by first | assumption | decide | omega) (tk tkX4_copyFrom 27 rfl) fkX4_43 ?_
      rw [cSt_n _ _ hne, hu]
      refine pw_icmp_ge (tgt := 72) (tk tkX4_copyFrom 28 rfl) (by decide) (fun c48 => absurd c48 (nI_ge (by omega) (by omega))) (fun c48 => ?_)
      refine pw_aload_n (tk tkX4_copyFrom 29 rfl) rfl ?_
      refine g4_rules (by first | assumption | decide | omega) (tk tkX4_copyFrom 30 rfl) fkX4_21 ?_
      refine pw_iload_n (tk tkX4_copyFrom 31 rfl) rfl ?_
      refine al_rules_e (e := i) (by first | assumption | decide | omega) (tk tkX4_copyFrom 32 rfl) (by first | rfl | simp only [lit_nI, nI_add, pk_mul]) (by first | decide | omega) ?_
      refine pw_aload_n (tk tkX4_copyFrom 33 rfl) rfl ?_
      refine g4_rules (by first | assumption | decide | omega) (tk tkX4_copyFrom 34 rfl) fkX4_21 ?_
      refine pw_iload_n (tk tkX4_copyFrom 35 rfl) rfl ?_
      refine al_rules_e (e := i) (by first | assumption | decide | omega) (tk tkX4_copyFrom 36 rfl) (by first | rfl | simp only [lit_nI, nI_add, pk_mul]) (by first | decide | omega) ?_
      refine pw_cV0 (ct_X3_copyFrom _ b i b2 i hb (by omega) hb2 (by omega) (.inl (Ne.symm hne)) (by rw [cSt_n _ _ hne]; exact hm i (by omega))) okX3_copyFrom (tk tkX4_copyFrom 37 rfl) mkX4_46 imX3_copyFrom seX3_copyFrom ((hp_st _ (by first | assumption | decide | omega) (by omega)).trans (stc_ru _ _ _ (by first | assumption | decide | omega))) rfl rfl rfl (by decide) (by decide) (Nat.le_of_ble_eq_true rfl) ?_
      refine pw_inc2 (tk tkX4_copyFrom 38 rfl) rfl (by decide) (nI_1 i) ?_
      refine pw_goto (tgt := 43) (tk tkX4_copyFrom 39 rfl) (by decide) ?_
      have e : uRu (uC1 x b (cpB (cSt x.1 b) (cSt x.1 b2) i)) b i (cp9 (sRu (cSt (uC1 x b (cpB (cSt x.1 b) (cSt x.1 b2) i)).1 b2) i) (sRu (cSt (uC1 x b (cpB (cSt x.1 b) (cSt x.1 b2) i)).1 b) i)) = uC1 x b (cpB (cSt x.1 b) (cSt x.1 b2) (i + 1)) := by
        unfold uRu
        rw [cSt_u, cSt_n _ _ hne, uC1_uC1]
        show uC1 x b (uS3 (cpA (cSt x.1 b) (cSt x.1 b2) 6) (upR (ruN i (sRu (cSt x.1 b2)) (sRu (cSt x.1 b))) i (cp9 (sRu (cSt x.1 b2) i) (ruN i (sRu (cSt x.1 b2)) (sRu (cSt x.1 b)) i)))) = _
        rw [ruN_at, ruN_s]; rfl
      rw [e]
      exact ih (i + 1) (by omega)
  have L1 : ∀ k i, i + k = 6 → PW MX4_copyFrom 2 0 17 [some (.ref (16 * b)), some (.ref (16 * b2)), some (.int (nI i))] [] (hp (uC1 x b (cpA (cSt x.1 b) (cSt x.1 b2) i))) (Det (.inl none) (hp (uC1 x b (cpS u (cSt x.1 b) (cSt x.1 b2))))) := by
    intro k
    induction k with
    | zero =>
      intro i hi
      obtain rfl : i = 6 := by omega
      refine pw_iload_n (tk tkX4_copyFrom 10 rfl) rfl ?_
      refine pw_bipush (v := 6) (tk tkX4_copyFrom 11 rfl) (by decide) ?_
      refine pw_icmp_ge (tgt := 41) (tk tkX4_copyFrom 12 rfl) (by decide) (fun c20 => ?_) (fun c20 => absurd (Int32.le_refl _) c20)
      refine pw_iconst (v := 0) (tk tkX4_copyFrom 23 rfl) (by decide) ?_
      refine pw_ist2 (tk tkX4_copyFrom 24 rfl) rfl (by decide) ?_
      rw [show cpA (cSt x.1 b) (cSt x.1 b2) 6 = cpB (cSt x.1 b) (cSt x.1 b2) 0 from by unfold cpB; rw [ruN_0]; rfl]
      exact L2 u 0 (by omega)
    | succ k ih =>
      intro i hi
      refine pw_iload_n (tk tkX4_copyFrom 10 rfl) rfl ?_
      refine pw_bipush (v := 6) (tk tkX4_copyFrom 11 rfl) (by decide) ?_
      refine pw_icmp_ge (tgt := 41) (tk tkX4_copyFrom 12 rfl) (by decide) (fun c20 => absurd c20 (nI_ge (b := 6) (by omega) (by decide))) (fun c20 => ?_)
      refine pw_aload_n (tk tkX4_copyFrom 13 rfl) rfl ?_
      refine g4_there (by first | assumption | decide | omega) (tk tkX4_copyFrom 14 rfl) fkX4_9 ?_
      refine pw_iload_n (tk tkX4_copyFrom 15 rfl) rfl ?_
      refine pw_aload_n (tk tkX4_copyFrom 16 rfl) rfl ?_
      refine g4_there (by first | assumption | decide | omega) (tk tkX4_copyFrom 17 rfl) fkX4_9 ?_
      refine pw_iload_n (tk tkX4_copyFrom 18 rfl) rfl ?_
      refine al_there_e (e := i) (by first | assumption | decide | omega) (tk tkX4_copyFrom 19 rfl) (by first | rfl | simp only [lit_nI, nI_add, pk_mul]) (by first | decide | omega) ?_
      refine as_there_e (e := i) (by first | assumption | decide | omega) (tk tkX4_copyFrom 20 rfl) (by first | rfl | simp only [lit_nI, nI_add, pk_mul]) (by first | decide | omega) (nar01 (by first | (rw [cSt_n _ _ hne]; exact hth i (by omega)) | exact hth i (by omega))).1 ?_
      refine pw_inc2 (tk tkX4_copyFrom 21 rfl) rfl (by decide) (nI_1 i) ?_
      refine pw_goto (tgt := 17) (tk tkX4_copyFrom 22 rfl) (by decide) ?_
      rw [cSt_u, cSt_n _ _ hne, uC1_uC1]
      rw [show uS1 (cpA (cSt x.1 b) (cSt x.1 b2) i) (upd (sTh (cpA (cSt x.1 b) (cSt x.1 b2) i)) i (sTh (cSt x.1 b2) i)) = cpA (cSt x.1 b) (cSt x.1 b2) (i + 1) from by unfold cpA; rw [← cpN_s i]; rfl]
      exact ih (i + 1) (by omega)
  refine pw_aload_n (tk tkX4_copyFrom 0 rfl) rfl ?_
  refine g4_values (by first | assumption | decide | omega) (tk tkX4_copyFrom 1 rfl) fkX4_15 ?_
  refine pw_iconst (v := 0) (tk tkX4_copyFrom 2 rfl) (by decide) ?_
  refine pw_aload_n (tk tkX4_copyFrom 3 rfl) rfl ?_
  refine g4_values (by first | assumption | decide | omega) (tk tkX4_copyFrom 4 rfl) fkX4_15 ?_
  refine pw_iconst (v := 0) (tk tkX4_copyFrom 5 rfl) (by decide) ?_
  refine pw_bipush (v := 18) (tk tkX4_copyFrom 6 rfl) (by decide) ?_
  refine pw_copy (a := 16 * b2 + 2) (b := 16 * b + 2) (tk tkX4_copyFrom 7 rfl) mkX4_37 na_copy st_copy in_Sys (hp_st _ hb2 (by decide : 2 < 16)) (hp_st _ hb (by decide : 2 < 16)) (by decide) (by decide) (by decide) (Nat.le_of_ble_eq_true rfl) (Nat.le_of_ble_eq_true rfl) (fun i => ⟨_, rfl⟩) (by decide) (Nat.le_of_ble_eq_true rfl) ?_
  rw [hp_cp2 x hb]
  refine pw_iconst (v := 0) (tk tkX4_copyFrom 8 rfl) (by decide) ?_
  refine pw_ist2 (tk tkX4_copyFrom 9 rfl) rfl (by decide) ?_
  rw [show uS2 (cSt x.1 b) (cpN 18 (sVa (cSt x.1 b2)) (sVa (cSt x.1 b))) = cpA (cSt x.1 b) (cSt x.1 b2) 0 from by unfold cpA; rw [cpN_0]; rfl]
  exact L1 6 0 (by omega)
set_option maxRecDepth 100000 in
set_option maxHeartbeats 4000000 in
theorem ct_X4_isThere (x : XW) (b : Nat) (hb : b < 10) (v : Int32) : CT MX4_isThere 1 0 [.ref (16 * b), .int v] (hp x) (Det (.inl (some (.int (bI (inR v 0 5 && decide (¬ sTh (cSt x.1 b) v.toNatClampNeg = 0)))))) (hp x)) := by
  refine ct_of (by decide +kernel) (by decide) rfl (k := 0) (ls := [some (.ref (16 * b)), some (.int v)]) rfl (Nat.le_of_ble_eq_true rfl) ?_
  refine pw_iload_n (tk tkX4_isThere 0 rfl) rfl ?_
  refine pw_cN (ct_X7_isRow _ _) rfl okX7_isRow (tk tkX4_isThere 1 rfl) mkX4_56 stX7_isRow rfl rfl (by decide) (by decide) (Nat.le_of_ble_eq_true rfl) ?_
  refine pw_ifb (tgt := 20) (tk tkX4_isThere 2 rfl) (by decide) (fun c4 => ?_) (fun c4 => ?_)
  · refine pw_iconst (v := 0) (tk tkX4_isThere 10 rfl) (by decide) ?_
    exact pw_ireturn (tk tkX4_isThere 11 rfl) rfl (by decide) (by first | rfl | exact nar_bI _) ⟨by simp [bI, c4], rfl⟩
  · refine pw_aload_n (tk tkX4_isThere 3 rfl) rfl ?_
    refine g4_there (by first | assumption | decide | omega) (tk tkX4_isThere 4 rfl) fkX4_9 ?_
    refine pw_iload_n (tk tkX4_isThere 5 rfl) rfl ?_
    refine al_there (by first | assumption | decide | omega) (tk tkX4_isThere 6 rfl) (by obtain ⟨r1, hr, er, er2⟩ := inR_row c4; rw [er]; exact nI_in hr (by decide)) ?_
    refine pw_if_eq (tgt := 20) (tk tkX4_isThere 7 rfl) (by decide) (fun c13 => ?_) (fun c13 => ?_)
    · refine pw_iconst (v := 0) (tk tkX4_isThere 10 rfl) (by decide) ?_
      exact pw_ireturn (tk tkX4_isThere 11 rfl) rfl (by decide) (by first | rfl | exact nar_bI _) ⟨by simp [bI, c4, c13], rfl⟩
    · refine pw_iconst (v := 1) (tk tkX4_isThere 8 rfl) (by decide) ?_
      refine pw_goto (tgt := 21) (tk tkX4_isThere 9 rfl) (by decide) ?_
      exact pw_ireturn (tk tkX4_isThere 11 rfl) rfl (by decide) (by first | rfl | exact nar_bI _) ⟨by simp [bI, c4, c13], rfl⟩
theorem smN_s0 (f : Nat → Int32) {k : Nat} (h : f k = 0) : smN f (k + 1) = smN f k := by show smN f k + f k = _; rw [h, Int32.add_zero]
theorem smN_s1 (f : Nat → Int32) {k : Nat} (h : f k = 1) : smN f (k + 1) = smN f k + 1 := by show smN f k + f k = _; rw [h]
set_option maxRecDepth 100000 in
set_option maxHeartbeats 4000000 in
theorem ct_X4_rowsThere (x : XW) (b : Nat) (hb : b < 10) (hth : ∀ j, j < 6 → sTh (cSt x.1 b) j = 0 ∨ sTh (cSt x.1 b) j = 1) : CT MX4_rowsThere 0 0 [.ref (16 * b)] (hp x) (Det (.inl (some (.int (smN (sTh (cSt x.1 b)) 6)))) (hp x)) := by
  refine ct_of (by decide +kernel) (by decide) rfl (k := 2) (ls := [some (.ref (16 * b)), none, none]) rfl (Nat.le_of_ble_eq_true rfl) ?_
  have L : ∀ k i, i + k = 6 → PW MX4_rowsThere 0 0 4 [some (.ref (16 * b)), some (.int (smN (sTh (cSt x.1 b)) i)), some (.int (nI i))] [] (hp x) (Det (.inl (some (.int (smN (sTh (cSt x.1 b)) 6)))) (hp x)) := by
    intro k
    induction k with
    | zero =>
      intro i hi 
      have ei : i = 6 := by omega
      rw [ei]
      refine pw_iload_n (tk tkX4_rowsThere 4 rfl) rfl ?_
      refine pw_bipush (v := 6) (tk tkX4_rowsThere 5 rfl) (by decide) ?_
      refine pw_icmp_ge (tgt := 28) (tk tkX4_rowsThere 6 rfl) (by decide) (fun c7 => ?_) (fun c7 => absurd (Int32.le_refl _) c7)
      refine pw_iload_n (tk tkX4_rowsThere 15 rfl) rfl ?_
      exact pw_ireturn (tk tkX4_rowsThere 16 rfl) rfl (by decide) rfl ⟨rfl, rfl⟩
    | succ k ih =>
      intro i hi 
      refine pw_iload_n (tk tkX4_rowsThere 4 rfl) rfl ?_
      refine pw_bipush (v := 6) (tk tkX4_rowsThere 5 rfl) (by decide) ?_
      refine pw_icmp_ge (tgt := 28) (tk tkX4_rowsThere 6 rfl) (by decide) (fun c7 => absurd c7 (nI_ge (b := 6) (by omega) (by decide))) (fun c7 => ?_)
      refine pw_aload_n (tk tkX4_rowsThere 7 rfl) rfl ?_
      refine g4_there (by first | assumption | decide | omega) (tk tkX4_rowsThere 8 rfl) fkX4_9 ?_
      refine pw_iload_n (tk tkX4_rowsThere 9 rfl) rfl ?_
      refine al_there_e (e := i) (by first | assumption | decide | omega) (tk tkX4_rowsThere 10 rfl) (by first | rfl | simp only [lit_nI, nI_add, pk_mul]) (by first | decide | omega) ?_
      refine pw_if_eq (tgt := 22) (tk tkX4_rowsThere 11 rfl) (by decide) (fun c16 => ?_) (fun c16 => ?_)
      · refine pw_inc2 (tk tkX4_rowsThere 13 rfl) rfl (by decide) (nI_1 i) ?_
        refine pw_goto (tgt := 4) (tk tkX4_rowsThere 14 rfl) (by decide) ?_
        rw [← smN_s0 _ c16]
        exact ih (i + 1) (by omega)
      · refine pw_inc1 (tk tkX4_rowsThere 12 rfl) rfl (by decide) (show _ + Int32.ofInt (1) = _ + 1 from rfl) ?_
        refine pw_inc2 (tk tkX4_rowsThere 13 rfl) rfl (by decide) (nI_1 i) ?_
        refine pw_goto (tgt := 4) (tk tkX4_rowsThere 14 rfl) (by decide) ?_
        rw [← smN_s1 _ ((hth i (by omega)).resolve_left c16)]
        exact ih (i + 1) (by omega)
  refine pw_iconst (v := 0) (tk tkX4_rowsThere 0 rfl) (by decide) ?_
  refine pw_ist1 (tk tkX4_rowsThere 1 rfl) rfl (by decide) ?_
  refine pw_iconst (v := 0) (tk tkX4_rowsThere 2 rfl) (by decide) ?_
  refine pw_ist2 (tk tkX4_rowsThere 3 rfl) rfl (by decide) ?_
  exact L 6 0 (by omega)
def kpX (x : XW) (u b nx k : Nat) : XW := uC7 (uC1 x (2 + nx) (cpS u (cSt x.1 (2 + nx)) (cSt x.1 b))) (upd (upd (cHi x.1) 1 (nI ((nx + 1) % 6))) 0 (nI (min (k + 1) 6)))
set_option maxRecDepth 100000 in
set_option maxHeartbeats 4000000 in
theorem ct_X1_keep (x : XW) (u b nx k : Nat) (hb : b < 2) (hn : nx < 6) (hk : k ≤ 6) (h0 : cHi x.1 0 = nI k) (h1 : cHi x.1 1 = nI nx) (hw : WB u (cSt x.1 b)) : CT MX1_keep 3 0 [.ref 167, .ref (16 * b)] (hp x) (Det (.inl none) (hp (kpX x u b nx k))) := by
  refine ct_of (by decide +kernel) (by decide) rfl (k := 0) (ls := [some (.ref 167), some (.ref (16 * b))]) rfl (Nat.le_of_ble_eq_true rfl) ?_
  refine pw_aload_n (tk tkX1_keep 0 rfl) rfl ?_
  refine g1_states (tk tkX1_keep 1 rfl) fkX1_11 ?_
  refine pw_aload_n (tk tkX1_keep 2 rfl) rfl ?_
  refine g1_next (tk tkX1_keep 3 rfl) fkX1_18 ?_
  refine al_hstates_e (e := nx) (tk tkX1_keep 4 rfl) h1 (by first | decide | omega) ?_
  refine pw_aload_n (tk tkX1_keep 5 rfl) rfl ?_
  refine pw_cV0 (ct_X4_copyFrom x (2 + nx) b u (by omega) (by omega) (by omega) hw) okX4_copyFrom (tk tkX1_keep 6 rfl) mkX1_22 imX4_copyFrom seX4_copyFrom (hp_st _ (by omega : 2 + nx < 10) (by decide : 0 < 16)) rfl rfl rfl (by decide) (by decide) (Nat.le_of_ble_eq_true rfl) ?_
  refine pw_aload_n (tk tkX1_keep 7 rfl) rfl ?_
  refine pw_aload_n (tk tkX1_keep 8 rfl) rfl ?_
  refine g1_next (tk tkX1_keep 9 rfl) fkX1_18 ?_
  refine pw_iconst (v := 1) (tk tkX1_keep 10 rfl) (by decide) ?_
  refine pw_iadd (tk tkX1_keep 11 rfl) ?_
  refine pw_bipush (v := 6) (tk tkX1_keep 12 rfl) (by decide) ?_
  refine pw_irem (tk tkX1_keep 13 rfl) (by decide) ?_
  rw [show ∀ σ, cHi (uC1 x (2 + nx) σ).1 1 = nI nx from fun _ => h1, rem6 hn]
  refine p1_next (tk tkX1_keep 14 rfl) fkX1_18 ?_
  refine pw_aload_n (tk tkX1_keep 15 rfl) rfl ?_
  refine pw_aload_n (tk tkX1_keep 16 rfl) rfl ?_
  refine g1_size (tk tkX1_keep 17 rfl) fkX1_26 ?_
  refine pw_iconst (v := 1) (tk tkX1_keep 18 rfl) (by decide) ?_
  refine pw_iadd (tk tkX1_keep 19 rfl) ?_
  refine pw_bipush (v := 6) (tk tkX1_keep 20 rfl) (by decide) ?_
  refine pw_min (tk tkX1_keep 21 rfl) mkX1_29 st_min in_Math co_min (by decide) (Nat.le_of_ble_eq_true rfl) ?_
  rw [show ∀ σ v, cHi (uC7 (uC1 x (2 + nx) σ) (upd (cHi (uC1 x (2 + nx) σ).1) 1 v)).1 0 = nI k from fun _ _ => h0, mn6 ⟨k, by omega⟩]
  refine p1_size (tk tkX1_keep 22 rfl) fkX1_26 ?_
  exact pw_return (tk tkX1_keep 23 rfl) rfl (by decide) ⟨rfl, rfl⟩
def tbX (x : XW) (u b nx k : Nat) : XW := uC7 (uC1 x b (cpS u (cSt x.1 b) (cSt x.1 (2 + (nx + 5) % 6)))) (upd (upd (cHi x.1) 1 (nI ((nx + 5) % 6))) 0 (nI (k - 1)))
set_option maxRecDepth 100000 in
set_option maxHeartbeats 4000000 in
theorem ct_X1_takeBack (x : XW) (u b nx k : Nat) (hb : b < 2) (hn : nx < 6) (h6 : k ≤ 6) (hk : 0 < k) (h0 : cHi x.1 0 = nI k) (h1 : cHi x.1 1 = nI nx) (hw : WB u (cSt x.1 (2 + (nx + 5) % 6))) : CT MX1_takeBack 3 0 [.ref 167, .ref (16 * b)] (hp x) (Det (.inl none) (hp (tbX x u b nx k))) := by
  refine ct_of (by decide +kernel) (by decide) rfl (k := 0) (ls := [some (.ref 167), some (.ref (16 * b))]) rfl (Nat.le_of_ble_eq_true rfl) ?_
  refine pw_aload_n (tk tkX1_takeBack 0 rfl) rfl ?_
  refine g1_size (tk tkX1_takeBack 1 rfl) fkX1_26 ?_
  rw [h0]
  refine pw_if_le (tgt := 45) (tk tkX1_takeBack 2 rfl) (by decide) (fun c4 => absurd c4 (nI_nle hk (by omega))) (fun c4 => ?_)
  refine pw_aload_n (tk tkX1_takeBack 3 rfl) rfl ?_
  refine pw_aload_n (tk tkX1_takeBack 4 rfl) rfl ?_
  refine g1_next (tk tkX1_takeBack 5 rfl) fkX1_18 ?_
  refine pw_iconst (v := 1) (tk tkX1_takeBack 6 rfl) (by decide) ?_
  refine pw_isub (tk tkX1_takeBack 7 rfl) ?_
  refine pw_bipush (v := 6) (tk tkX1_takeBack 8 rfl) (by decide) ?_
  refine pw_cS (ct_J9_floorMod _ _ 6 (by decide)) okJ9_floorMod_7cf53 (tk tkX1_takeBack 9 rfl) mkX1_35 stJ9_floorMod_7cf53 rfl rfl (by decide) (by decide) (Nat.le_of_ble_eq_true rfl) ?_
  rw [h1, fl6 (nx + 5) (by omega) (by rw [show nI (nx + 5) = nI nx + 5 from (nI_add nx 5).symm]; exact sub_k _ _ _ _ (by decide))]
  refine p1_next (tk tkX1_takeBack 10 rfl) fkX1_18 ?_
  refine pw_aload_n (tk tkX1_takeBack 11 rfl) rfl ?_
  refine pw_aload_n (tk tkX1_takeBack 12 rfl) rfl ?_
  refine g1_states (tk tkX1_takeBack 13 rfl) fkX1_11 ?_
  refine pw_aload_n (tk tkX1_takeBack 14 rfl) rfl ?_
  refine g1_next (tk tkX1_takeBack 15 rfl) fkX1_18 ?_
  refine al_hstates_e (e := (nx + 5) % 6) (tk tkX1_takeBack 16 rfl) rfl (by first | decide | omega) ?_
  refine pw_cV0 (ct_X4_copyFrom (uC7 x (upd (cHi x.1) 1 (nI ((nx + 5) % 6)))) b (2 + (nx + 5) % 6) u (by omega) (by omega) (by omega) hw) okX4_copyFrom (tk tkX1_takeBack 17 rfl) mkX1_22 imX4_copyFrom seX4_copyFrom (hp_st _ (by omega : b < 10) (by decide : 0 < 16)) rfl rfl rfl (by decide) (by decide) (Nat.le_of_ble_eq_true rfl) ?_
  refine pw_aload_n (tk tkX1_takeBack 18 rfl) rfl ?_
  refine pw_dup (tk tkX1_takeBack 19 rfl) rfl ?_
  refine g1_size (tk tkX1_takeBack 20 rfl) fkX1_26 ?_
  refine pw_iconst (v := 1) (tk tkX1_takeBack 21 rfl) (by decide) ?_
  refine pw_isub (tk tkX1_takeBack 22 rfl) ?_
  rw [show ∀ σ, cHi (uC1 (uC7 x (upd (cHi x.1) 1 (nI ((nx + 5) % 6)))) b σ).1 0 = nI k from fun _ => h0, show nI k - 1 = nI (k - 1) from pk_sub (b := 1) (by omega)]
  refine p1_size (tk tkX1_takeBack 23 rfl) fkX1_26 ?_
  exact pw_return (tk tkX1_takeBack 24 rfl) rfl (by decide) ⟨rfl, rfl⟩
end
section
abbrev LL : Type := List (Int32 × Int32)
/-- the class's log, as a list, the latest first -/
def LR (σ : SS) (l : LL) : Prop := l.length ≤ 16 ∧ sLs σ 0 = nI l.length ∧ ∃ la, la < 16 ∧ sLs σ 1 = nI la ∧ ∀ k p, l[k]? = some p → sLr σ ((la + 16 - k) % 16) = p.1 ∧ sLd σ ((la + 16 - k) % 16) = p.2
theorem qlt {l : LL} {k : Nat} {p : Int32 × Int32} (h : l[k]? = some p) : k < l.length := (List.getElem?_eq_some_iff.mp h).1
theorem drop_q {l : LL} {k : Nat} {p : Int32 × Int32} (h : l[k]? = some p) : l.drop k = p :: l.drop (k + 1) := by
  obtain ⟨h1, h2⟩ := List.getElem?_eq_some_iff.mp h
  rw [← h2]; exact List.drop_eq_getElem_cons h1
theorem take16 {p q : Int32 × Int32} {l : LL} {k : Nat} (h : ((p :: l).take 16)[k]? = some q) : k < 16 ∧ ((k = 0 ∧ q = p) ∨ ∃ j, k = j + 1 ∧ l[j]? = some q) := by
  rw [List.getElem?_take] at h
  by_cases hk : k < 16
  · rw [if_pos hk] at h
    refine ⟨hk, ?_⟩
    cases k with
    | zero => rw [List.getElem?_cons_zero] at h; cases h; exact .inl ⟨rfl, rfl⟩
    | succ j => rw [List.getElem?_cons_succ] at h; exact .inr ⟨j, rfl, h⟩
  · rw [if_neg hk] at h; cases h
theorem take16_len (p : Int32 × Int32) (l : LL) : ((p :: l).take 16).length = min (l.length + 1) 16 := by
  rw [List.length_take, List.length_cons]; exact Nat.min_comm _ _
theorem LR_note {σ : SS} {l : LL} {la : Nat} (hl : l.length ≤ 16) (ha : la < 16) (hk : ∀ k p, l[k]? = some p → sLr σ ((la + 16 - k) % 16) = p.1 ∧ sLd σ ((la + 16 - k) % 16) = p.2) (v d : Int32) : LR (ntS σ la l.length v d) (((v, d) :: l).take 16) := by
  have h4 : (la + 1) % 16 < 16 := by omega
  refine ⟨by rw [take16_len]; omega, by rw [take16_len]; rfl, (la + 1) % 16, h4, rfl, fun k q h => ?_⟩
  obtain ⟨h1, ⟨h2, h3⟩ | ⟨j, h2, h3⟩⟩ := take16 h
  · subst h2; subst h3
    rw [show ((la + 1) % 16 + 16 - 0) % 16 = (la + 1) % 16 by omega]
    exact ⟨upd_at _ _ _, upd_at _ _ _⟩
  · subst h2
    obtain ⟨a, b⟩ := hk j q h3
    have e : ((la + 1) % 16 + 16 - (j + 1)) % 16 = (la + 16 - j) % 16 := by omega
    have n : (la + 16 - j) % 16 ≠ (la + 1) % 16 := by omega
    rw [e]
    exact ⟨(upd_nt _ _ n).trans a, (upd_nt _ _ n).trans b⟩
def rnm (rl : Nat) (v : Int32) : Int32 := if v ≤ nI rl then v else v - 1
def fg (rl : Nat) : LL → LL
  | [] => []
  | p :: t => if p.1 = nI rl then fg rl t else (rnm rl p.1, p.2) :: fg rl t
theorem fg_len (rl : Nat) : ∀ l : LL, (fg rl l).length ≤ l.length
  | [] => Nat.le_refl _
  | p :: t => by
    have := fg_len rl t
    show (if _ then _ else _ : LL).length ≤ t.length + 1
    split
    · omega
    · show (fg rl t).length + 1 ≤ _; omega
def LGO (σ τ : SS) : Prop := sTh τ = sTh σ ∧ sVa τ = sVa σ ∧ sRu τ = sRu σ ∧ sSc τ = sSc σ
/-- forget, under way: i acts are read, from the oldest on -/
def FI (σ : SS) (rl n old : Nat) (l : LL) (i m : Nat) (τ : SS) : Prop := LGO σ τ ∧ (m ≤ i ∧ (fg rl (l.drop (n - i))).length = m ∧ sLs τ 0 = nI m ∧ sLs τ 1 = nI ((old + 31 + m) % 16) ∧ ∀ k p, (fg rl (l.drop (n - i)))[k]? = some p → sLr τ ((old + 47 + m - k) % 16) = p.1 ∧ sLd τ ((old + 47 + m - k) % 16) = p.2) ∧ ∀ j, i ≤ j → j < n → sLr τ ((old + j) % 16) = sLr σ ((old + j) % 16) ∧ sLd τ ((old + j) % 16) = sLd σ ((old + j) % 16)
theorem FI_skip {σ τ : SS} {rl n old i m : Nat} {l : LL} {p : Int32 × Int32} (h : FI σ rl n old l i m τ) (hi : i < n) (hp : l[n - 1 - i]? = some p) (hr : p.1 = nI rl) : FI σ rl n old l (i + 1) m τ := by
  obtain ⟨a, ⟨b1, b2, b3, b4, b5⟩, c⟩ := h
  have e : fg rl (l.drop (n - (i + 1))) = fg rl (l.drop (n - i)) := by
    rw [show n - (i + 1) = n - 1 - i by omega, drop_q hp, show n - 1 - i + 1 = n - i by omega]; exact if_pos hr
  exact ⟨a, ⟨by omega, by rw [e]; exact b2, b3, b4, by rw [e]; exact b5⟩, fun j h1 h2 => c j (by omega) h2⟩
theorem FI_note {σ τ : SS} {rl n old i m : Nat} {l : LL} {p : Int32 × Int32} (h : FI σ rl n old l i m τ) (hi : i < n) (hn : n ≤ 16) (hp : l[n - 1 - i]? = some p) (hr : ¬ p.1 = nI rl) : FI σ rl n old l (i + 1) (m + 1) (ntS τ ((old + 31 + m) % 16) m (rnm rl p.1) p.2) := by
  obtain ⟨a, ⟨b1, b2, b3, b4, b5⟩, c⟩ := h
  have e : fg rl (l.drop (n - (i + 1))) = (rnm rl p.1, p.2) :: fg rl (l.drop (n - i)) := by
    rw [show n - (i + 1) = n - 1 - i by omega, drop_q hp, show n - 1 - i + 1 = n - i by omega]; exact if_neg hr
  refine ⟨a, ⟨by omega, by rw [e, List.length_cons, b2], ?_, ?_, fun k q hk => ?_⟩, fun j h1 h2 => ?_⟩
  · show nI (min (m + 1) 16) = nI (m + 1)
    rw [Nat.min_eq_left (by omega)]
  · show nI (((old + 31 + m) % 16 + 1) % 16) = _
    rw [show ((old + 31 + m) % 16 + 1) % 16 = (old + 31 + (m + 1)) % 16 by omega]
  · rw [e] at hk
    cases k with
    | zero =>
      rw [List.getElem?_cons_zero] at hk; cases hk
      rw [show (old + 47 + (m + 1) - 0) % 16 = ((old + 31 + m) % 16 + 1) % 16 by omega]
      exact ⟨upd_at _ _ _, upd_at _ _ _⟩
    | succ k =>
      rw [List.getElem?_cons_succ] at hk
      have hlt := qlt hk
      obtain ⟨q1, q2⟩ := b5 k q hk
      have n1 : (old + 47 + m - k) % 16 ≠ ((old + 31 + m) % 16 + 1) % 16 := by omega
      rw [show (old + 47 + (m + 1) - (k + 1)) % 16 = (old + 47 + m - k) % 16 by omega]
      exact ⟨(upd_nt _ _ n1).trans q1, (upd_nt _ _ n1).trans q2⟩
  · obtain ⟨q1, q2⟩ := c j (by omega) h2
    have n1 : (old + j) % 16 ≠ ((old + 31 + m) % 16 + 1) % 16 := by omega
    exact ⟨(upd_nt _ _ n1).trans q1, (upd_nt _ _ n1).trans q2⟩
theorem FI_end {σ τ : SS} {rl n old m : Nat} {l : LL} (h : FI σ rl n old l n m τ) (hn : n ≤ 16) : LR τ (fg rl l) := by
  obtain ⟨a, ⟨b1, b2, b3, b4, b5⟩, c⟩ := h
  rw [Nat.sub_self, List.drop_zero] at b2 b5
  refine ⟨by omega, by rw [b2]; exact b3, _, Nat.mod_lt _ (by decide), b4, fun k q hk => ?_⟩
  have hlt := qlt hk
  rw [show ((old + 31 + m) % 16 + 16 - k) % 16 = (old + 47 + m - k) % 16 by omega]
  exact b5 k q hk
def fgQ (x : XW) (b rl : Nat) (l : LL) : Out → Hp → Prop := fun o h2 => o = .inl none ∧ ∃ τ, h2 = hp (uC1 x b τ) ∧ LGO (cSt x.1 b) τ ∧ LR τ (fg rl l)
theorem fsub {a n : Nat} (hn : n ≤ 16) : nI a - (nI n - nI 1) = nI (a + 33 - n) - nI 32 := by
  have e : nI (a + 33 - n) + nI n = nI a + nI 33 := by rw [nI_add, nI_add]; congr 1; omega
  have e2 : nI (a + 33 - n) = nI a + nI 33 - nI n := by rw [← e, Int32.add_sub_cancel]
  rw [e2, show nI 33 = nI 32 + nI 1 from rfl]
  generalize nI a = A; generalize nI n = N; generalize nI 32 = B; generalize nI 1 = C
  simp only [Int32.sub_eq_add_neg, Int32.neg_add, Int32.neg_neg]
  have e9 : A + (B + C) + -N + -B = (A + (-N + C)) + (B + -B) := by ac_rfl
  rw [e9, Int32.add_right_neg, Int32.add_zero]
set_option maxRecDepth 100000 in
set_option maxHeartbeats 4000000 in
theorem ct_X2_forget (x : XW) (b rl : Nat) (l : LL) (hb : b < 10) (hg : LR (cSt x.1 b) l) : CT MX2_forget 2 0 [.ref (16 * b + 4), .int (nI rl)] (hp x) (fgQ x b rl l) := by
  refine ct_of (by decide +kernel) (by decide) rfl (k := 5) (ls := [some (.ref (16 * b + 4)), some (.int (nI rl)), none, none, none, none, none]) rfl (Nat.le_of_ble_eq_true rfl) ?_
  obtain ⟨hn, h0, la, hla, h1, hk⟩ := hg
  obtain ⟨n, en⟩ : ∃ n, n = l.length := ⟨_, rfl⟩
  rw [← en] at hn h0
  obtain ⟨old, eo⟩ : ∃ old, old = (la + 33 - n) % 16 := ⟨_, rfl⟩
  have ho : old < 16 := by omega
  have L : ∀ k i, i + k = n → ∀ (m : Nat) (τ : SS) (a5 a6 : Option Value), FI (cSt x.1 b) rl n old l i m τ → PW MX2_forget 2 0 33 [some (.ref (16 * b + 4)), some (.int (nI rl)), some (.int (nI n)), some (.int (nI old)), some (.int (nI i)), a5, a6] [] (hp (uC1 x b τ)) (fgQ x b rl l) := by
    intro k
    induction k with
    | zero =>
      intro i hi m τ a5 a6 hf
      obtain rfl : i = n := by omega
      refine pw_iload (tk tkX2_forget 21 rfl) rfl ?_
      refine pw_iload_n (tk tkX2_forget 22 rfl) rfl ?_
      refine pw_icmp_ge (tgt := 97) (tk tkX2_forget 23 rfl) (by decide) (fun c36 => ?_) (fun c36 => absurd (Int32.le_refl _) c36)
      exact pw_return (tk tkX2_forget 54 rfl) rfl (by decide) ⟨rfl, τ, rfl, hf.1, FI_end hf hn⟩
    | succ k ih =>
      intro i hi m τ a5 a6 hf
      obtain ⟨p, hp0⟩ : ∃ p, l[n - 1 - i]? = some p := ⟨_, List.getElem?_eq_getElem (by omega)⟩
      obtain ⟨p1, p2⟩ := hk _ p hp0
      have ix : (la + 16 - (n - 1 - i)) % 16 = (old + i) % 16 := by omega
      rw [ix] at p1 p2
      obtain ⟨q1, q2⟩ := hf.2.2 i (Nat.le_refl _) (by omega)
      have hm := hf.2.1.1
      have J81 : ¬ p.1 = nI rl → ∀ w, w = rnm rl p.1 → PW MX2_forget 2 0 81 [some (.ref (16 * b + 4)), some (.int (nI rl)), some (.int (nI n)), some (.int (nI old)), some (.int (nI i)), some (.int (nI ((old + i) % 16))), some (.int (sLr τ ((old + i) % 16)))] [.int w, .ref (16 * b + 4)] (hp (uC1 x b τ)) (fgQ x b rl l) := by
        intro hne w hw
        subst hw
        refine pw_aload_n (tk tkX2_forget 47 rfl) rfl ?_
        refine g2_depths (by first | assumption | decide | omega) (tk tkX2_forget 48 rfl) fkX2_15 ?_
        refine pw_iload (tk tkX2_forget 49 rfl) rfl ?_
        refine al_ld_e (e := (old + i) % 16) (by first | assumption | decide | omega) (tk tkX2_forget 50 rfl) rfl (by first | decide | omega) ?_
        rw [cSt_u, q2, p2]
        refine pw_cV0 (ct_X2_note (uC1 x b τ) b ((old + 31 + m) % 16) m hb (by rw [cSt_u]; exact hf.2.1.2.2.2.1) (by omega) (by rw [cSt_u]; exact hf.2.1.2.2.1) (by omega) _ _) okX2_note (tk tkX2_forget 51 rfl) mkX2_44 imX2_note seX2_note (hp_st _ (by first | assumption | decide | omega) (by decide : 4 < 16)) rfl rfl rfl (by decide) (by decide) (Nat.le_of_ble_eq_true rfl) ?_
        refine pw_inc4 (tk tkX2_forget 52 rfl) rfl (by decide) (nI_1 i) ?_
        refine pw_goto (tgt := 33) (tk tkX2_forget 53 rfl) (by decide) ?_
        rw [cSt_u, uC1_uC1]
        exact ih (i + 1) (by omega) _ _ _ _ (FI_note hf (by omega) hn hp0 hne)
      refine pw_iload (tk tkX2_forget 21 rfl) rfl ?_
      refine pw_iload_n (tk tkX2_forget 22 rfl) rfl ?_
      refine pw_icmp_ge (tgt := 97) (tk tkX2_forget 23 rfl) (by decide) (fun c36 => absurd c36 (nI_ge (by omega) (by omega))) (fun c36 => ?_)
      refine pw_iload_n (tk tkX2_forget 24 rfl) rfl ?_
      refine pw_iload (tk tkX2_forget 25 rfl) rfl ?_
      refine pw_iadd (tk tkX2_forget 26 rfl) ?_
      refine pw_bipush (v := 16) (tk tkX2_forget 27 rfl) (by decide) ?_
      refine pw_cS (ct_J9_floorMod _ _ 16 (by decide)) okJ9_floorMod_7cf53 (tk tkX2_forget 28 rfl) mkX2_31 stJ9_floorMod_7cf53 rfl rfl (by decide) (by decide) (Nat.le_of_ble_eq_true rfl) ?_
      rw [nI_add, fl16 (old + i + 32) (by omega) (by rw [show nI (old + i + 32) = nI (old + i) + 32 from (nI_add _ 32).symm, Int32.add_sub_cancel]), show (old + i + 32) % 16 = (old + i) % 16 by omega]
      refine pw_ist5 (tk tkX2_forget 29 rfl) rfl (by decide) ?_
      refine pw_aload_n (tk tkX2_forget 30 rfl) rfl ?_
      refine g2_rules (by first | assumption | decide | omega) (tk tkX2_forget 31 rfl) fkX2_9 ?_
      refine pw_iload (tk tkX2_forget 32 rfl) rfl ?_
      refine al_lr_e (e := (old + i) % 16) (by first | assumption | decide | omega) (tk tkX2_forget 33 rfl) rfl (by first | decide | omega) ?_
      rw [cSt_u]
      refine pw_ist6 (tk tkX2_forget 34 rfl) rfl (by decide) ?_
      refine pw_iload (tk tkX2_forget 35 rfl) rfl ?_
      refine pw_iload_n (tk tkX2_forget 36 rfl) rfl ?_
      refine pw_icmp_eq (tgt := 91) (tk tkX2_forget 37 rfl) (by decide) (fun c62 => ?_) (fun c62 => ?_)
      · refine pw_inc4 (tk tkX2_forget 52 rfl) rfl (by decide) (nI_1 i) ?_
        refine pw_goto (tgt := 33) (tk tkX2_forget 53 rfl) (by decide) ?_
        exact ih (i + 1) (by omega) _ _ _ _ (FI_skip hf (by omega) hp0 (p1.symm.trans (q1.symm.trans c62)))
      · refine pw_aload_n (tk tkX2_forget 38 rfl) rfl ?_
        refine pw_iload (tk tkX2_forget 39 rfl) rfl ?_
        refine pw_iload_n (tk tkX2_forget 40 rfl) rfl ?_
        refine pw_icmp_le (tgt := 79) (tk tkX2_forget 41 rfl) (by decide) (fun c69 => ?_) (fun c69 => ?_)
        · refine pw_iload (tk tkX2_forget 46 rfl) rfl ?_
          exact J81 (fun e => c62 (q1.trans (p1.trans e))) _ (by unfold rnm; rw [← p1, ← q1, if_pos c69])
        · refine pw_iload (tk tkX2_forget 42 rfl) rfl ?_
          refine pw_iconst (v := 1) (tk tkX2_forget 43 rfl) (by decide) ?_
          refine pw_isub (tk tkX2_forget 44 rfl) ?_
          refine pw_goto (tgt := 81) (tk tkX2_forget 45 rfl) (by decide) ?_
          exact J81 (fun e => c62 (q1.trans (p1.trans e))) _ (by unfold rnm; rw [← p1, ← q1, if_neg c69])
  refine pw_aload_n (tk tkX2_forget 0 rfl) rfl ?_
  refine g2_size (by first | assumption | decide | omega) (tk tkX2_forget 1 rfl) fkX2_24 ?_
  rw [h0]
  refine pw_ist2 (tk tkX2_forget 2 rfl) rfl (by decide) ?_
  refine pw_aload_n (tk tkX2_forget 3 rfl) rfl ?_
  refine pw_iload_n (tk tkX2_forget 4 rfl) rfl ?_
  refine pw_iconst (v := 1) (tk tkX2_forget 5 rfl) (by decide) ?_
  refine pw_isub (tk tkX2_forget 6 rfl) ?_
  refine pw_cV (ct_X2_placeOf x b hb _) okX2_placeOf (tk tkX2_forget 7 rfl) mkX2_40 imX2_placeOf seX2_placeOf (hp_st _ (by first | assumption | decide | omega) (by decide : 4 < 16)) rfl rfl rfl (by decide) (by decide) (Nat.le_of_ble_eq_true rfl) ?_
  rw [h1, fl16 (la + 33 - n) (by omega) (by rw [show nI n - 1 = nI n - nI 1 from rfl, show (32 : Int32) = nI 32 from rfl]; exact fsub hn), ← eo]
  refine pw_ist3 (tk tkX2_forget 8 rfl) rfl (by decide) ?_
  refine pw_aload_n (tk tkX2_forget 9 rfl) rfl ?_
  refine pw_iconst (v := 0) (tk tkX2_forget 10 rfl) (by decide) ?_
  refine p2_size (by first | assumption | decide | omega) (tk tkX2_forget 11 rfl) fkX2_24 ?_
  refine pw_aload_n (tk tkX2_forget 12 rfl) rfl ?_
  refine pw_iload_n (tk tkX2_forget 13 rfl) rfl ?_
  refine pw_iconst (v := 1) (tk tkX2_forget 14 rfl) (by decide) ?_
  refine pw_isub (tk tkX2_forget 15 rfl) ?_
  refine pw_bipush (v := 16) (tk tkX2_forget 16 rfl) (by decide) ?_
  refine pw_cS (ct_J9_floorMod _ _ 16 (by decide)) okJ9_floorMod_7cf53 (tk tkX2_forget 17 rfl) mkX2_31 stJ9_floorMod_7cf53 rfl rfl (by decide) (by decide) (Nat.le_of_ble_eq_true rfl) ?_
  rw [fl16 (old + 31) (by omega) (by rw [show nI (old + 31) = nI old + 31 from (nI_add _ 31).symm]; exact sub_k _ _ _ _ (by decide))]
  refine p2_latest (by first | assumption | decide | omega) (tk tkX2_forget 18 rfl) fkX2_28 ?_
  rw [cSt_u, uC1_uC1]
  refine pw_iconst (v := 0) (tk tkX2_forget 19 rfl) (by decide) ?_
  refine pw_ist4 (tk tkX2_forget 20 rfl) rfl (by decide) ?_
  refine L n 0 (by omega) 0 _ _ _ ⟨⟨rfl, rfl, rfl, rfl⟩, ⟨Nat.le_refl _, ?_, rfl, rfl, ?_⟩, fun j _ _ => ⟨rfl, rfl⟩⟩
  · rw [Nat.sub_zero, en, List.drop_length]; rfl
  · intro k p h; rw [Nat.sub_zero, en, List.drop_length] at h; cases h
def srR (rl i : Nat) (f : Nat → Nat → Int32) : Nat → Nat → Int32 := fun j => if rl ≤ j ∧ j < rl + i then cp9 (f (j + 1)) (f j) else f j
theorem srR_0 (rl : Nat) (f : Nat → Nat → Int32) : srR rl 0 f = f := by funext j; unfold srR; rw [if_neg (by omega)]
theorem srR_s (rl i : Nat) (f : Nat → Nat → Int32) : upR (srR rl i f) (rl + i) (cp9 (srR rl i f (rl + i + 1)) (srR rl i f (rl + i))) = srR rl (i + 1) f := by
  have e1 : srR rl i f (rl + i + 1) = f (rl + i + 1) := if_neg (by omega)
  have e2 : srR rl i f (rl + i) = f (rl + i) := if_neg (by omega)
  rw [e1, e2]
  funext j
  unfold srR upR
  by_cases e : j = rl + i
  · subst e; rw [if_pos rfl, if_pos (by omega)]
  · rw [if_neg e]
    dsimp only
    by_cases e3 : rl ≤ j ∧ j < rl + i
    · rw [if_pos e3, if_pos (by omega)]
    · rw [if_neg e3, if_neg (by omega)]
def trQ (x : XW) (b rl u : Nat) (l : LL) : Out → Hp → Prop := fun o h2 => o = .inl none ∧ ∃ τ, h2 = hp (uC1 x b τ) ∧ sTh τ = sTh (cSt x.1 b) ∧ sVa τ = sVa (cSt x.1 b) ∧ sRu τ = srR rl (u - 1 - rl) (sRu (cSt x.1 b)) ∧ sSc τ = upd (sSc (cSt x.1 b)) 0 (nI (u - 1)) ∧ LR τ (fg rl l)
set_option maxRecDepth 100000 in
set_option maxHeartbeats 4000000 in
theorem ct_X4_takeRuleAway (x : XW) (b rl u : Nat) (l : LL) (hb : b < 10) (hr : rl < u) (hw : WB u (cSt x.1 b)) (hg : LR (cSt x.1 b) l) : CT MX4_takeRuleAway 3 0 [.ref (16 * b), .int (nI rl)] (hp x) (trQ x b rl u l) := by
  refine ct_of (by decide +kernel) (by decide) rfl (k := 1) (ls := [some (.ref (16 * b)), some (.int (nI rl)), none]) rfl (Nat.le_of_ble_eq_true rfl) ?_
  obtain ⟨hu8, hu, hth, hm⟩ := hw
  have L : ∀ k i, i + k = u - 1 - rl → PW MX4_takeRuleAway 3 0 2 [some (.ref (16 * b)), some (.int (nI rl)), some (.int (nI (rl + i)))] [] (hp (uC1 x b (uS3 (cSt x.1 b) (srR rl i (sRu (cSt x.1 b)))))) (trQ x b rl u l) := by
    intro k
    induction k with
    | zero =>
      intro i hi
      obtain rfl : i = u - 1 - rl := by omega
      refine pw_iload_n (tk tkX4_takeRuleAway 2 rfl) rfl ?_
      refine pw_iconst (v := 1) (tk tkX4_takeRuleAway 3 rfl) (by decide) ?_
      refine pw_iadd (tk tkX4_takeRuleAway 4 rfl) ?_
      refine pw_aload_n (tk tkX4_takeRuleAway 5 rfl) rfl ?_
      refine g4_rulesUsed (by first | assumption | decide | omega) (tk tkX4_takeRuleAway 6 rfl) fkX4_43 ?_
      rw [cSt_u, show sSc (uS3 (cSt x.1 b) (srR rl (u - 1 - rl) (sRu (cSt x.1 b)))) 0 = nI u from hu, nI_1, show rl + (u - 1 - rl) + 1 = u by omega]
      refine pw_icmp_ge (tgt := 35) (tk tkX4_takeRuleAway 7 rfl) (by decide) (fun c9 => ?_) (fun c9 => absurd (Int32.le_refl _) c9)
      refine pw_aload_n (tk tkX4_takeRuleAway 21 rfl) rfl ?_
      refine pw_dup (tk tkX4_takeRuleAway 22 rfl) rfl ?_
      refine g4_rulesUsed (by first | assumption | decide | omega) (tk tkX4_takeRuleAway 23 rfl) fkX4_43 ?_
      refine pw_iconst (v := 1) (tk tkX4_takeRuleAway 24 rfl) (by decide) ?_
      refine pw_isub (tk tkX4_takeRuleAway 25 rfl) ?_
      rw [cSt_u, show sSc (uS3 (cSt x.1 b) (srR rl (u - 1 - rl) (sRu (cSt x.1 b)))) 0 = nI u from hu, show nI u - 1 = nI (u - 1) from pk_sub (b := 1) (by omega)]
      refine p4_rulesUsed (by first | assumption | decide | omega) (tk tkX4_takeRuleAway 26 rfl) fkX4_43 ?_
      rw [cSt_u, uC1_uC1]
      refine pw_aload_n (tk tkX4_takeRuleAway 27 rfl) rfl ?_
      refine g4_log (by first | assumption | decide | omega) (tk tkX4_takeRuleAway 28 rfl) fkX4_28 ?_
      refine pw_iload_n (tk tkX4_takeRuleAway 29 rfl) rfl ?_
      refine pw_callV (ct_X2_forget _ b rl l hb (by rw [cSt_u]; exact hg)) okX2_forget (tk tkX4_takeRuleAway 30 rfl) mkX4_60 imX2_forget seX2_forget (hp_st _ (by first | assumption | decide | omega) (by decide : 4 < 16)) rfl rfl rfl (by decide) (by decide) (Nat.le_of_ble_eq_true rfl) (fun r h2 q => ?_) (fun E h2 q => by cases q.1)
      obtain ⟨ho, τ, rfl, ⟨g1, g2, g3, g4⟩, g5⟩ := q
      cases ho
      rw [cSt_u] at g1 g2 g3 g4
      exact pw_return (tk tkX4_takeRuleAway 31 rfl) rfl (by decide) ⟨rfl, τ, by rw [uC1_uC1], g1, g2, g3, g4, g5⟩
    | succ k ih =>
      intro i hi
      refine pw_iload_n (tk tkX4_takeRuleAway 2 rfl) rfl ?_
      refine pw_iconst (v := 1) (tk tkX4_takeRuleAway 3 rfl) (by decide) ?_
      refine pw_iadd (tk tkX4_takeRuleAway 4 rfl) ?_
      refine pw_aload_n (tk tkX4_takeRuleAway 5 rfl) rfl ?_
      refine g4_rulesUsed (by first | assumption | decide | omega) (tk tkX4_takeRuleAway 6 rfl) fkX4_43 ?_
      rw [cSt_u, show sSc (uS3 (cSt x.1 b) (srR rl i (sRu (cSt x.1 b)))) 0 = nI u from hu, nI_1]
      refine pw_icmp_ge (tgt := 35) (tk tkX4_takeRuleAway 7 rfl) (by decide) (fun c9 => absurd c9 (nI_ge (by omega) (by omega))) (fun c9 => ?_)
      refine pw_aload_n (tk tkX4_takeRuleAway 8 rfl) rfl ?_
      refine g4_rules (by first | assumption | decide | omega) (tk tkX4_takeRuleAway 9 rfl) fkX4_21 ?_
      refine pw_iload_n (tk tkX4_takeRuleAway 10 rfl) rfl ?_
      refine al_rules_e (e := rl + i) (by first | assumption | decide | omega) (tk tkX4_takeRuleAway 11 rfl) rfl (by first | decide | omega) ?_
      refine pw_aload_n (tk tkX4_takeRuleAway 12 rfl) rfl ?_
      refine g4_rules (by first | assumption | decide | omega) (tk tkX4_takeRuleAway 13 rfl) fkX4_21 ?_
      refine pw_iload_n (tk tkX4_takeRuleAway 14 rfl) rfl ?_
      refine pw_iconst (v := 1) (tk tkX4_takeRuleAway 15 rfl) (by decide) ?_
      refine pw_iadd (tk tkX4_takeRuleAway 16 rfl) ?_
      refine al_rules_e (e := rl + i + 1) (by first | assumption | decide | omega) (tk tkX4_takeRuleAway 17 rfl) (nI_1 _) (by first | decide | omega) ?_
      refine pw_cV0 (ct_X3_copyFrom _ b (rl + i) b (rl + i + 1) hb (by omega) hb (by omega) (.inr (by omega)) (by rw [cSt_u, show sRu (uS3 (cSt x.1 b) (srR rl i (sRu (cSt x.1 b)))) (rl + i + 1) = sRu (cSt x.1 b) (rl + i + 1) from if_neg (by omega)]; exact hm _ (by omega))) okX3_copyFrom (tk tkX4_takeRuleAway 18 rfl) mkX4_46 imX3_copyFrom seX3_copyFrom ((hp_st _ (by first | assumption | decide | omega) (by omega)).trans (stc_ru _ _ _ (by first | assumption | decide | omega))) rfl rfl rfl (by decide) (by decide) (Nat.le_of_ble_eq_true rfl) ?_
      refine pw_inc2 (tk tkX4_takeRuleAway 19 rfl) rfl (by decide) (nI_1 _) ?_
      refine pw_goto (tgt := 2) (tk tkX4_takeRuleAway 20 rfl) (by decide) ?_
      have e : uRu (uC1 x b (uS3 (cSt x.1 b) (srR rl i (sRu (cSt x.1 b))))) b (rl + i) (cp9 (sRu (cSt (uC1 x b (uS3 (cSt x.1 b) (srR rl i (sRu (cSt x.1 b))))).1 b) (rl + i + 1)) (sRu (cSt (uC1 x b (uS3 (cSt x.1 b) (srR rl i (sRu (cSt x.1 b))))).1 b) (rl + i))) = uC1 x b (uS3 (cSt x.1 b) (srR rl (i + 1) (sRu (cSt x.1 b)))) := by
        unfold uRu
        rw [cSt_u, uC1_uC1]
        show uC1 x b (uS3 (cSt x.1 b) (upR (srR rl i (sRu (cSt x.1 b))) (rl + i) (cp9 (srR rl i (sRu (cSt x.1 b)) (rl + i + 1)) (srR rl i (sRu (cSt x.1 b)) (rl + i))))) = _
        rw [srR_s]
      rw [e]
      exact ih (i + 1) (by omega)
  refine pw_iload_n (tk tkX4_takeRuleAway 0 rfl) rfl ?_
  refine pw_ist2 (tk tkX4_takeRuleAway 1 rfl) rfl (by decide) ?_
  have q := L (u - 1 - rl) 0 (by omega)
  rw [srR_0] at q
  rw [show uS3 (cSt x.1 b) (sRu (cSt x.1 b)) = cSt x.1 b from rfl, uC1_self] at q
  exact q
end
section
/-- the numbers' log, as a list, the latest first -/
def LM (s : Nat → Int32) (l : LL) : Prop := l.length ≤ 16 ∧ s 99 = nI l.length ∧ ∀ k p, l[k]? = some p → s (100 + k) = p.1 ∧ s (116 + k) = p.2
def RS1 (σ : SS) (s : Nat → Int32) (e : Int32) : Prop := (∀ j, j < 6 → sTh σ j = s j) ∧ (∀ j, j < 18 → sVa σ j = s (6 + j)) ∧ sSc σ 0 = s 25 ∧ sSc σ 1 = s 24 ∧ sSc σ 2 = e ∧ (∀ i k, i < uN s → k < 9 → sRu σ i k = rN s i k) ∧ ∃ l, LR σ l ∧ LM s l
theorem LM.E {s t : Nat → Int32} {l : LL} (h : LM s l) (e : E132 s t) : LM t l := by
  obtain ⟨a, b, c⟩ := h
  refine ⟨a, by rw [← e 99 (by omega)]; exact b, fun k p hk => ?_⟩
  have := qlt hk
  rw [← e _ (by omega), ← e _ (by omega)]
  exact c k p hk
theorem RS1.E {σ : SS} {s t : Nat → Int32} {v : Int32} (h : RS1 σ s v) (hu : uN s ≤ 8) (e : E132 s t) : RS1 σ t v := by
  obtain ⟨a, b, c, d, f, g, l, l1, l2⟩ := h
  refine ⟨fun j hj => (a j hj).trans (e j (by omega)), fun j hj => (b j hj).trans (e _ (by omega)), c.trans (e 25 (by omega)), d.trans (e 24 (by omega)), f, fun i k hi hk => ?_, l, l1, l2.E e⟩
  rw [uN_E e] at hi
  exact (g i k hi hk).trans (e _ (by omega))
theorem RS1.wb {σ : SS} {s : Nat → Int32} {v : Int32} (h : RS1 σ s v) {u : Nat} (hv : VS u s) : WB u σ := by
  obtain ⟨a, b, c, d, f, g, l, l1, l2⟩ := h
  have eu := hv.un
  refine ⟨hv.1, c.trans hv.2.1, fun j hj => by rw [a j hj]; exact hv.2.2.2.2.1 j hj, fun i hi => ?_⟩
  rw [g i 7 (by omega) (by omega)]
  exact (hv.2.2.2.2.2 i hi).2.2.2.1
theorem LR_cp {σ τ : SS} {l : LL} (u : Nat) (h : LR τ l) : LR (cpS u σ τ) l := by
  obtain ⟨a, b, la, c, d, e⟩ := h
  refine ⟨a, b, la, c, d, fun k p hk => ?_⟩
  have h16 : (la + 16 - k) % 16 < 16 := Nat.mod_lt _ (by decide)
  obtain ⟨q1, q2⟩ := e k p hk
  exact ⟨(if_pos h16).trans q1, (if_pos h16).trans q2⟩
theorem RS1.cp {τ : SS} {s : Nat → Int32} {v : Int32} (h : RS1 τ s v) (σ : SS) {u : Nat} (eu : uN s = u) : RS1 (cpS u σ τ) s v := by
  obtain ⟨a, b, c, d, f, g, l, l1, l2⟩ := h
  refine ⟨fun j hj => (if_pos hj).trans (a j hj), fun j hj => (if_pos hj).trans (b j hj), c, d, f, fun i k hi hk => ?_, l, LR_cp _ l1, l2⟩
  have hi2 : i < u := by omega
  show ruN u (sRu τ) (sRu σ) i k = _
  unfold ruN
  rw [if_pos hi2, cp9_at _ _ _ hk]
  exact g i k hi hk
def altS (σ : SS) (ev : Int32) (r c : Nat) (v : Int32) : SS := if ev = 1 then uS2 σ (upd (sVa σ) (3 * r + c) v) else uS1 σ (upd (sTh σ) r (if ev = 0 then 1 else 0))
theorem alt_lo {s : Nat → Int32} {ev : Int32} {r c : Nat} {v : Int32} (hr : r < 6) (hc : c < 3) : ∀ j, 24 ≤ j → alt s ev r c v j = s j := fun j hj => alt_nt s ev v hr hc hj
theorem RS1_alt {σ : SS} {s : Nat → Int32} {w : Int32} (h : RS1 σ s w) (ev : Int32) {r c : Nat} (v : Int32) (hr : r < 6) (hc : c < 3) : RS1 (altS σ ev r c v) (alt s ev r c v) w := by
  obtain ⟨a, b, c', d, f, g, l, l1, l2⟩ := h
  have lo := @alt_lo s ev r c v hr hc
  have eu : uN (alt s ev r c v) = uN s := uN_of (lo 25 (by omega))
  have hl : LM (alt s ev r c v) l := ⟨l2.1, by rw [lo 99 (by omega)]; exact l2.2.1, fun k p hk => by rw [lo _ (by omega), lo _ (by omega)]; exact l2.2.2 k p hk⟩
  have hru : ∀ i k, rN (alt s ev r c v) i k = rN s i k := fun i k => lo _ (by omega)
  by_cases e : ev = 1
  · have e1 : altS σ ev r c v = uS2 σ (upd (sVa σ) (3 * r + c) v) := if_pos e
    have e2 : alt s ev r c v = upd s (6 + 3 * r + c) v := if_pos e
    rw [e1]
    refine ⟨fun j hj => ?_, fun j hj => ?_, by rw [lo 25 (by omega)]; exact c', by rw [lo 24 (by omega)]; exact d, f, fun i k hi hk => ?_, l, l1, hl⟩
    · rw [e2, upd_nt _ _ (by omega)]; exact a j hj
    · rw [e2]
      show upd (sVa σ) (3 * r + c) v j = _
      unfold upd
      by_cases q : j = 3 * r + c
      · rw [if_pos q, if_pos (by omega)]
      · rw [if_neg q, if_neg (by omega)]; exact b j hj
    · rw [hru]; exact g i k (by omega) hk
  · have e1 : altS σ ev r c v = uS1 σ (upd (sTh σ) r (if ev = 0 then 1 else 0)) := if_neg e
    have e2 : alt s ev r c v = upd s r (if ev = 0 then 1 else 0) := if_neg e
    rw [e1]
    refine ⟨fun j hj => ?_, fun j hj => ?_, by rw [lo 25 (by omega)]; exact c', by rw [lo 24 (by omega)]; exact d, f, fun i k hi hk => ?_, l, l1, hl⟩
    · rw [e2]
      show upd (sTh σ) r _ j = _
      unfold upd
      by_cases q : j = r
      · rw [if_pos q, if_pos q]
      · rw [if_neg q, if_neg q]; exact a j hj
    · rw [e2, upd_nt _ _ (by omega)]; exact b j hj
    · rw [hru]; exact g i k (by omega) hk
theorem lgL_l {s : Nat → Int32} {l : LL} (h : LM s l) : lgL s = min l.length 15 := by
  obtain ⟨a, b, _⟩ := h
  unfold lgL
  by_cases e : l.length = 16
  · rw [if_pos (by rw [b, e]; rfl), e]; rfl
  · rw [if_neg (show ¬ s 99 = 16 from fun q => e ((nI_eq (by omega) (by decide)).mp (b.symm.trans q))), b, nI_clamp (by omega)]; omega
theorem LM_note {s : Nat → Int32} {l : LL} (h : LM s l) {i : Nat} (hi : i < 8) (d : Int32) : LM (lgS s i d) (((nI i, d) :: l).take 16) := by
  have eL := lgL_l h
  obtain ⟨a, b, c⟩ := h
  refine ⟨by rw [take16_len]; omega, ?_, fun k p hk => ?_⟩
  · rw [lgS_99 s d hi, eL, take16_len]; congr 1; omega
  · obtain ⟨h1, ⟨h2, h3⟩ | ⟨j, h2, h3⟩⟩ := take16 hk
    · subst h2; subst h3
      constructor
      · show lgS s i d 100 = _
        unfold lgS; rw [upd_nt _ _ (by omega), upd_nt _ _ (by omega), upd_nt _ _ (by omega), upd_at]
      · show lgS s i d 116 = _
        unfold lgS; rw [upd_nt _ _ (by omega), upd_nt _ _ (by omega), upd_at]
    · subst h2
      have hj := qlt h3
      obtain ⟨q1, q2⟩ := c j p h3
      constructor
      · unfold lgS; rw [upd_nt _ _ (by omega), upd_nt _ _ (by omega), upd_nt _ _ (by omega), upd_nt _ _ (by omega)]; unfold shD; rw [if_pos (by omega)]; exact q1
      · unfold lgS; rw [upd_nt _ _ (by omega), upd_nt _ _ (by omega), upd_nt _ _ (by omega), upd_nt _ _ (by omega)]; unfold shD; rw [if_pos (by omega)]; exact q2
theorem RS1.act {σ : SS} {s : Nat → Int32} {w : Int32} (h : RS1 σ s w) {i : Nat} (hi : i < uN s) (hu : uN s ≤ 8) (d : Int32) {l : LL} {la : Nat} (hl : l.length ≤ 16) (ha : la < 16) (hk : ∀ k p, l[k]? = some p → sLr σ ((la + 16 - k) % 16) = p.1 ∧ sLd σ ((la + 16 - k) % 16) = p.2) (hm : LM s l) : RS1 (ntS (uS3 σ (upR (sRu σ) i (upd (sRu σ i) 8 (sRu σ i 8 + 1)))) la l.length (nI i) d) (lgS s i d) w := by
  obtain ⟨a, b, c', e, f, g, _, _, _⟩ := h
  have nt : ∀ j, j < 99 → j ≠ 26 + 9 * i + 8 → lgS s i d j = s j := fun j h1 h2 => lgS_nt s i d h1 h2
  have eu : uN (lgS s i d) = uN s := uN_of (nt 25 (by omega) (by omega))
  refine ⟨fun j hj => by rw [nt j (by omega) (by omega)]; exact a j hj, fun j hj => by rw [nt _ (by omega) (by omega)]; exact b j hj, by rw [nt 25 (by omega) (by omega)]; exact c', by rw [nt 24 (by omega) (by omega)]; exact e, f, fun i2 k hi2 hk2 => ?_, _, LR_note (σ := uS3 σ _) hl ha hk (nI i) d, LM_note hm (by omega) d⟩
  rw [eu] at hi2
  show upR (sRu σ) i (upd (sRu σ i) 8 (sRu σ i 8 + 1)) i2 k = lgS s i d (26 + 9 * i2 + k)
  unfold upR
  by_cases q : i2 = i
  · subst q
    rw [if_pos rfl]
    by_cases q8 : k = 8
    · subst q8
      rw [upd_at, g i2 8 hi2 (by omega)]
      unfold lgS; rw [upd_at]; rfl
    · rw [upd_nt _ _ q8, nt _ (by omega) (by omega)]; exact g i2 k hi2 hk2
  · rw [if_neg q, nt _ (by omega) (by omega)]; exact g i2 k hi2 hk2
theorem ad_0 (v a : Int32) : v + a = v ↔ a = 0 := by
  constructor
  · intro h
    have e : -v + (v + a) = -v + v := by rw [h]
    rw [← Int32.add_assoc, Int32.add_left_neg, Int32.zero_add] at e
    exact e
  · intro h; rw [h, Int32.add_zero]
end
section
set_option maxRecDepth 100000 in
set_option maxHeartbeats 4000000 in
theorem ct_X7_cell (h : Hp) (r c : Int32) : CT MX7_cell 0 0 [.int r, .int c] h (Det (.inl (some (.int (r * 3 + c)))) h) := by
  refine ct_of (by decide +kernel) (by decide) rfl (k := 0) (ls := [some (.int r), some (.int c)]) rfl (Nat.le_of_ble_eq_true rfl) ?_
  refine pw_iload_n (tk tkX7_cell 0 rfl) rfl ?_
  refine pw_iconst (v := 3) (tk tkX7_cell 1 rfl) (by decide) ?_
  refine pw_imul (tk tkX7_cell 2 rfl) ?_
  refine pw_iload_n (tk tkX7_cell 3 rfl) rfl ?_
  refine pw_iadd (tk tkX7_cell 4 rfl) ?_
  exact pw_ireturn (tk tkX7_cell 5 rfl) rfl (by decide) rfl ⟨rfl, rfl⟩
theorem cl_ix {a b : Int32} {r c : Nat} (h1 : a = nI r) (h2 : b = nI c) : a * 3 + b = nI (3 * r + c) := by
  rw [h1, h2]; simp only [lit_nI, nI_add, pk_mul]; rw [Nat.mul_comm r 3]
theorem mkM_f {p : Nat → Bool} {i : Nat} (h : p i = false) : mkM p i = mkM p (i + 1) := by
  show _ = _ ||| (if _ then _ else _); rw [h, if_neg (by decide), Int32.or_zero]
theorem mkM_t {p : Nat → Bool} {i : Nat} (h : p i = true) : mkM p i ||| ((1 : Int32) <<< (nI i &&& 31)) = mkM p (i + 1) := by
  show _ = _ ||| (if _ then _ else _); rw [if_pos h]
def bgS (x : XW) (u b : Nat) : XW := uC2 (uC1 x 1 (cpS u (cSt x.1 1) (cSt x.1 b))) (upd (upd (upd (cSm x.1) 0 0) 1 (-1)) 2 0)
set_option maxRecDepth 100000 in
set_option maxHeartbeats 4000000 in
theorem ct_X5_begin (x : XW) (u b : Nat) (hb : b < 10) (hne : b ≠ 1) (hw : WB u (cSt x.1 b)) : CT MX5_begin 3 0 [.ref 161, .ref (16 * b)] (hp x) (Det (.inl none) (hp (bgS x u b))) := by
  refine ct_of (by decide +kernel) (by decide) rfl (k := 0) (ls := [some (.ref 161), some (.ref (16 * b))]) rfl (Nat.le_of_ble_eq_true rfl) ?_
  refine pw_aload_n (tk tkX5_begin 0 rfl) rfl ?_
  refine g5_state (tk tkX5_begin 1 rfl) fkX5_12 ?_
  refine pw_aload_n (tk tkX5_begin 2 rfl) rfl ?_
  refine pw_cV0 (ct_X4_copyFrom x 1 b u (by decide) hb hne hw) okX4_copyFrom (tk tkX5_begin 3 rfl) mkX5_18 imX4_copyFrom seX4_copyFrom (hp_st _ (by decide : 1 < 10) (by decide : 0 < 16)) rfl rfl rfl (by decide) (by decide) (Nat.le_of_ble_eq_true rfl) ?_
  refine pw_aload_n (tk tkX5_begin 4 rfl) rfl ?_
  refine pw_iconst (v := 0) (tk tkX5_begin 5 rfl) (by decide) ?_
  refine p5_events (tk tkX5_begin 6 rfl) fkX5_22 ?_
  refine pw_aload_n (tk tkX5_begin 7 rfl) rfl ?_
  refine pw_iconst (v := (-1)) (tk tkX5_begin 8 rfl) (by decide) ?_
  refine p5_deepest (tk tkX5_begin 9 rfl) fkX5_26 ?_
  refine pw_aload_n (tk tkX5_begin 10 rfl) rfl ?_
  refine pw_iconst (v := 0) (tk tkX5_begin 11 rfl) (by decide) ?_
  refine p5_refusal (tk tkX5_begin 12 rfl) fkX5_29 ?_
  exact pw_return (tk tkX5_begin 13 rfl) rfl (by decide) ⟨rfl, rfl⟩
set_option maxRecDepth 100000 in
set_option maxHeartbeats 4000000 in
theorem ct_X5_matchingRules (x : XW) (s : Nat → Int32) (w0 : Int32) (u r : Nat) (hs : RS1 (cSt x.1 1) s w0) (hv : VS u s) (hr : r < 6) (ev col v : Int32) : CT MX5_matchingRules 1 0 [.ref 161, .int ev, .int (nI r), .int col, .int v] (hp x) (Det (.inl (some (.int (mkM (mtB s ev r col v) u)))) (hp x)) := by
  refine ct_of (by decide +kernel) (by decide) rfl (k := 4) (ls := [some (.ref 161), some (.int ev), some (.int (nI r)), some (.int col), some (.int v), none, none, none, none]) rfl (Nat.le_of_ble_eq_true rfl) ?_
  have eu := hv.un
  have hu8 := hv.1
  obtain ⟨a1, a2, a3, a4, a5, a6, a7⟩ := hs
  have hu : sSc (cSt x.1 1) 0 = nI u := a3.trans hv.2.1
  have hru : ∀ i k, i < u → k < 9 → sRu (cSt x.1 1) i k = rN s i k := fun i k hi hk => a6 i k (by omega) hk
  have L : ∀ k i, i + k = u → ∀ (b7 b8 : Option Value), PW MX5_matchingRules 1 0 6 [some (.ref 161), some (.int ev), some (.int (nI r)), some (.int col), some (.int v), some (.int (mkM (mtB s ev r col v) i)), some (.int (nI i)), b7, b8] [] (hp x) (Det (.inl (some (.int (mkM (mtB s ev r col v) u)))) (hp x)) := by
    intro k
    induction k with
    | zero =>
      intro i hi b7 b8
      obtain rfl : i = u := by omega
      refine pw_iload (tk tkX5_matchingRules 4 rfl) rfl ?_
      refine pw_aload_n (tk tkX5_matchingRules 5 rfl) rfl ?_
      refine g5_state (tk tkX5_matchingRules 6 rfl) fkX5_12 ?_
      refine g4_rulesUsed (by first | assumption | decide | omega) (tk tkX5_matchingRules 7 rfl) fkX5_81 ?_
      rw [show sSc (cSt x.1 1) 0 = nI i from hu]
      refine pw_icmp_ge (tgt := 119) (tk tkX5_matchingRules 8 rfl) (by decide) (fun c15 => ?_) (fun c15 => absurd (Int32.le_refl _) c15)
      refine pw_iload (tk tkX5_matchingRules 57 rfl) rfl ?_
      exact pw_ireturn (tk tkX5_matchingRules 58 rfl) rfl (by decide) rfl ⟨rfl, rfl⟩
    | succ k ih =>
      intro i hi b7 b8
      obtain ⟨cc, hc3, hcc⟩ := (hv.2.2.2.2.2 i (by omega)).1
      have q0 := hru i 0 (by omega) (by omega)
      have q1 := hru i 1 (by omega) (by omega)
      have q2 := hru i 2 (by omega) (by omega)
      have q7 := hru i 7 (by omega) (by omega)
      have J113 : ∀ m, m = mkM (mtB s ev r col v) (i + 1) → ∀ (b7 b8 : Option Value), PW MX5_matchingRules 1 0 113 [some (.ref 161), some (.int ev), some (.int (nI r)), some (.int col), some (.int v), some (.int m), some (.int (nI i)), b7, b8] [] (hp x) (Det (.inl (some (.int (mkM (mtB s ev r col v) u)))) (hp x)) := by
        intro m hm b7 b8
        subst hm
        refine pw_inc6 (tk tkX5_matchingRules 55 rfl) rfl (by decide) (nI_1 i) ?_
        refine pw_goto (tgt := 6) (tk tkX5_matchingRules 56 rfl) (by decide) ?_
        exact ih (i + 1) (by omega) _ _
      have J88 : rN s i 7 = 0 → rN s i 0 = ev → (¬ ev = 1 ∨ rN s i 1 = col) → ∀ w, w = seeN s ev r v i → PW MX5_matchingRules 1 0 88 [some (.ref 161), some (.int ev), some (.int (nI r)), some (.int col), some (.int v), some (.int (mkM (mtB s ev r col v) i)), some (.int (nI i)), some (.ref (16 * 1 + (7 + i))), b8] [.int w] (hp x) (Det (.inl (some (.int (mkM (mtB s ev r col v) u)))) (hp x)) := by
        intro h7 h0 h1 w hw
        subst hw
        refine pw_ist8 (tk tkX5_matchingRules 42 rfl) rfl (by decide) ?_
        refine pw_iload (tk tkX5_matchingRules 43 rfl) rfl ?_
        refine pw_iload (tk tkX5_matchingRules 44 rfl) rfl ?_
        refine pw_aload (tk tkX5_matchingRules 45 rfl) rfl ?_
        refine g3_least (by first | assumption | decide | omega) (by first | assumption | decide | omega) (tk tkX5_matchingRules 46 rfl) fkX5_131 ?_
        rw [q2]
        refine pw_icmp_lt (tgt := 109) (tk tkX5_matchingRules 47 rfl) (by decide) (fun c99 => ?_) (fun c99 => ?_)
        · refine pw_iconst (v := 0) (tk tkX5_matchingRules 52 rfl) (by decide) ?_
          refine pw_ior (tk tkX5_matchingRules 53 rfl) ?_
          refine pw_ist5 (tk tkX5_matchingRules 54 rfl) rfl (by decide) ?_
          exact J113 _ (by rw [Int32.or_zero]; exact mkM_f (by unfold mtB; simp [c99])) _ _
        · refine pw_iconst (v := 1) (tk tkX5_matchingRules 48 rfl) (by decide) ?_
          refine pw_iload (tk tkX5_matchingRules 49 rfl) rfl ?_
          refine pw_ishl (tk tkX5_matchingRules 50 rfl) ?_
          refine pw_goto (tgt := 110) (tk tkX5_matchingRules 51 rfl) (by decide) ?_
          refine pw_ior (tk tkX5_matchingRules 53 rfl) ?_
          refine pw_ist5 (tk tkX5_matchingRules 54 rfl) rfl (by decide) ?_
          exact J113 _ (mkM_t (by unfold mtB; rcases h1 with h1 | h1 <;> simp [h7, h0, h1, c99])) _ _
      refine pw_iload (tk tkX5_matchingRules 4 rfl) rfl ?_
      refine pw_aload_n (tk tkX5_matchingRules 5 rfl) rfl ?_
      refine g5_state (tk tkX5_matchingRules 6 rfl) fkX5_12 ?_
      refine g4_rulesUsed (by first | assumption | decide | omega) (tk tkX5_matchingRules 7 rfl) fkX5_81 ?_
      rw [show sSc (cSt x.1 1) 0 = nI u from hu]
      refine pw_icmp_ge (tgt := 119) (tk tkX5_matchingRules 8 rfl) (by decide) (fun c15 => absurd c15 (nI_ge (by omega) (by omega))) (fun c15 => ?_)
      refine pw_aload_n (tk tkX5_matchingRules 9 rfl) rfl ?_
      refine g5_state (tk tkX5_matchingRules 10 rfl) fkX5_12 ?_
      refine g4_rules (by first | assumption | decide | omega) (tk tkX5_matchingRules 11 rfl) fkX5_88 ?_
      refine pw_iload (tk tkX5_matchingRules 12 rfl) rfl ?_
      refine al_rules_e (e := i) (by first | assumption | decide | omega) (tk tkX5_matchingRules 13 rfl) rfl (by first | decide | omega) ?_
      refine pw_ast7 (tk tkX5_matchingRules 14 rfl) rfl (by decide) ?_
      refine pw_aload (tk tkX5_matchingRules 15 rfl) rfl ?_
      refine g3_muted (by first | assumption | decide | omega) (by first | assumption | decide | omega) (tk tkX5_matchingRules 16 rfl) fkX5_121 ?_
      rw [q7]
      refine pw_if_ne (tgt := 113) (tk tkX5_matchingRules 17 rfl) (by decide) (fun c35 => ?_) (fun c35 => ?_)
      · exact J113 _ (mkM_f (by unfold mtB; simp [c35])) _ _
      · refine pw_aload (tk tkX5_matchingRules 18 rfl) rfl ?_
        refine g3_event (by first | assumption | decide | omega) (by first | assumption | decide | omega) (tk tkX5_matchingRules 19 rfl) fkX5_125 ?_
        refine pw_iload_n (tk tkX5_matchingRules 20 rfl) rfl ?_
        rw [q0]
        refine pw_icmp_ne (tgt := 113) (tk tkX5_matchingRules 21 rfl) (by decide) (fun c44 => ?_) (fun c44 => ?_)
        · exact J113 _ (mkM_f (by unfold mtB; simp [c35, c44])) _ _
        · refine pw_iload_n (tk tkX5_matchingRules 22 rfl) rfl ?_
          refine pw_iconst (v := 1) (tk tkX5_matchingRules 23 rfl) (by decide) ?_
          refine pw_icmp_ne (tgt := 61) (tk tkX5_matchingRules 24 rfl) (by decide) (fun c49 => ?_) (fun c49 => ?_)
          · refine pw_iload_n (tk tkX5_matchingRules 29 rfl) rfl ?_
            refine pw_iconst (v := 1) (tk tkX5_matchingRules 30 rfl) (by decide) ?_
            refine pw_icmp_ne (tgt := 71) (tk tkX5_matchingRules 31 rfl) (by decide) (fun c63 => ?_) (fun c63 => ?_)
            · refine pw_aload_n (tk tkX5_matchingRules 34 rfl) rfl ?_
              refine g5_state (tk tkX5_matchingRules 35 rfl) fkX5_12 ?_
              refine g4_values (by first | assumption | decide | omega) (tk tkX5_matchingRules 36 rfl) fkX5_43 ?_
              refine pw_iload_n (tk tkX5_matchingRules 37 rfl) rfl ?_
              refine pw_aload (tk tkX5_matchingRules 38 rfl) rfl ?_
              refine g3_column (by first | assumption | decide | omega) (by first | assumption | decide | omega) (tk tkX5_matchingRules 39 rfl) fkX5_128 ?_
              refine pw_cN (ct_X7_cell _ _ _) rfl okX7_cell (tk tkX5_matchingRules 40 rfl) mkX5_47 stX7_cell rfl rfl (by decide) (by decide) (Nat.le_of_ble_eq_true rfl) ?_
              refine al_values_e (e := 3 * r + cc) (by first | assumption | decide | omega) (tk tkX5_matchingRules 41 rfl) (cl_ix rfl (q1.trans hcc)) (by first | decide | omega) ?_
              exact J88 c35 c44 (.inl c49) _ (by unfold seeN; first | (rw [if_pos c63]; done) | (rw [if_neg c63, a2 _ (by omega), show (rN s i 1).toNatClampNeg = cc from by rw [hcc, nI_clamp (by omega)], show 6 + (3 * r + cc) = 6 + 3 * r + cc by omega]))
            · refine pw_iload (tk tkX5_matchingRules 32 rfl) rfl ?_
              refine pw_goto (tgt := 88) (tk tkX5_matchingRules 33 rfl) (by decide) ?_
              exact J88 c35 c44 (.inl c49) _ (by unfold seeN; first | (rw [if_pos c63]; done) | (rw [if_neg c63, a2 _ (by omega), show (rN s i 1).toNatClampNeg = cc from by rw [hcc, nI_clamp (by omega)], show 6 + (3 * r + cc) = 6 + 3 * r + cc by omega]))
          · refine pw_aload (tk tkX5_matchingRules 25 rfl) rfl ?_
            refine g3_column (by first | assumption | decide | omega) (by first | assumption | decide | omega) (tk tkX5_matchingRules 26 rfl) fkX5_128 ?_
            refine pw_iload_n (tk tkX5_matchingRules 27 rfl) rfl ?_
            rw [q1]
            refine pw_icmp_ne (tgt := 113) (tk tkX5_matchingRules 28 rfl) (by decide) (fun c58 => ?_) (fun c58 => ?_)
            · exact J113 _ (mkM_f (by unfold mtB; simp [c35, c44, c49, c58])) _ _
            · refine pw_iload_n (tk tkX5_matchingRules 29 rfl) rfl ?_
              refine pw_iconst (v := 1) (tk tkX5_matchingRules 30 rfl) (by decide) ?_
              refine pw_icmp_ne (tgt := 71) (tk tkX5_matchingRules 31 rfl) (by decide) (fun c63 => ?_) (fun c63 => ?_)
              · refine pw_aload_n (tk tkX5_matchingRules 34 rfl) rfl ?_
                refine g5_state (tk tkX5_matchingRules 35 rfl) fkX5_12 ?_
                refine g4_values (by first | assumption | decide | omega) (tk tkX5_matchingRules 36 rfl) fkX5_43 ?_
                refine pw_iload_n (tk tkX5_matchingRules 37 rfl) rfl ?_
                refine pw_aload (tk tkX5_matchingRules 38 rfl) rfl ?_
                refine g3_column (by first | assumption | decide | omega) (by first | assumption | decide | omega) (tk tkX5_matchingRules 39 rfl) fkX5_128 ?_
                refine pw_cN (ct_X7_cell _ _ _) rfl okX7_cell (tk tkX5_matchingRules 40 rfl) mkX5_47 stX7_cell rfl rfl (by decide) (by decide) (Nat.le_of_ble_eq_true rfl) ?_
                refine al_values_e (e := 3 * r + cc) (by first | assumption | decide | omega) (tk tkX5_matchingRules 41 rfl) (cl_ix rfl (q1.trans hcc)) (by first | decide | omega) ?_
                exact J88 c35 c44 (.inr c58) _ (by unfold seeN; first | (rw [if_pos c63]; done) | (rw [if_neg c63, a2 _ (by omega), show (rN s i 1).toNatClampNeg = cc from by rw [hcc, nI_clamp (by omega)], show 6 + (3 * r + cc) = 6 + 3 * r + cc by omega]))
              · refine pw_iload (tk tkX5_matchingRules 32 rfl) rfl ?_
                refine pw_goto (tgt := 88) (tk tkX5_matchingRules 33 rfl) (by decide) ?_
                exact J88 c35 c44 (.inr c58) _ (by unfold seeN; first | (rw [if_pos c63]; done) | (rw [if_neg c63, a2 _ (by omega), show (rN s i 1).toNatClampNeg = cc from by rw [hcc, nI_clamp (by omega)], show 6 + (3 * r + cc) = 6 + 3 * r + cc by omega]))
  refine pw_iconst (v := 0) (tk tkX5_matchingRules 0 rfl) (by decide) ?_
  refine pw_ist5 (tk tkX5_matchingRules 1 rfl) rfl (by decide) ?_
  refine pw_iconst (v := 0) (tk tkX5_matchingRules 2 rfl) (by decide) ?_
  refine pw_ist6 (tk tkX5_matchingRules 3 rfl) rfl (by decide) ?_
  exact L u 0 (by omega) _ _
set_option maxRecDepth 100000 in
set_option maxHeartbeats 4000000 in
theorem ct_X5_hasRefusing (x : XW) (s : Nat → Int32) (w0 : Int32) (u : Nat) (hs : RS1 (cSt x.1 1) s w0) (hv : VS u s) (p : Nat → Bool) : CT MX5_hasRefusing 1 0 [.ref 161, .int (mkM p u)] (hp x) (Det (.inl (some (.int (bI (decide (¬ mkM (fun i => p i && decide (rN s i 3 = 1)) u = 0)))))) (hp x)) := by
  refine ct_of (by decide +kernel) (by decide) rfl (k := 1) (ls := [some (.ref 161), some (.int (mkM p u)), none]) rfl (Nat.le_of_ble_eq_true rfl) ?_
  have eu := hv.un
  have hu8 := hv.1
  obtain ⟨a1, a2, a3, a4, a5, a6, a7⟩ := hs
  have hu : sSc (cSt x.1 1) 0 = nI u := a3.trans hv.2.1
  have L : ∀ k i, i + k = u → (∀ j, j < i → (fun i => p i && decide (rN s i 3 = 1)) j = false) → PW MX5_hasRefusing 1 0 2 [some (.ref 161), some (.int (mkM p u)), some (.int (nI i))] [] (hp x) (Det (.inl (some (.int (bI (decide (¬ mkM (fun i => p i && decide (rN s i 3 = 1)) u = 0)))))) (hp x)) := by
    intro k
    induction k with
    | zero =>
      intro i hi hq
      obtain rfl : i = u := by omega
      refine pw_iload_n (tk tkX5_hasRefusing 2 rfl) rfl ?_
      refine pw_aload_n (tk tkX5_hasRefusing 3 rfl) rfl ?_
      refine g5_state (tk tkX5_hasRefusing 4 rfl) fkX5_12 ?_
      refine g4_rulesUsed (by first | assumption | decide | omega) (tk tkX5_hasRefusing 5 rfl) fkX5_81 ?_
      rw [show sSc (cSt x.1 1) 0 = nI i from hu]
      refine pw_icmp_ge (tgt := 45) (tk tkX5_hasRefusing 6 rfl) (by decide) (fun c10 => ?_) (fun c10 => absurd (Int32.le_refl _) c10)
      refine pw_iconst (v := 0) (tk tkX5_hasRefusing 25 rfl) (by decide) ?_
      exact pw_ireturn (tk tkX5_hasRefusing 26 rfl) rfl (by decide) (by first | rfl | exact nar_bI _) ⟨by rw [mk_0 _ i hq]; rfl, rfl⟩
    | succ k ih =>
      intro i hi hq
      have q3 := a6 i 3 (by omega) (by omega)
      have nx : (fun i => p i && decide (rN s i 3 = 1)) i = false → ∀ j, j < i + 1 → (fun i => p i && decide (rN s i 3 = 1)) j = false := fun h j hj => by
        rcases Nat.lt_or_ge j i with h1 | h1
        · exact hq j h1
        · rw [show j = i by omega]; exact h
      refine pw_iload_n (tk tkX5_hasRefusing 2 rfl) rfl ?_
      refine pw_aload_n (tk tkX5_hasRefusing 3 rfl) rfl ?_
      refine g5_state (tk tkX5_hasRefusing 4 rfl) fkX5_12 ?_
      refine g4_rulesUsed (by first | assumption | decide | omega) (tk tkX5_hasRefusing 5 rfl) fkX5_81 ?_
      rw [show sSc (cSt x.1 1) 0 = nI u from hu]
      refine pw_icmp_ge (tgt := 45) (tk tkX5_hasRefusing 6 rfl) (by decide) (fun c10 => absurd c10 (nI_ge (by omega) (by omega))) (fun c10 => ?_)
      refine pw_iload_n (tk tkX5_hasRefusing 7 rfl) rfl ?_
      refine pw_iconst (v := 1) (tk tkX5_hasRefusing 8 rfl) (by decide) ?_
      refine pw_iload_n (tk tkX5_hasRefusing 9 rfl) rfl ?_
      refine pw_ishl (tk tkX5_hasRefusing 10 rfl) ?_
      refine pw_iand (tk tkX5_hasRefusing 11 rfl) ?_
      refine pw_if_eq (tgt := 39) (tk tkX5_hasRefusing 12 rfl) (by decide) (fun c18 => ?_) (fun c18 => ?_)
      · refine pw_inc2 (tk tkX5_hasRefusing 23 rfl) rfl (by decide) (nI_1 i) ?_
        refine pw_goto (tgt := 2) (tk tkX5_hasRefusing 24 rfl) (by decide) ?_
        exact ih (i + 1) (by omega) (nx (by show (p i && _) = false; rw [(mk_and0 p hu8 (show i < u by omega)).mp c18]; rfl))
      · refine pw_aload_n (tk tkX5_hasRefusing 13 rfl) rfl ?_
        refine g5_state (tk tkX5_hasRefusing 14 rfl) fkX5_12 ?_
        refine g4_rules (by first | assumption | decide | omega) (tk tkX5_hasRefusing 15 rfl) fkX5_88 ?_
        refine pw_iload_n (tk tkX5_hasRefusing 16 rfl) rfl ?_
        refine al_rules_e (e := i) (by first | assumption | decide | omega) (tk tkX5_hasRefusing 17 rfl) rfl (by first | decide | omega) ?_
        refine g3_action (by first | assumption | decide | omega) (by first | assumption | decide | omega) (tk tkX5_hasRefusing 18 rfl) fkX5_109 ?_
        refine pw_iconst (v := 1) (tk tkX5_hasRefusing 19 rfl) (by decide) ?_
        rw [q3]
        refine pw_icmp_ne (tgt := 39) (tk tkX5_hasRefusing 20 rfl) (by decide) (fun c34 => ?_) (fun c34 => ?_)
        · refine pw_inc2 (tk tkX5_hasRefusing 23 rfl) rfl (by decide) (nI_1 i) ?_
          refine pw_goto (tgt := 2) (tk tkX5_hasRefusing 24 rfl) (by decide) ?_
          exact ih (i + 1) (by omega) (nx (by show (p i && _) = false; rw [decide_eq_false c34, Bool.and_false]))
        · refine pw_iconst (v := 1) (tk tkX5_hasRefusing 21 rfl) (by decide) ?_
          exact pw_ireturn (tk tkX5_hasRefusing 22 rfl) rfl (by decide) (by first | rfl | exact nar_bI _) ⟨by rw [decide_eq_true (mk_ne _ hu8 (show i < u by omega) (by show (p i && _) = true; rw [show p i = true from by by_cases z : p i = true; exact z; exact absurd ((mk_and0 p hu8 (show i < u by omega)).mpr (Bool.eq_false_iff.mpr z)) c18, decide_eq_true c34]; rfl))]; rfl, rfl⟩
  refine pw_iconst (v := 0) (tk tkX5_hasRefusing 0 rfl) (by decide) ?_
  refine pw_ist2 (tk tkX5_hasRefusing 1 rfl) rfl (by decide) ?_
  exact L u 0 (by omega) (fun j hj => absurd hj (Nat.not_lt_zero j))
set_option maxRecDepth 100000 in
set_option maxHeartbeats 4000000 in
theorem ct_X5_alterTable (x : XW) (ev : Int32) (r c : Nat) (v : Int32) (hr : r < 6) (hc : c < 3) : CT MX5_alterTable 1 0 [.ref 161, .int ev, .int (nI r), .int (nI c), .int v] (hp x) (Det (.inl none) (hp (uC1 x 1 (altS (cSt x.1 1) ev r c v)))) := by
  refine ct_of (by decide +kernel) (by decide) rfl (k := 0) (ls := [some (.ref 161), some (.int ev), some (.int (nI r)), some (.int (nI c)), some (.int v)]) rfl (Nat.le_of_ble_eq_true rfl) ?_
  refine pw_iload_n (tk tkX5_alterTable 0 rfl) rfl ?_
  refine pw_iconst (v := 1) (tk tkX5_alterTable 1 rfl) (by decide) ?_
  refine pw_icmp_ne (tgt := 23) (tk tkX5_alterTable 2 rfl) (by decide) (fun c2 => ?_) (fun c2 => ?_)
  · refine pw_aload_n (tk tkX5_alterTable 12 rfl) rfl ?_
    refine g5_state (tk tkX5_alterTable 13 rfl) fkX5_12 ?_
    refine g4_there (by first | assumption | decide | omega) (tk tkX5_alterTable 14 rfl) fkX5_39 ?_
    refine pw_iload_n (tk tkX5_alterTable 15 rfl) rfl ?_
    refine pw_iload_n (tk tkX5_alterTable 16 rfl) rfl ?_
    refine pw_if_ne (tgt := 39) (tk tkX5_alterTable 17 rfl) (by decide) (fun c32 => ?_) (fun c32 => ?_)
    · refine pw_iconst (v := 0) (tk tkX5_alterTable 20 rfl) (by decide) ?_
      refine as_there_e (e := r) (by first | assumption | decide | omega) (tk tkX5_alterTable 21 rfl) rfl (by first | decide | omega) rfl ?_
      exact pw_return (tk tkX5_alterTable 22 rfl) rfl (by decide) ⟨rfl, by unfold altS; simp [c2, c32]⟩
    · refine pw_iconst (v := 1) (tk tkX5_alterTable 18 rfl) (by decide) ?_
      refine pw_goto (tgt := 40) (tk tkX5_alterTable 19 rfl) (by decide) ?_
      refine as_there_e (e := r) (by first | assumption | decide | omega) (tk tkX5_alterTable 21 rfl) rfl (by first | decide | omega) rfl ?_
      exact pw_return (tk tkX5_alterTable 22 rfl) rfl (by decide) ⟨rfl, by unfold altS; simp [c2, c32]⟩
  · refine pw_aload_n (tk tkX5_alterTable 3 rfl) rfl ?_
    refine g5_state (tk tkX5_alterTable 4 rfl) fkX5_12 ?_
    refine g4_values (by first | assumption | decide | omega) (tk tkX5_alterTable 5 rfl) fkX5_43 ?_
    refine pw_iload_n (tk tkX5_alterTable 6 rfl) rfl ?_
    refine pw_iload_n (tk tkX5_alterTable 7 rfl) rfl ?_
    refine pw_cN (ct_X7_cell _ _ _) rfl okX7_cell (tk tkX5_alterTable 8 rfl) mkX5_47 stX7_cell rfl rfl (by decide) (by decide) (Nat.le_of_ble_eq_true rfl) ?_
    refine pw_iload (tk tkX5_alterTable 9 rfl) rfl ?_
    refine as_values_e (e := 3 * r + c) (by first | assumption | decide | omega) (tk tkX5_alterTable 10 rfl) (cl_ix rfl rfl) (by first | decide | omega) ?_
    refine pw_goto (tgt := 41) (tk tkX5_alterTable 11 rfl) (by decide) ?_
    exact pw_return (tk tkX5_alterTable 22 rfl) rfl (by decide) ⟨rfl, by unfold altS; simp [c2]⟩
end
section
def HB (t : TT) : Prop := ∃ k, k ≤ 100 ∧ t.2.1 = nI k
def KH (u : Nat) (t : TT) : Prop := VS u t.1 ∧ HB t
theorem bgT_KH {u : Nat} {t : TT} (h : KH u t) (ev : Int32) {r c : Nat} (v : Int32) (its : Nat) (hr : r < 6) (hc : c < 3) : KH u (bgT u t ev r c v its) := by
  unfold bgT
  by_cases e : bgC t.1 u t.2.1 ev r c v (nI its) = 0
  · rw [if_pos e]
    obtain ⟨k, hk, ek⟩ := h.2
    refine ⟨alt_VS h.1 ev v hr hc, k + 1, ?_, by rw [ek, nI_1]⟩
    by_cases q : k = 100
    · exfalso
      unfold bgC at e
      by_cases z : ¬ nI its ≤ t.1 24
      · rw [if_pos z] at e; exact absurd e (by decide)
      · rw [if_neg z, if_pos (by rw [ek, q]; rfl)] at e; exact absurd e (by decide)
    · omega
  · rw [if_neg e]; exact ⟨h.1, h.2⟩
theorem lpT_KH {u : Nat} {F : Nat → TT → TT} (hF : ∀ i t, i < u → KH u t → KH u (F i t)) (p : Nat → Bool) : ∀ (k i : Nat) (t : TT), i + k = u → KH u t → KH u (lpT F p k i t)
  | 0, _, _, _, h => h
  | k + 1, i, t, e, h => by
    refine lpT_KH hF p k (i + 1) _ (by omega) ?_
    by_cases q : p i = true ∧ t.2.2.2 = 0
    · rw [if_pos q]; exact hF i t (by omega) h
    · rw [if_neg q]; exact h
theorem acT_KH {u : Nat} {H : TT → Int32 → Nat → Nat → Int32 → Nat → TT} (hH : ∀ t ev r c v d, r < 6 → c < 3 → KH u t → KH u (H t ev r c v d)) (d : Nat) (i : Nat) (t : TT) (hi : i < u) (h : KH u t) : KH u (acT H d i t) := by
  obtain ⟨er, hr⟩ := ro_e h.1 hi
  obtain ⟨ec, hc⟩ := co_e h.1 hi
  have h1 : ∀ z, KH u (lgS t.1 i (nI d), t.2.1, z) := fun z => ⟨lgS_VS h.1 _ hi, h.2⟩
  unfold acT
  split
  · exact h1 _
  · split
    · exact hH _ _ _ _ _ _ hr (by decide) (h1 _)
    · split
      · exact h1 _
      · split
        · exact h1 _
        · exact hH _ _ _ _ _ _ hr hc (h1 _)
theorem hapT_KH (u : Nat) : ∀ (f : Nat) (t : TT) (ev : Int32) (r c : Nat) (v : Int32) (d : Nat), r < 6 → c < 3 → KH u t → KH u (hapT u f t ev r c v d)
  | 0, t, ev, r, c, v, d, hr, hc, h => bgT_KH h ev v d hr hc
  | f + 1, t, ev, r, c, v, d, hr, hc, h => by
    show KH u (if _ then _ else _)
    split
    · exact lpT_KH (fun i t hi ht => acT_KH (fun t ev r c v d => hapT_KH u f t ev r c v d) d i t hi ht) _ u 0 _ (by omega) (bgT_KH h ev v d hr hc)
    · exact bgT_KH h ev v d hr hc
/-- all but the trial's state and numbers -/
def FC (x y : XW) : Prop := y.2 = x.2 ∧ (∀ b, b ≠ 1 → cSt y.1 b = cSt x.1 b) ∧ y.1.2.2 = x.1.2.2
theorem FC.rf (x : XW) : FC x x := ⟨rfl, fun _ _ => rfl, rfl⟩
theorem FC.tr {x y z : XW} (h : FC x y) (g : FC y z) : FC x z := ⟨g.1.trans h.1, fun b hb => (g.2.1 b hb).trans (h.2.1 b hb), g.2.2.trans h.2.2⟩
theorem FC.c1 {x y : XW} (h : FC x y) (σ : SS) : FC x (uC1 y 1 σ) := ⟨h.1, fun b hb => (cSt_n _ _ hb).trans (h.2.1 b hb), h.2.2⟩
theorem FC.c2 {x y : XW} (h : FC x y) (f : Nat → Int32) : FC x (uC2 y f) := ⟨h.1, h.2.1, h.2.2⟩
/-- the trial is at t -/
def RT (x : XW) (t : TT) : Prop := RS1 (cSt x.1 1) t.1 (t.1 98 + t.2.1) ∧ cSm x.1 0 = t.2.1 ∧ cSm x.1 1 = t.2.2.1 ∧ cSm x.1 2 = t.2.2.2
theorem RS1.ev {σ : SS} {s : Nat → Int32} {v : Int32} (h : RS1 σ s v) (w : Int32) : RS1 (uS7 σ (upd (sSc σ) 2 w)) s w := ⟨h.1, h.2.1, h.2.2.1, h.2.2.2.1, rfl, h.2.2.2.2.2.1, h.2.2.2.2.2.2⟩
theorem RT.rf {x : XW} {t : TT} (h : RT x t) (w : Int32) : RT (uC2 x (upd (cSm x.1) 2 w)) (t.1, t.2.1, t.2.2.1, w) := ⟨h.1, h.2.1, h.2.2.1, rfl⟩
theorem mx_max (a b : Int32) : (if a < b then b else a) = mx b a := by
  unfold mx
  by_cases h : a < b
  · rw [if_pos h, if_neg (Int32.not_le.mpr h)]
  · rw [if_neg h, if_pos (Int32.not_lt.mp h)]
theorem inR_t {r n : Nat} (h : r ≤ n) (hn : n < 2 ^ 31) : inR (nI r) 0 (nI n) = true := by
  unfold inR; rw [decide_eq_true (nI_pos (by omega)), decide_eq_true (nI_nlt h hn)]; rfl
theorem hap_bad {u f : Nat} {t : TT} {ev : Int32} {r c : Nat} {v : Int32} {its : Nat} (k : Int32) (hk : ¬ k = 0) (h : bgC t.1 u t.2.1 ev r c v (nI its) = k) : hapT u f t ev r c v its = (t.1, t.2.1, t.2.2.1, k) := by
  rw [hapT_bad u f t ev r c v its (by rw [h]; exact hk)]
  unfold bgT
  rw [if_neg (by rw [h]; exact hk), h]
def hnQ (x : XW) (R : TT) : Out → Hp → Prop := fun o h2 => o = .inl none ∧ ∃ y, h2 = hp y ∧ FC x y ∧ RT y R
theorem hnQ.of {x y : XW} {R : TT} {o : Out} {h2 : Hp} (h : FC x y) (q : hnQ y R o h2) : hnQ x R o h2 := by
  obtain ⟨a, z, b, c, d⟩ := q; exact ⟨a, z, b, h.tr c, d⟩
def HC (u f : Nat) : Prop := ∀ its, its + f = 6 → ∀ (x : XW) (t : TT) (ev : Int32) (r c : Nat) (v : Int32), KH u t → RT x t → t.2.2.2 = 0 → r < 6 → c < 3 → CT MX5_happen (2 * f + 3) 0 [.ref 161, .int ev, .int (nI r), .int (nI c), .int v, .int (nI its)] (hp x) (hnQ x (hapT u f t ev r c v its))
def AC (u f : Nat) : Prop := ∀ its, its + f = 5 → ∀ (x : XW) (t : TT) (i : Nat), KH u t → RT x t → t.2.2.2 = 0 → i < u → ¬ rN t.1 i 3 = 1 → CT MX5_act (2 * f + 4) 0 [.ref 161, .int (nI i), .int (nI its)] (hp x) (hnQ x (acT (hapT u f) its i t))
set_option maxRecDepth 100000 in
set_option maxHeartbeats 4000000 in
theorem ct_X5_act (u f : Nat) (HCf : HC u f) : AC u f := by
  intro its hits x t i hk hx h0 hi hne
  refine ct_of (by decide +kernel) (by decide) rfl (k := 3) (ls := [some (.ref 161), some (.int (nI i)), some (.int (nI its)), none, none, none]) rfl (Nat.le_of_ble_eq_true rfl) ?_
  have hv := hk.1
  have hu8 := hv.1
  have eu := hv.un
  obtain ⟨er, hr⟩ := ro_e hv hi
  obtain ⟨ec, hc⟩ := co_e hv hi
  have nt : ∀ j, j < 99 → j ≠ 26 + 9 * i + 8 → lgS t.1 i (nI its) j = t.1 j := fun j h1 h2 => lgS_nt t.1 i _ h1 h2
  obtain ⟨l, ⟨l1, l2, la, l3, l4, l5⟩, l6⟩ := hx.1.2.2.2.2.2.2
  have hR := hx.1.act (i := i) (by omega) (by omega) (nI its) l1 l3 l5 l6
  obtain ⟨τ, eτ⟩ : ∃ τ, τ = ntS (uS3 (cSt x.1 1) (upR (sRu (cSt x.1 1)) i (upd (sRu (cSt x.1 1) i) 8 (sRu (cSt x.1 1) i 8 + 1)))) la l.length (nI i) (nI its) := ⟨_, rfl⟩
  rw [← eτ] at hR
  obtain ⟨z, ez⟩ : ∃ z, z = uC1 x 1 τ := ⟨_, rfl⟩
  have fz : FC x z := by rw [ez]; exact (FC.rf x).c1 τ
  have ezs : cSt z.1 1 = τ := by rw [ez, cSt_u]
  have rz : RT z (lgS t.1 i (nI its), t.2) := by
    refine ⟨?_, by rw [ez]; exact hx.2.1, by rw [ez]; exact hx.2.2.1, by rw [ez]; exact hx.2.2.2⟩
    rw [ezs]
    show RS1 τ (lgS t.1 i (nI its)) (lgS t.1 i (nI its) 98 + t.2.1)
    rw [nt 98 (by omega) (by omega)]; exact hR
  have kz : KH u (lgS t.1 i (nI its), t.2) := ⟨lgS_VS hv _ hi, hk.2⟩
  obtain ⟨a1, a2, a3, a4, a5, a6, a7⟩ := rz.1
  have eu2 : uN (lgS t.1 i (nI its)) = u := kz.1.un
  have hru : ∀ k, k < 8 → sRu (cSt z.1 1) i k = rN t.1 i k := fun k h8 => (a6 i k (by show i < uN (lgS t.1 i (nI its)); omega) (by omega)).trans (nt _ (by omega) (by omega))
  have e4 := hru 4 (by omega)
  have e3 := hru 3 (by omega)
  have e5 := hru 5 (by omega)
  have e6 := hru 6 (by omega)
  have eth : sTh (cSt z.1 1) (ro t.1 i) = lgS t.1 i (nI its) (ro t.1 i) := a1 _ hr
  have eva : sVa (cSt z.1 1) (3 * ro t.1 i + co t.1 i) = lgS t.1 i (nI its) (6 + 3 * ro t.1 i + co t.1 i) := by rw [a2 _ (by omega), ← Nat.add_assoc]
  have hrow : inR (nI (ro t.1 i)) 0 5 = true := inR_t (n := 5) (by omega) (by decide)
  have J : PW MX5_act (2 * f + 4) 0 32 [some (.ref 161), some (.int (nI i)), some (.int (nI its)), some (.ref (16 * 1 + (7 + i))), none, none] [] (hp z) (hnQ x (acT (hapT u f) its i t)) := by
    refine pw_aload_n (tk tkX5_act 18 rfl) rfl ?_
    refine g3_targetRow (by first | assumption | decide | omega) (by first | assumption | decide | omega) (tk tkX5_act 19 rfl) fkX5_106 ?_
    rw [e4, er]
    refine pw_ist4 (tk tkX5_act 20 rfl) rfl (by decide) ?_
    refine pw_aload_n (tk tkX5_act 21 rfl) rfl ?_
    refine g5_state (tk tkX5_act 22 rfl) fkX5_12 ?_
    refine pw_iload (tk tkX5_act 23 rfl) rfl ?_
    refine pw_cV (ct_X4_isThere z 1 (by decide) _) okX4_isThere (tk tkX5_act 24 rfl) mkX5_55 imX4_isThere seX4_isThere (hp_st _ (by decide : 1 < 10) (by decide : 0 < 16)) rfl rfl rfl (by omega) (by decide) (Nat.le_of_ble_eq_true rfl) ?_
    rw [hrow, Bool.true_and, show ((nI (ro t.1 i)).toNatClampNeg) = ro t.1 i from nI_clamp (by omega), eth]
    refine pw_ifnb (tgt := 51) (tk tkX5_act 25 rfl) (by decide) (fun c47 => ?_) (fun c47 => ?_)
    · have n47 : ¬ lgS t.1 i (nI its) (ro t.1 i) = 0 := of_decide_eq_true c47
      refine pw_aload_n (tk tkX5_act 27 rfl) rfl ?_
      refine g3_action (by first | assumption | decide | omega) (by first | assumption | decide | omega) (tk tkX5_act 28 rfl) fkX5_109 ?_
      rw [e3]
      refine pw_iconst (v := 3) (tk tkX5_act 29 rfl) (by decide) ?_
      refine pw_icmp_ne (tgt := 74) (tk tkX5_act 30 rfl) (by decide) (fun c56 => ?_) (fun c56 => ?_)
      · refine pw_aload_n (tk tkX5_act 41 rfl) rfl ?_
        refine g3_action (by first | assumption | decide | omega) (by first | assumption | decide | omega) (tk tkX5_act 42 rfl) fkX5_109 ?_
        rw [e3]
        refine pw_iconst (v := 2) (tk tkX5_act 43 rfl) (by decide) ?_
        refine pw_icmp_ne (tgt := 145) (tk tkX5_act 44 rfl) (by decide) (fun c79 => ?_) (fun c79 => ?_)
        · refine pw_return (tk tkX5_act 77 rfl) rfl (by decide) ?_
          refine ⟨rfl, z, rfl, fz, ?_⟩
          rw [show acT (hapT u f) its i t = (lgS t.1 i (nI its), t.2) from if_pos (Or.inl (by
            rcases (hv.2.2.2.2.2 i hi).2.2.2.2 with q | q | q | q
            · exact q
            · exact absurd q hne
            · exact absurd q c79
            · exact absurd q c56))]
          exact rz
        · refine pw_aload_n (tk tkX5_act 45 rfl) rfl ?_
          refine g5_state (tk tkX5_act 46 rfl) fkX5_12 ?_
          refine g4_values (by first | assumption | decide | omega) (tk tkX5_act 47 rfl) fkX5_43 ?_
          refine pw_iload (tk tkX5_act 48 rfl) rfl ?_
          refine pw_aload_n (tk tkX5_act 49 rfl) rfl ?_
          refine g3_targetColumn (by first | assumption | decide | omega) (by first | assumption | decide | omega) (tk tkX5_act 50 rfl) fkX5_112 ?_
          rw [e5]
          refine pw_cN (ct_X7_cell _ _ _) rfl okX7_cell (tk tkX5_act 51 rfl) mkX5_47 stX7_cell rfl rfl (by omega) (by decide) (Nat.le_of_ble_eq_true rfl) ?_
          refine al_values_e (e := 3 * ro t.1 i + co t.1 i) (by first | assumption | decide | omega) (tk tkX5_act 52 rfl) (cl_ix rfl ec) (by first | decide | omega) ?_
          rw [eva]
          refine pw_aload_n (tk tkX5_act 53 rfl) rfl ?_
          refine g3_amount (by first | assumption | decide | omega) (by first | assumption | decide | omega) (tk tkX5_act 54 rfl) fkX5_115 ?_
          refine pw_iadd (tk tkX5_act 55 rfl) ?_
          rw [e6]
          refine pw_ist5 (tk tkX5_act 56 rfl) rfl (by decide) ?_
          refine pw_iload (tk tkX5_act 57 rfl) rfl ?_
          refine pw_cN (ct_X7_isValue _ _) rfl okX7_isValue (tk tkX5_act 58 rfl) mkX5_118 stX7_isValue rfl rfl (by omega) (by decide) (Nat.le_of_ble_eq_true rfl) ?_
          refine pw_ifnb (tgt := 122) (tk tkX5_act 59 rfl) (by decide) (fun c111 => ?_) (fun c111 => ?_)
          · refine pw_aload_n (tk tkX5_act 64 rfl) rfl ?_
            refine g3_amount (by first | assumption | decide | omega) (by first | assumption | decide | omega) (tk tkX5_act 65 rfl) fkX5_115 ?_
            rw [e6]
            refine pw_if_eq (tgt := 145) (tk tkX5_act 66 rfl) (by decide) (fun c126 => ?_) (fun c126 => ?_)
            · refine pw_return (tk tkX5_act 77 rfl) rfl (by decide) ?_
              refine ⟨rfl, z, rfl, fz, ?_⟩
              rw [show acT (hapT u f) its i t = (lgS t.1 i (nI its), t.2) from (if_neg (fun q => q.elim (fun q => absurd (q.symm.trans c79) (by decide)) n47)).trans ((if_neg c56).trans ((if_neg (ne_f c111)).trans (if_pos ((ad_0 _ _).mpr c126))))]
              exact rz
            · refine pw_aload_n (tk tkX5_act 67 rfl) rfl ?_
              refine pw_iconst (v := 1) (tk tkX5_act 68 rfl) (by decide) ?_
              refine pw_iload (tk tkX5_act 69 rfl) rfl ?_
              refine pw_aload_n (tk tkX5_act 70 rfl) rfl ?_
              refine g3_targetColumn (by first | assumption | decide | omega) (by first | assumption | decide | omega) (tk tkX5_act 71 rfl) fkX5_112 ?_
              refine pw_iload (tk tkX5_act 72 rfl) rfl ?_
              refine pw_iload_n (tk tkX5_act 73 rfl) rfl ?_
              refine pw_iconst (v := 1) (tk tkX5_act 74 rfl) (by decide) ?_
              refine pw_iadd (tk tkX5_act 75 rfl) ?_
              rw [nI_1, e5, ec]
              refine pw_callV (HCf (its + 1) (by omega) z (lgS t.1 i (nI its), t.2) 1 (ro t.1 i) (co t.1 i) (lgS t.1 i (nI its) (6 + 3 * ro t.1 i + co t.1 i) + rN t.1 i 6) kz rz h0 hr hc) okX5_happen (tk tkX5_act 76 rfl) mkX5_51 imX5_happen seX5_happen (hp_ot _ 1) rfl rfl rfl (by omega) (by decide) (Nat.le_of_ble_eq_true rfl) (fun r h2 q => ?_) (fun E h2 q => by cases q.1)
              obtain ⟨ho, y, rfl, fy, ry⟩ := q
              cases ho
              refine pw_return (tk tkX5_act 77 rfl) rfl (by decide) ?_
              refine ⟨rfl, y, rfl, fz.tr fy, ?_⟩
              rw [show acT (hapT u f) its i t = hapT u f (lgS t.1 i (nI its), t.2) 1 (ro t.1 i) (co t.1 i) (lgS t.1 i (nI its) (6 + 3 * ro t.1 i + co t.1 i) + rN t.1 i 6) (its + 1) from (if_neg (fun q => q.elim (fun q => absurd (q.symm.trans c79) (by decide)) n47)).trans ((if_neg c56).trans ((if_neg (ne_f c111)).trans (if_neg (fun q => c126 ((ad_0 _ _).mp q)))))]
              exact ry
          · refine pw_aload_n (tk tkX5_act 60 rfl) rfl ?_
            refine pw_iconst (v := 2) (tk tkX5_act 61 rfl) (by decide) ?_
            refine p5_refusal (tk tkX5_act 62 rfl) fkX5_29 ?_
            refine pw_goto (tgt := 145) (tk tkX5_act 63 rfl) (by decide) ?_
            refine pw_return (tk tkX5_act 77 rfl) rfl (by decide) ?_
            refine ⟨rfl, _, rfl, fz.c2 _, ?_⟩
            rw [show acT (hapT u f) its i t = (lgS t.1 i (nI its), t.2.1, t.2.2.1, 2) from (if_neg (fun q => q.elim (fun q => absurd (q.symm.trans c79) (by decide)) n47)).trans ((if_neg c56).trans (if_pos c111))]
            exact rz.rf 2
      · refine pw_aload_n (tk tkX5_act 31 rfl) rfl ?_
        refine pw_iconst (v := 2) (tk tkX5_act 32 rfl) (by decide) ?_
        refine pw_iload (tk tkX5_act 33 rfl) rfl ?_
        refine pw_iconst (v := 0) (tk tkX5_act 34 rfl) (by decide) ?_
        refine pw_iconst (v := 0) (tk tkX5_act 35 rfl) (by decide) ?_
        refine pw_iload_n (tk tkX5_act 36 rfl) rfl ?_
        refine pw_iconst (v := 1) (tk tkX5_act 37 rfl) (by decide) ?_
        refine pw_iadd (tk tkX5_act 38 rfl) ?_
        rw [nI_1]
        refine pw_callV (HCf (its + 1) (by omega) z (lgS t.1 i (nI its), t.2) 2 (ro t.1 i) 0 0 kz rz h0 hr (by decide)) okX5_happen (tk tkX5_act 39 rfl) mkX5_51 imX5_happen seX5_happen (hp_ot _ 1) rfl rfl rfl (by omega) (by decide) (Nat.le_of_ble_eq_true rfl) (fun r h2 q => ?_) (fun E h2 q => by cases q.1)
        obtain ⟨ho, y, rfl, fy, ry⟩ := q
        cases ho
        refine pw_goto (tgt := 145) (tk tkX5_act 40 rfl) (by decide) ?_
        refine pw_return (tk tkX5_act 77 rfl) rfl (by decide) ?_
        refine ⟨rfl, y, rfl, fz.tr fy, ?_⟩
        rw [show acT (hapT u f) its i t = hapT u f (lgS t.1 i (nI its), t.2) 2 (ro t.1 i) 0 0 (its + 1) from (if_neg (fun q => q.elim (fun q => absurd (q.symm.trans c56) (by decide)) n47)).trans (if_pos c56)]
        exact ry
    · refine pw_return (tk tkX5_act 26 rfl) rfl (by decide) ?_
      refine ⟨rfl, z, rfl, fz, ?_⟩
      rw [show acT (hapT u f) its i t = (lgS t.1 i (nI its), t.2) from if_pos (Or.inr (by by_cases q : lgS t.1 i (nI its) (ro t.1 i) = 0; exact q; rw [decide_eq_true q] at c47; cases c47))]
      exact rz
  refine pw_aload_n (tk tkX5_act 0 rfl) rfl ?_
  refine g5_state (tk tkX5_act 1 rfl) fkX5_12 ?_
  refine g4_rules (by first | assumption | decide | omega) (tk tkX5_act 2 rfl) fkX5_88 ?_
  refine pw_iload_n (tk tkX5_act 3 rfl) rfl ?_
  refine al_rules_e (e := i) (by first | assumption | decide | omega) (tk tkX5_act 4 rfl) rfl (by first | decide | omega) ?_
  refine pw_ast3 (tk tkX5_act 5 rfl) rfl (by decide) ?_
  refine pw_aload_n (tk tkX5_act 6 rfl) rfl ?_
  refine pw_dup (tk tkX5_act 7 rfl) rfl ?_
  refine g3_acts (by first | assumption | decide | omega) (by first | assumption | decide | omega) (tk tkX5_act 8 rfl) fkX5_92 ?_
  refine pw_iconst (v := 1) (tk tkX5_act 9 rfl) (by decide) ?_
  refine pw_iadd (tk tkX5_act 10 rfl) ?_
  refine p3_acts (by first | assumption | decide | omega) (by first | assumption | decide | omega) (tk tkX5_act 11 rfl) fkX5_92 ?_
  refine pw_aload_n (tk tkX5_act 12 rfl) rfl ?_
  refine g5_state (tk tkX5_act 13 rfl) fkX5_12 ?_
  refine g4_log (by first | assumption | decide | omega) (tk tkX5_act 14 rfl) fkX5_97 ?_
  refine pw_iload_n (tk tkX5_act 15 rfl) rfl ?_
  refine pw_iload_n (tk tkX5_act 16 rfl) rfl ?_
  refine pw_cV0 (ct_X2_note _ 1 la l.length (by decide) (by rw [cSt_u]; exact l4) l3 (by rw [cSt_u]; exact l2) l1 (nI i) (nI its)) okX2_note (tk tkX5_act 17 rfl) mkX5_101 imX2_note seX2_note (hp_st _ (by decide : 1 < 10) (by decide : 4 < 16)) rfl rfl rfl (by omega) (by decide) (Nat.le_of_ble_eq_true rfl) ?_
  rw [cSt_u, uC1_uC1, ← eτ, ← ez]
  exact J
set_option maxRecDepth 100000 in
set_option maxHeartbeats 4000000 in
theorem ct_X5_happen (u f : Nat) (ACf : ∀ g, f = g + 1 → AC u g) : HC u f := by
  intro its hits x t ev r c v hk hx h0 hr hc
  refine ct_of (by decide +kernel) (by decide) rfl (k := 2) (ls := [some (.ref 161), some (.int ev), some (.int (nI r)), some (.int (nI c)), some (.int v), some (.int (nI its)), none, none]) rfl (Nat.le_of_ble_eq_true rfl) ?_
  have hv := hk.1
  have hu8 := hv.1
  have eu := hv.un
  obtain ⟨dp, hdp, edp⟩ := hv.2.2.1
  obtain ⟨k0, hk0, ek0⟩ := hk.2
  have L : ∀ g, f = g + 1 → (∀ j, j < u → (mtB t.1 ev r (nI c) v) j = true → ¬ rN t.1 j 3 = 1) → ∀ k i, i + k = u → ∀ (y : XW) (t2 : TT), FC x y → RT y t2 → KH u t2 → KV u t.1 t2 → PW MX5_happen (2 * f + 3) 0 107 [some (.ref 161), some (.int ev), some (.int (nI r)), some (.int (nI c)), some (.int v), some (.int (nI its)), some (.int (mkM (mtB t.1 ev r (nI c) v) u)), some (.int (nI i))] [] (hp y) (hnQ x (lpT (acT (hapT u g) its) (mtC t.1 ev r (nI c) v false) k i t2)) := by
    intro g hg hno k
    induction k with
    | zero =>
      intro i hi y t2 fy ry kh kv
      obtain rfl : i = u := by omega
      refine pw_iload (tk tkX5_happen 59 rfl) rfl ?_
      refine pw_aload_n (tk tkX5_happen 60 rfl) rfl ?_
      refine g5_state (tk tkX5_happen 61 rfl) fkX5_12 ?_
      refine g4_rulesUsed (by first | assumption | decide | omega) (tk tkX5_happen 62 rfl) fkX5_81 ?_
      rw [ry.1.2.2.1, kh.1.2.1]
      refine pw_icmp_ge (tgt := 150) (tk tkX5_happen 63 rfl) (by decide) (fun c116 => ?_) (fun c116 => absurd (Int32.le_refl _) c116)
      exact pw_return (tk tkX5_happen 79 rfl) rfl (by decide) ⟨rfl, y, rfl, fy, ry⟩
    | succ k ih =>
      intro i hi y t2 fy ry kh kv
      have hiu : i < u := by omega
      have skip : ¬ ((mtC t.1 ev r (nI c) v false) i = true ∧ t2.2.2.2 = 0) → lpT (acT (hapT u g) its) (mtC t.1 ev r (nI c) v false) (k + 1) i t2 = lpT (acT (hapT u g) its) (mtC t.1 ev r (nI c) v false) k (i + 1) t2 := fun q => congrArg (lpT (acT (hapT u g) its) (mtC t.1 ev r (nI c) v false) k (i + 1)) (if_neg q)
      have goes : ((mtC t.1 ev r (nI c) v false) i = true ∧ t2.2.2.2 = 0) → lpT (acT (hapT u g) its) (mtC t.1 ev r (nI c) v false) (k + 1) i t2 = lpT (acT (hapT u g) its) (mtC t.1 ev r (nI c) v false) k (i + 1) (acT (hapT u g) its i t2) := fun q => congrArg (lpT (acT (hapT u g) its) (mtC t.1 ev r (nI c) v false) k (i + 1)) (if_pos q)
      have pp : (mtC t.1 ev r (nI c) v false) i = (mtB t.1 ev r (nI c) v) i := by
        unfold mtC
        by_cases z : (mtB t.1 ev r (nI c) v) i = true
        · rw [z, decide_eq_false (hno i hiu z)]; rfl
        · rw [Bool.eq_false_iff.mpr z]; rfl
      refine pw_iload (tk tkX5_happen 59 rfl) rfl ?_
      refine pw_aload_n (tk tkX5_happen 60 rfl) rfl ?_
      refine g5_state (tk tkX5_happen 61 rfl) fkX5_12 ?_
      refine g4_rulesUsed (by first | assumption | decide | omega) (tk tkX5_happen 62 rfl) fkX5_81 ?_
      rw [ry.1.2.2.1, kh.1.2.1]
      refine pw_icmp_ge (tgt := 150) (tk tkX5_happen 63 rfl) (by decide) (fun c116 => absurd c116 (nI_ge (by omega) (by omega))) (fun c116 => ?_)
      refine pw_aload_n (tk tkX5_happen 64 rfl) rfl ?_
      refine g5_refusal (tk tkX5_happen 65 rfl) fkX5_29 ?_
      rw [ry.2.2.2]
      refine pw_if_ne (tgt := 150) (tk tkX5_happen 66 rfl) (by decide) (fun c123 => ?_) (fun c123 => ?_)
      · refine pw_return (tk tkX5_happen 79 rfl) rfl (by decide) ?_
        rw [lpT_stop _ _ _ _ _ c123]
        exact ⟨rfl, y, rfl, fy, ry⟩
      · refine pw_iload (tk tkX5_happen 67 rfl) rfl ?_
        refine pw_iconst (v := 1) (tk tkX5_happen 68 rfl) (by decide) ?_
        refine pw_iload (tk tkX5_happen 69 rfl) rfl ?_
        refine pw_ishl (tk tkX5_happen 70 rfl) ?_
        refine pw_iand (tk tkX5_happen 71 rfl) ?_
        refine pw_if_eq (tgt := 144) (tk tkX5_happen 72 rfl) (by decide) (fun c133 => ?_) (fun c133 => ?_)
        · refine pw_inc7 (tk tkX5_happen 77 rfl) rfl (by decide) (nI_1 i) ?_
          refine pw_goto (tgt := 107) (tk tkX5_happen 78 rfl) (by decide) ?_
          rw [skip (fun q => Bool.noConfusion (((mk_and0 _ hu8 hiu).mp c133).symm.trans (pp.symm.trans q.1)))]
          exact ih (i + 1) (by omega) y t2 fy ry kh kv
        · have pt : (mtB t.1 ev r (nI c) v) i = true := by
            by_cases z : (mtB t.1 ev r (nI c) v) i = true
            · exact z
            · exact absurd ((mk_and0 _ hu8 hiu).mpr (Bool.eq_false_iff.mpr z)) c133
          refine pw_aload_n (tk tkX5_happen 73 rfl) rfl ?_
          refine pw_iload (tk tkX5_happen 74 rfl) rfl ?_
          refine pw_iload (tk tkX5_happen 75 rfl) rfl ?_
          refine pw_callV (ACf g hg its (by omega) y t2 i kh ry c123 hiu (by rw [kv.2.ru (by omega) (by omega)]; exact hno i hiu pt)) okX5_act (tk tkX5_happen 76 rfl) mkX5_84 imX5_act seX5_act (hp_ot _ 1) rfl rfl rfl (by omega) (by decide) (Nat.le_of_ble_eq_true rfl) (fun r h2 q => ?_) (fun E h2 q => by cases q.1)
          obtain ⟨ho, z, rfl, fz, rz⟩ := q
          cases ho
          refine pw_inc7 (tk tkX5_happen 77 rfl) rfl (by decide) (nI_1 i) ?_
          refine pw_goto (tgt := 107) (tk tkX5_happen 78 rfl) (by decide) ?_
          rw [goes ⟨pp.trans pt, c123⟩]
          exact ih (i + 1) (by omega) z _ (fy.tr fz) rz (acT_KH (fun t ev r c v d => hapT_KH u g t ev r c v d) its i t2 hiu kh) (acT_KV (fun t ev r c v d => hapT_KV u _ g t ev r c v d) its i t2 hiu kv)
  refine pw_iload (tk tkX5_happen 0 rfl) rfl ?_
  refine pw_aload_n (tk tkX5_happen 1 rfl) rfl ?_
  refine g5_state (tk tkX5_happen 2 rfl) fkX5_12 ?_
  refine g4_depth (by first | assumption | decide | omega) (tk tkX5_happen 3 rfl) fkX5_61 ?_
  rw [hx.1.2.2.2.1]
  refine pw_icmp_le (tgt := 18) (tk tkX5_happen 4 rfl) (by decide) (fun c9 => ?_) (fun c9 => ?_)
  · refine pw_aload_n (tk tkX5_happen 9 rfl) rfl ?_
    refine g5_events (tk tkX5_happen 10 rfl) fkX5_22 ?_
    refine pw_bipush (v := 100) (tk tkX5_happen 11 rfl) (by decide) ?_
    rw [hx.2.1]
    refine pw_icmp_lt (tgt := 33) (tk tkX5_happen 12 rfl) (by decide) (fun c24 => ?_) (fun c24 => ?_)
    · refine pw_aload_n (tk tkX5_happen 17 rfl) rfl ?_
      refine pw_iload_n (tk tkX5_happen 18 rfl) rfl ?_
      refine pw_iload_n (tk tkX5_happen 19 rfl) rfl ?_
      refine pw_iload_n (tk tkX5_happen 20 rfl) rfl ?_
      refine pw_iload (tk tkX5_happen 21 rfl) rfl ?_
      refine pw_cV (ct_X5_matchingRules x t.1 _ u r hx.1 hv hr ev (nI c) v) okX5_matchingRules (tk tkX5_happen 22 rfl) mkX5_64 imX5_matchingRules seX5_matchingRules (hp_ot _ 1) rfl rfl rfl (by omega) (by decide) (Nat.le_of_ble_eq_true rfl) ?_
      refine pw_ist6 (tk tkX5_happen 23 rfl) rfl (by decide) ?_
      refine pw_aload_n (tk tkX5_happen 24 rfl) rfl ?_
      refine pw_iload (tk tkX5_happen 25 rfl) rfl ?_
      refine pw_cV (ct_X5_hasRefusing x t.1 _ u hx.1 hv (mtB t.1 ev r (nI c) v)) okX5_hasRefusing (tk tkX5_happen 26 rfl) mkX5_68 imX5_hasRefusing seX5_hasRefusing (hp_ot _ 1) rfl rfl rfl (by omega) (by decide) (Nat.le_of_ble_eq_true rfl) ?_
      refine pw_ifb (tgt := 59) (tk tkX5_happen 27 rfl) (by decide) (fun c50 => ?_) (fun c50 => ?_)
      · have eq2 : mkM (mtC t.1 ev r (nI c) v true) u = mkM (fun i => (mtB t.1 ev r (nI c) v) i && decide (rN t.1 i 3 = 1)) u := mkM_cg u (fun j _ => by unfold mtC; cases decide (rN t.1 j 3 = 1) <;> rfl)
        have eq : mkM (mtC t.1 ev r (nI c) v true) u = 0 := by
          rw [eq2]
          by_cases z : mkM (fun i => (mtB t.1 ev r (nI c) v) i && decide (rN t.1 i 3 = 1)) u = 0
          · exact z
          · rw [decide_eq_true z] at c50; cases c50
        refine pw_aload_n (tk tkX5_happen 32 rfl) rfl ?_
        refine pw_iload_n (tk tkX5_happen 33 rfl) rfl ?_
        refine pw_iload_n (tk tkX5_happen 34 rfl) rfl ?_
        refine pw_iload_n (tk tkX5_happen 35 rfl) rfl ?_
        refine pw_iload (tk tkX5_happen 36 rfl) rfl ?_
        refine pw_cV0 (ct_X5_alterTable x ev r c v hr hc) okX5_alterTable (tk tkX5_happen 37 rfl) mkX5_71 imX5_alterTable seX5_alterTable (hp_ot _ 1) rfl rfl rfl (by omega) (by decide) (Nat.le_of_ble_eq_true rfl) ?_
        refine pw_aload_n (tk tkX5_happen 38 rfl) rfl ?_
        refine pw_dup (tk tkX5_happen 39 rfl) rfl ?_
        refine g5_events (tk tkX5_happen 40 rfl) fkX5_22 ?_
        refine pw_iconst (v := 1) (tk tkX5_happen 41 rfl) (by decide) ?_
        refine pw_iadd (tk tkX5_happen 42 rfl) ?_
        refine p5_events (tk tkX5_happen 43 rfl) fkX5_22 ?_
        refine pw_aload_n (tk tkX5_happen 44 rfl) rfl ?_
        refine g5_state (tk tkX5_happen 45 rfl) fkX5_12 ?_
        refine pw_dup (tk tkX5_happen 46 rfl) rfl ?_
        refine g4_events (by first | assumption | decide | omega) (tk tkX5_happen 47 rfl) fkX5_75 ?_
        refine pw_iconst (v := 1) (tk tkX5_happen 48 rfl) (by decide) ?_
        refine pw_iadd (tk tkX5_happen 49 rfl) ?_
        refine p4_events (by first | assumption | decide | omega) (tk tkX5_happen 50 rfl) fkX5_75 ?_
        refine pw_aload_n (tk tkX5_happen 51 rfl) rfl ?_
        refine pw_aload_n (tk tkX5_happen 52 rfl) rfl ?_
        refine g5_deepest (tk tkX5_happen 53 rfl) fkX5_26 ?_
        refine pw_iload (tk tkX5_happen 54 rfl) rfl ?_
        refine pw_max (tk tkX5_happen 55 rfl) mkX5_76 st_max in_Math co_max (by omega) (Nat.le_of_ble_eq_true rfl) ?_
        rw [mx_max]
        refine p5_deepest (tk tkX5_happen 56 rfl) fkX5_26 ?_
        refine pw_iconst (v := 0) (tk tkX5_happen 57 rfl) (by decide) ?_
        refine pw_ist7 (tk tkX5_happen 58 rfl) rfl (by decide) ?_
        have e0 : bgC t.1 u t.2.1 ev r c v (nI its) = 0 := by
          unfold bgC
          rw [if_neg (fun q => q c9), if_neg (fun q => by rw [q] at c24; exact absurd c24 (by decide)), if_neg (fun q => q eq)]
        have hits5 : its ≤ 5 := by
          rw [edp] at c9
          exact Nat.le_trans ((nI_leI (by omega) (by omega)).mp c9) hdp
        obtain ⟨g, hg⟩ : ∃ g, f = g + 1 := ⟨f - 1, by omega⟩
        have eb : bgT u t ev r c v its = (alt t.1 ev r c v, t.2.1 + 1, mx (nI its) t.2.2.1, 0) := if_pos e0
        have eh : hapT u f t ev r c v its = lpT (acT (hapT u g) its) (mtC t.1 ev r (nI c) v false) u 0 (alt t.1 ev r c v, t.2.1 + 1, mx (nI its) t.2.2.1, 0) := by
          rw [hg, ← eb]; exact if_pos e0
        rw [eh]
        have kb := bgT_KH hk ev v its hr hc
        rw [eb] at kb
        have kv : KV u t.1 (bgT u t ev r c v its) := bgT_KV ⟨hv, SR.rf _⟩ ev v its hr hc
        rw [eb] at kv
        have q2 : RS1 (uS7 (altS (cSt x.1 1) ev r c v) (upd (sSc (altS (cSt x.1 1) ev r c v)) 2 (sSc (altS (cSt x.1 1) ev r c v) 2 + 1))) (alt t.1 ev r c v) (alt t.1 ev r c v 98 + (t.2.1 + 1)) := by
          have q1 := RS1_alt hx.1 ev v hr hc
          have e : sSc (altS (cSt x.1 1) ev r c v) 2 + 1 = alt t.1 ev r c v 98 + (t.2.1 + 1) := by
            rw [q1.2.2.2.2.1, alt_lo hr hc 98 (by omega), Int32.add_assoc]
          rw [← e]
          exact q1.ev _
        refine L g hg ?_ u 0 (by omega) _ _ ((((((FC.rf x).c1 _).c2 _).c1 _).c2 _)) ⟨q2, ?_, ?_, ?_⟩ kb kv
        · intro j hj hp1 hp2
          exact mk_ne _ hu8 hj (show ((mtB t.1 ev r (nI c) v) j && decide (rN t.1 j 3 = 1)) = true by rw [hp1, decide_eq_true hp2]; rfl) (by rw [eq2] at eq; exact eq)
        · show cSm x.1 0 + 1 = t.2.1 + 1
          rw [hx.2.1]
        · show mx (nI its) (cSm x.1 1) = mx (nI its) t.2.2.1
          rw [hx.2.2.1]
        · show cSm x.1 2 = 0
          rw [hx.2.2.2, h0]
      · have eq2 : mkM (mtC t.1 ev r (nI c) v true) u = mkM (fun i => (mtB t.1 ev r (nI c) v) i && decide (rN t.1 i 3 = 1)) u := mkM_cg u (fun j _ => by unfold mtC; cases decide (rN t.1 j 3 = 1) <;> rfl)
        refine pw_aload_n (tk tkX5_happen 28 rfl) rfl ?_
        refine pw_iconst (v := 5) (tk tkX5_happen 29 rfl) (by decide) ?_
        refine p5_refusal (tk tkX5_happen 30 rfl) fkX5_29 ?_
        refine pw_return (tk tkX5_happen 31 rfl) rfl (by decide) ?_
        refine ⟨rfl, _, rfl, (FC.rf x).c2 _, ?_⟩
        rw [hap_bad 5 (by decide) (by unfold bgC; rw [if_neg (fun q => q c9), if_neg (fun q => by rw [q] at c24; exact absurd c24 (by decide)), if_pos (by rw [eq2]; exact of_decide_eq_true c50)])]
        exact hx.rf 5
    · refine pw_aload_n (tk tkX5_happen 13 rfl) rfl ?_
      refine pw_iconst (v := 4) (tk tkX5_happen 14 rfl) (by decide) ?_
      refine p5_refusal (tk tkX5_happen 15 rfl) fkX5_29 ?_
      refine pw_return (tk tkX5_happen 16 rfl) rfl (by decide) ?_
      refine ⟨rfl, _, rfl, (FC.rf x).c2 _, ?_⟩
      rw [hap_bad 4 (by decide) (by unfold bgC; rw [if_neg (fun q => q c9), if_pos (show t.2.1 = 100 from by
        rw [ek0] at c24 ⊢
        have : ¬ k0 < 100 := fun q => c24 (nI_lt q (by decide))
        rw [show k0 = 100 by omega]; rfl)])]
      exact hx.rf 4
  · refine pw_aload_n (tk tkX5_happen 5 rfl) rfl ?_
    refine pw_iconst (v := 3) (tk tkX5_happen 6 rfl) (by decide) ?_
    refine p5_refusal (tk tkX5_happen 7 rfl) fkX5_29 ?_
    refine pw_return (tk tkX5_happen 8 rfl) rfl (by decide) ?_
    refine ⟨rfl, _, rfl, (FC.rf x).c2 _, ?_⟩
    rw [hap_bad 3 (by decide) (by unfold bgC; rw [if_pos c9])]
    exact hx.rf 3
theorem hc_all (u : Nat) : ∀ f, HC u f
  | 0 => ct_X5_happen u 0 (fun g hg => absurd hg (by omega))
  | f + 1 => ct_X5_happen u (f + 1) (fun g hg => by
    obtain rfl : g = f := by omega
    exact ct_X5_act u g (hc_all u g))
end
section
theorem RS1.val {σ : SS} {s : Nat → Int32} {e : Int32} (h : RS1 σ s e) {k : Nat} (v : Int32) (hk : k < 18) : RS1 (uS2 σ (upd (sVa σ) k v)) (upd s (6 + k) v) e := by
  obtain ⟨a, b, c, d, f, g, l, l1, l2⟩ := h
  have nt : ∀ j, j ≠ 6 + k → upd s (6 + k) v j = s j := fun j hj => upd_nt _ _ hj
  refine ⟨fun j hj => by rw [nt _ (by omega)]; exact a j hj, fun j hj => ?_, by rw [nt _ (by omega)]; exact c, by rw [nt _ (by omega)]; exact d, f, fun i k2 hi hk2 => ?_, l, l1, l2.1, by rw [nt _ (by omega)]; exact l2.2.1, fun j p hj => by rw [nt _ (by omega), nt _ (by omega)]; exact l2.2.2 j p hj⟩
  · show upd (sVa σ) k v j = _
    unfold upd
    by_cases q : j = k
    · rw [if_pos q, if_pos (by omega)]
    · rw [if_neg q, if_neg (by omega)]; exact b j hj
  · rw [uN_of (nt 25 (by omega))] at hi
    exact (g i k2 hi hk2).trans (nt _ (by omega)).symm
theorem bgS_RT {x : XW} {s : Nat → Int32} {u : Nat} (h : RS1 (cSt x.1 0) s (s 98)) (hv : VS u s) : FC x (bgS x u 0) ∧ RT (bgS x u 0) (s, 0, -1, 0) := by
  refine ⟨((FC.rf x).c1 _).c2 _, ?_, rfl, rfl, rfl⟩
  show RS1 (cpS u (cSt x.1 1) (cSt x.1 0)) s (s 98 + 0)
  rw [Int32.add_zero]
  exact h.cp _ hv.un
def bad0 (s : Nat → Int32) : TT := (s, 0, -1, 1)
def piR (u : Nat) (s : Nat → Int32) (row a b c : Int32) : TT := if inR row 0 5 = false then bad0 s else insR u s row.toNatClampNeg a b c
def chR (u : Nat) (s : Nat → Int32) (row col v : Int32) : TT := if inR row 0 5 = false then bad0 s else if inR col 0 2 = false then bad0 s else updR u s row.toNatClampNeg col.toNatClampNeg v
def toR (u : Nat) (s : Nat → Int32) (row : Int32) : TT := if inR row 0 5 = false then bad0 s else remR u s row.toNatClampNeg
theorem there_r {s : Nat → Int32} {row : Int32} {b : Bool} (hr : inR row 0 5 = true) (h : (inR row 0 5 && decide (¬ s row.toNatClampNeg = 0)) = b) : decide (¬ s row.toNatClampNeg = 0) = b := by rw [hr, Bool.true_and] at h; exact h
theorem chR_0 {u : Nat} {s : Nat → Int32} {row : Int32} (col v : Int32) (h : (inR row 0 5 && decide (¬ s row.toNatClampNeg = 0)) = false) : chR u s row col v = bad0 s := by
  unfold chR
  by_cases q : inR row 0 5 = false
  · rw [if_pos q]
  · rw [if_neg q]
    have q1 : inR row 0 5 = true := by cases z : inR row 0 5 <;> first | rfl | exact absurd z q
    have h2 := there_r q1 h
    by_cases w : inR col 0 2 = false
    · rw [if_pos w]
    · rw [if_neg w]
      refine if_pos ?_
      by_cases z : s row.toNatClampNeg = 0
      · exact z
      · rw [decide_eq_true z] at h2; cases h2
theorem th_eq {σ : SS} {s : Nat → Int32} (h : ∀ j, j < 6 → sTh σ j = s j) (row : Int32) : (inR row 0 5 && decide (¬ sTh σ row.toNatClampNeg = 0)) = (inR row 0 5 && decide (¬ s row.toNatClampNeg = 0)) := by
  by_cases q : inR row 0 5 = true
  · obtain ⟨r1, hr, er, er2⟩ := inR_row q
    rw [er2, h r1 hr]
  · rw [Bool.eq_false_iff.mpr q]; rfl
theorem toR_0 {u : Nat} {s : Nat → Int32} {row : Int32} (hv : VS u s) (h : (inR row 0 5 && decide (¬ s row.toNatClampNeg = 0)) = false) : toR u s row = bad0 s := by
  unfold toR
  by_cases q : inR row 0 5 = false
  · rw [if_pos q]
  · rw [if_neg q]
    have q1 : inR row 0 5 = true := by cases z : inR row 0 5 <;> first | rfl | exact absurd z q
    have h2 := there_r q1 h
    refine if_neg (fun z => ?_)
    rw [z] at h2
    exact absurd h2 (by decide)
set_option maxRecDepth 100000 in
set_option maxHeartbeats 4000000 in
theorem ct_X5_takeOut (x : XW) (s : Nat → Int32) (u : Nat) (hs : RS1 (cSt x.1 0) s (s 98)) (hv : VS u s) (row : Int32) : CT MX5_takeOut 16 0 [.ref 161, .ref (16 * 0), .int row] (hp x) (hnQ x (toR u s row)) := by
  refine ct_of (by decide +kernel) (by decide) rfl (k := 0) (ls := [some (.ref 161), some (.ref (16 * 0)), some (.int row)]) rfl (Nat.le_of_ble_eq_true rfl) ?_
  have hv9 := hv
  obtain ⟨y, ey⟩ : ∃ y, y = bgS x u 0 := ⟨_, rfl⟩
  obtain ⟨fy, ry⟩ := bgS_RT hs hv
  rw [← ey] at fy ry
  have kh : KH u (s, 0, -1, 0) := ⟨hv, 0, by omega, rfl⟩
  obtain ⟨a1, a2, a3, a4, a5, a6, a7⟩ := ry.1
  refine pw_aload_n (tk tkX5_takeOut 0 rfl) rfl ?_
  refine pw_aload_n (tk tkX5_takeOut 1 rfl) rfl ?_
  refine pw_cV0 (ct_X5_begin x u 0 (by decide) (by decide) (hs.wb hv)) okX5_begin (tk tkX5_takeOut 2 rfl) mkX5_32 imX5_begin seX5_begin (hp_ot _ 1) rfl rfl rfl (by decide) (by decide) (Nat.le_of_ble_eq_true rfl) ?_
  rw [← ey]
  refine pw_aload_n (tk tkX5_takeOut 3 rfl) rfl ?_
  refine g5_state (tk tkX5_takeOut 4 rfl) fkX5_12 ?_
  refine pw_iload_n (tk tkX5_takeOut 5 rfl) rfl ?_
  refine pw_cV (ct_X4_isThere y 1 (by decide) _) okX4_isThere (tk tkX5_takeOut 6 rfl) mkX5_55 imX4_isThere seX4_isThere (hp_st _ (by decide : 1 < 10) (by decide : 0 < 16)) rfl rfl rfl (by decide) (by decide) (Nat.le_of_ble_eq_true rfl) ?_
  rw [show (inR row 0 5 && decide (¬ sTh (cSt y.1 1) row.toNatClampNeg = 0)) = (inR row 0 5 && decide (¬ s row.toNatClampNeg = 0)) from th_eq a1 row]
  refine pw_ifnb (tgt := 24) (tk tkX5_takeOut 7 rfl) (by decide) (fun c13 => ?_) (fun c13 => ?_)
  · obtain ⟨h5, h6⟩ := Bool.and_eq_true_iff.mp c13
    obtain ⟨r1, hr, er, er2⟩ := inR_row h5
    have h1 : s r1 = 1 := by
      have := of_decide_eq_true h6
      rw [er2] at this
      exact (hv.2.2.2.2.1 r1 hr).resolve_left this
    have eR : toR u s row = hapT u 6 (s, 0, -1, 0) 2 r1 0 0 0 := (if_neg (ne_f h5)).trans (by rw [er2]; exact if_pos h1)
    rw [eR, er]
    refine pw_aload_n (tk tkX5_takeOut 12 rfl) rfl ?_
    refine pw_iconst (v := 2) (tk tkX5_takeOut 13 rfl) (by decide) ?_
    refine pw_iload_n (tk tkX5_takeOut 14 rfl) rfl ?_
    refine pw_iconst (v := 0) (tk tkX5_takeOut 15 rfl) (by decide) ?_
    refine pw_iconst (v := 0) (tk tkX5_takeOut 16 rfl) (by decide) ?_
    refine pw_iconst (v := 0) (tk tkX5_takeOut 17 rfl) (by decide) ?_
    refine pw_callV (hc_all u 6 0 rfl y (s, 0, -1, 0) 2 r1 0 0 kh ry rfl hr (by decide)) okX5_happen (tk tkX5_takeOut 18 rfl) mkX5_51 imX5_happen seX5_happen (hp_ot _ 1) rfl rfl rfl (by decide) (by decide) (Nat.le_of_ble_eq_true rfl) (fun r h2 q => ?_) (fun E h2 q => by cases q.1)
    obtain ⟨ho, z, rfl, fz, rz⟩ := q
    cases ho
    refine pw_return (tk tkX5_takeOut 19 rfl) rfl (by decide) ?_
    exact ⟨rfl, z, rfl, fy.tr fz, rz⟩
  · refine pw_aload_n (tk tkX5_takeOut 8 rfl) rfl ?_
    refine pw_iconst (v := 1) (tk tkX5_takeOut 9 rfl) (by decide) ?_
    refine p5_refusal (tk tkX5_takeOut 10 rfl) fkX5_29 ?_
    refine pw_goto (tgt := 33) (tk tkX5_takeOut 11 rfl) (by decide) ?_
    refine pw_return (tk tkX5_takeOut 19 rfl) rfl (by decide) ?_
    refine ⟨rfl, _, rfl, fy.c2 _, ?_⟩
    rw [toR_0 hv c13]
    exact ry.rf 1
set_option maxRecDepth 100000 in
set_option maxHeartbeats 4000000 in
theorem ct_X5_change (x : XW) (s : Nat → Int32) (u : Nat) (hs : RS1 (cSt x.1 0) s (s 98)) (hv : VS u s) (row col v : Int32) : CT MX5_change 16 0 [.ref 161, .ref (16 * 0), .int row, .int col, .int v] (hp x) (hnQ x (chR u s row col v)) := by
  refine ct_of (by decide +kernel) (by decide) rfl (k := 0) (ls := [some (.ref 161), some (.ref (16 * 0)), some (.int row), some (.int col), some (.int v)]) rfl (Nat.le_of_ble_eq_true rfl) ?_
  have hv9 := hv
  obtain ⟨y, ey⟩ : ∃ y, y = bgS x u 0 := ⟨_, rfl⟩
  obtain ⟨fy, ry⟩ := bgS_RT hs hv
  rw [← ey] at fy ry
  have kh : KH u (s, 0, -1, 0) := ⟨hv, 0, by omega, rfl⟩
  obtain ⟨a1, a2, a3, a4, a5, a6, a7⟩ := ry.1
  refine pw_aload_n (tk tkX5_change 0 rfl) rfl ?_
  refine pw_aload_n (tk tkX5_change 1 rfl) rfl ?_
  refine pw_cV0 (ct_X5_begin x u 0 (by decide) (by decide) (hs.wb hv)) okX5_begin (tk tkX5_change 2 rfl) mkX5_32 imX5_begin seX5_begin (hp_ot _ 1) rfl rfl rfl (by decide) (by decide) (Nat.le_of_ble_eq_true rfl) ?_
  rw [← ey]
  refine pw_aload_n (tk tkX5_change 3 rfl) rfl ?_
  refine g5_state (tk tkX5_change 4 rfl) fkX5_12 ?_
  refine pw_iload_n (tk tkX5_change 5 rfl) rfl ?_
  refine pw_cV (ct_X4_isThere y 1 (by decide) _) okX4_isThere (tk tkX5_change 6 rfl) mkX5_55 imX4_isThere seX4_isThere (hp_st _ (by decide : 1 < 10) (by decide : 0 < 16)) rfl rfl rfl (by decide) (by decide) (Nat.le_of_ble_eq_true rfl) ?_
  rw [show (inR row 0 5 && decide (¬ sTh (cSt y.1 1) row.toNatClampNeg = 0)) = (inR row 0 5 && decide (¬ s row.toNatClampNeg = 0)) from th_eq a1 row]
  refine pw_ifb (tgt := 23) (tk tkX5_change 7 rfl) (by decide) (fun c13 => ?_) (fun c13 => ?_)
  · refine pw_aload_n (tk tkX5_change 11 rfl) rfl ?_
    refine pw_iconst (v := 1) (tk tkX5_change 12 rfl) (by decide) ?_
    refine p5_refusal (tk tkX5_change 13 rfl) fkX5_29 ?_
    refine pw_goto (tgt := 59) (tk tkX5_change 14 rfl) (by decide) ?_
    refine pw_return (tk tkX5_change 31 rfl) rfl (by decide) ?_
    refine ⟨rfl, _, rfl, fy.c2 _, ?_⟩
    rw [chR_0 col v c13]
    exact ry.rf 1
  · refine pw_iload_n (tk tkX5_change 8 rfl) rfl ?_
    refine pw_cN (ct_X7_isColumn _ _) rfl okX7_isColumn (tk tkX5_change 9 rfl) mkX5_58 stX7_isColumn rfl rfl (by decide) (by decide) (Nat.le_of_ble_eq_true rfl) ?_
    refine pw_ifnb (tgt := 31) (tk tkX5_change 10 rfl) (by decide) (fun c20 => ?_) (fun c20 => ?_)
    · obtain ⟨h5, h6⟩ := Bool.and_eq_true_iff.mp c13
      obtain ⟨r1, hr, er, er2⟩ := inR_row h5
      obtain ⟨c1, hc, ec, ec2⟩ := inR_col c20
      have h1 : ¬ s r1 = 0 := by
        have := of_decide_eq_true h6
        rw [er2] at this; exact this
      have eR : chR u s row col v = updR u s r1 c1 v := (if_neg (ne_f h5)).trans ((if_neg (ne_f c20)).trans (by rw [er2, ec2]))
      have eva : sVa (cSt y.1 1) (3 * r1 + c1) = s (6 + 3 * r1 + c1) := by rw [a2 _ (by omega), ← Nat.add_assoc]
      refine pw_aload_n (tk tkX5_change 15 rfl) rfl ?_
      refine g5_state (tk tkX5_change 16 rfl) fkX5_12 ?_
      refine g4_values (by first | assumption | decide | omega) (tk tkX5_change 17 rfl) fkX5_43 ?_
      refine pw_iload_n (tk tkX5_change 18 rfl) rfl ?_
      refine pw_iload_n (tk tkX5_change 19 rfl) rfl ?_
      refine pw_cN (ct_X7_cell _ _ _) rfl okX7_cell (tk tkX5_change 20 rfl) mkX5_47 stX7_cell rfl rfl (by decide) (by decide) (Nat.le_of_ble_eq_true rfl) ?_
      refine al_values_e (e := 3 * r1 + c1) (by first | assumption | decide | omega) (tk tkX5_change 21 rfl) (cl_ix er ec) (by first | decide | omega) ?_
      rw [eva]
      refine pw_iload (tk tkX5_change 22 rfl) rfl ?_
      refine pw_icmp_eq (tgt := 59) (tk tkX5_change 23 rfl) (by decide) (fun c46 => ?_) (fun c46 => ?_)
      · refine pw_return (tk tkX5_change 31 rfl) rfl (by decide) ?_
        refine ⟨rfl, y, rfl, fy, ?_⟩
        rw [eR, show updR u s r1 c1 v = (s, 0, -1, 0) from (if_neg h1).trans (if_pos c46)]
        exact ry
      · rw [eR, show updR u s r1 c1 v = hapT u 6 (s, 0, -1, 0) 1 r1 c1 v 0 from (if_neg h1).trans (if_neg c46), er, ec]
        refine pw_aload_n (tk tkX5_change 24 rfl) rfl ?_
        refine pw_iconst (v := 1) (tk tkX5_change 25 rfl) (by decide) ?_
        refine pw_iload_n (tk tkX5_change 26 rfl) rfl ?_
        refine pw_iload_n (tk tkX5_change 27 rfl) rfl ?_
        refine pw_iload (tk tkX5_change 28 rfl) rfl ?_
        refine pw_iconst (v := 0) (tk tkX5_change 29 rfl) (by decide) ?_
        refine pw_callV (hc_all u 6 0 rfl y (s, 0, -1, 0) 1 r1 c1 v kh ry rfl hr hc) okX5_happen (tk tkX5_change 30 rfl) mkX5_51 imX5_happen seX5_happen (hp_ot _ 1) rfl rfl rfl (by decide) (by decide) (Nat.le_of_ble_eq_true rfl) (fun r h2 q => ?_) (fun E h2 q => by cases q.1)
        obtain ⟨ho, z, rfl, fz, rz⟩ := q
        cases ho
        refine pw_return (tk tkX5_change 31 rfl) rfl (by decide) ?_
        exact ⟨rfl, z, rfl, fy.tr fz, rz⟩
    · refine pw_aload_n (tk tkX5_change 11 rfl) rfl ?_
      refine pw_iconst (v := 1) (tk tkX5_change 12 rfl) (by decide) ?_
      refine p5_refusal (tk tkX5_change 13 rfl) fkX5_29 ?_
      refine pw_goto (tgt := 59) (tk tkX5_change 14 rfl) (by decide) ?_
      refine pw_return (tk tkX5_change 31 rfl) rfl (by decide) ?_
      refine ⟨rfl, _, rfl, fy.c2 _, ?_⟩
      rw [show chR u s row col v = bad0 s from (if_neg (ne_f (Bool.and_eq_true_iff.mp c13).1)).trans (if_pos c20)]
      exact ry.rf 1
set_option maxRecDepth 100000 in
set_option maxHeartbeats 4000000 in
theorem ct_X5_putIn (x : XW) (s : Nat → Int32) (u : Nat) (hs : RS1 (cSt x.1 0) s (s 98)) (hv : VS u s) (row p q2 w : Int32) : CT MX5_putIn 16 0 [.ref 161, .ref (16 * 0), .int row, .int p, .int q2, .int w] (hp x) (hnQ x (piR u s row p q2 w)) := by
  refine ct_of (by decide +kernel) (by decide) rfl (k := 0) (ls := [some (.ref 161), some (.ref (16 * 0)), some (.int row), some (.int p), some (.int q2), some (.int w)]) rfl (Nat.le_of_ble_eq_true rfl) ?_
  have hv9 := hv
  obtain ⟨y, ey⟩ : ∃ y, y = bgS x u 0 := ⟨_, rfl⟩
  obtain ⟨fy, ry⟩ := bgS_RT hs hv
  rw [← ey] at fy ry
  have kh : KH u (s, 0, -1, 0) := ⟨hv, 0, by omega, rfl⟩
  obtain ⟨a1, a2, a3, a4, a5, a6, a7⟩ := ry.1
  refine pw_aload_n (tk tkX5_putIn 0 rfl) rfl ?_
  refine pw_aload_n (tk tkX5_putIn 1 rfl) rfl ?_
  refine pw_cV0 (ct_X5_begin x u 0 (by decide) (by decide) (hs.wb hv)) okX5_begin (tk tkX5_putIn 2 rfl) mkX5_32 imX5_begin seX5_begin (hp_ot _ 1) rfl rfl rfl (by decide) (by decide) (Nat.le_of_ble_eq_true rfl) ?_
  rw [← ey]
  refine pw_iload_n (tk tkX5_putIn 3 rfl) rfl ?_
  refine pw_cN (ct_X7_isRow _ _) rfl okX7_isRow (tk tkX5_putIn 4 rfl) mkX5_35 stX7_isRow rfl rfl (by decide) (by decide) (Nat.le_of_ble_eq_true rfl) ?_
  refine pw_ifb (tgt := 24) (tk tkX5_putIn 5 rfl) (by decide) (fun c9 => ?_) (fun c9 => ?_)
  · refine pw_aload_n (tk tkX5_putIn 12 rfl) rfl ?_
    refine pw_iconst (v := 1) (tk tkX5_putIn 13 rfl) (by decide) ?_
    refine p5_refusal (tk tkX5_putIn 14 rfl) fkX5_29 ?_
    refine pw_return (tk tkX5_putIn 15 rfl) rfl (by decide) ?_
    refine ⟨rfl, _, rfl, fy.c2 _, ?_⟩
    rw [show piR u s row p q2 w = bad0 s from if_pos c9]
    exact ry.rf 1
  · obtain ⟨r1, hr, er, er2⟩ := inR_row c9
    refine pw_aload_n (tk tkX5_putIn 6 rfl) rfl ?_
    refine g5_state (tk tkX5_putIn 7 rfl) fkX5_12 ?_
    refine g4_there (by first | assumption | decide | omega) (tk tkX5_putIn 8 rfl) fkX5_39 ?_
    refine pw_iload_n (tk tkX5_putIn 9 rfl) rfl ?_
    refine al_there_e (e := r1) (by first | assumption | decide | omega) (tk tkX5_putIn 10 rfl) er (by first | decide | omega) ?_
    rw [a1 r1 hr]
    refine pw_if_eq (tgt := 30) (tk tkX5_putIn 11 rfl) (by decide) (fun c21 => ?_) (fun c21 => ?_)
    · refine pw_aload_n (tk tkX5_putIn 16 rfl) rfl ?_
      refine g5_state (tk tkX5_putIn 17 rfl) fkX5_12 ?_
      refine g4_values (by first | assumption | decide | omega) (tk tkX5_putIn 18 rfl) fkX5_43 ?_
      refine pw_iload_n (tk tkX5_putIn 19 rfl) rfl ?_
      refine pw_iconst (v := 0) (tk tkX5_putIn 20 rfl) (by decide) ?_
      refine pw_cN (ct_X7_cell _ _ _) rfl okX7_cell (tk tkX5_putIn 21 rfl) mkX5_47 stX7_cell rfl rfl (by decide) (by decide) (Nat.le_of_ble_eq_true rfl) ?_
      refine pw_iload_n (tk tkX5_putIn 22 rfl) rfl ?_
      refine as_values_e (e := 3 * r1 + 0) (by first | assumption | decide | omega) (tk tkX5_putIn 23 rfl) (cl_ix er rfl) (by first | decide | omega) ?_
      refine pw_aload_n (tk tkX5_putIn 24 rfl) rfl ?_
      refine g5_state (tk tkX5_putIn 25 rfl) fkX5_12 ?_
      refine g4_values (by first | assumption | decide | omega) (tk tkX5_putIn 26 rfl) fkX5_43 ?_
      refine pw_iload_n (tk tkX5_putIn 27 rfl) rfl ?_
      refine pw_iconst (v := 1) (tk tkX5_putIn 28 rfl) (by decide) ?_
      refine pw_cN (ct_X7_cell _ _ _) rfl okX7_cell (tk tkX5_putIn 29 rfl) mkX5_47 stX7_cell rfl rfl (by decide) (by decide) (Nat.le_of_ble_eq_true rfl) ?_
      refine pw_iload (tk tkX5_putIn 30 rfl) rfl ?_
      refine as_values_e (e := 3 * r1 + 1) (by first | assumption | decide | omega) (tk tkX5_putIn 31 rfl) (cl_ix er rfl) (by first | decide | omega) ?_
      rw [cSt_u, uC1_uC1]
      refine pw_aload_n (tk tkX5_putIn 32 rfl) rfl ?_
      refine g5_state (tk tkX5_putIn 33 rfl) fkX5_12 ?_
      refine g4_values (by first | assumption | decide | omega) (tk tkX5_putIn 34 rfl) fkX5_43 ?_
      refine pw_iload_n (tk tkX5_putIn 35 rfl) rfl ?_
      refine pw_iconst (v := 2) (tk tkX5_putIn 36 rfl) (by decide) ?_
      refine pw_cN (ct_X7_cell _ _ _) rfl okX7_cell (tk tkX5_putIn 37 rfl) mkX5_47 stX7_cell rfl rfl (by decide) (by decide) (Nat.le_of_ble_eq_true rfl) ?_
      refine pw_iload (tk tkX5_putIn 38 rfl) rfl ?_
      refine as_values_e (e := 3 * r1 + 2) (by first | assumption | decide | omega) (tk tkX5_putIn 39 rfl) (cl_ix er rfl) (by first | decide | omega) ?_
      rw [cSt_u, uC1_uC1]
      obtain ⟨z0, ez0⟩ : ∃ z0, z0 = uC1 y 1 (uS2 (cSt y.1 1) (upd (upd (upd (sVa (cSt y.1 1)) (3 * r1 + 0) p) (3 * r1 + 1) q2) (3 * r1 + 2) w)) := ⟨_, rfl⟩
      rw [show uS2 (uS2 (uS2 (cSt y.1 1) (upd (sVa (cSt y.1 1)) (3 * r1 + 0) p)) (upd (sVa (uS2 (cSt y.1 1) (upd (sVa (cSt y.1 1)) (3 * r1 + 0) p))) (3 * r1 + 1) q2)) (upd (sVa (uS2 (uS2 (cSt y.1 1) (upd (sVa (cSt y.1 1)) (3 * r1 + 0) p)) (upd (sVa (uS2 (cSt y.1 1) (upd (sVa (cSt y.1 1)) (3 * r1 + 0) p))) (3 * r1 + 1) q2))) (3 * r1 + 2) w) = uS2 (cSt y.1 1) (upd (upd (upd (sVa (cSt y.1 1)) (3 * r1 + 0) p) (3 * r1 + 1) q2) (3 * r1 + 2) w) from rfl, ← ez0]
      have h1 : ¬ s r1 = 1 := fun q => absurd (q.symm.trans (show s r1 = 0 from c21)) (by decide)
      obtain ⟨S, eS⟩ : ∃ S, S = upd (upd (upd s (6 + 3 * r1 + 0) p) (6 + 3 * r1 + 1) q2) (6 + 3 * r1 + 2) w := ⟨_, rfl⟩
      have eR : piR u s row p q2 w = hapT u 6 (S, 0, -1, 0) 0 r1 0 0 0 := (if_neg (ne_f c9)).trans (by rw [er2, eS]; exact if_neg h1)
      have fz0 : FC y z0 := by rw [ez0]; exact (FC.rf y).c1 _
      have hS : VS u S := by rw [eS]; exact VS_val (VS_val (VS_val hv p (by omega) (by omega)) q2 (by omega) (by omega)) w (by omega) (by omega)
      have kh2 : KH u (S, 0, -1, 0) := ⟨hS, 0, by omega, rfl⟩
      have rz0 : RT z0 (S, 0, -1, 0) := by
        refine ⟨?_, by rw [ez0]; exact ry.2.1, by rw [ez0]; exact ry.2.2.1, by rw [ez0]; exact ry.2.2.2⟩
        have q9 := ((ry.1.val (k := 3 * r1 + 0) p (by omega)).val (k := 3 * r1 + 1) q2 (by omega)).val (k := 3 * r1 + 2) w (by omega)
        rw [← Nat.add_assoc, ← Nat.add_assoc, ← Nat.add_assoc] at q9
        show RS1 (cSt z0.1 1) S (S 98 + 0)
        rw [show S 98 = s 98 from by rw [eS, upd_nt _ _ (by omega), upd_nt _ _ (by omega), upd_nt _ _ (by omega)], ez0, cSt_u, eS]
        exact q9
      rw [eR, er]
      refine pw_aload_n (tk tkX5_putIn 40 rfl) rfl ?_
      refine pw_iconst (v := 0) (tk tkX5_putIn 41 rfl) (by decide) ?_
      refine pw_iload_n (tk tkX5_putIn 42 rfl) rfl ?_
      refine pw_iconst (v := 0) (tk tkX5_putIn 43 rfl) (by decide) ?_
      refine pw_iconst (v := 0) (tk tkX5_putIn 44 rfl) (by decide) ?_
      refine pw_iconst (v := 0) (tk tkX5_putIn 45 rfl) (by decide) ?_
      refine pw_callV (hc_all u 6 0 rfl z0 (S, 0, -1, 0) 0 r1 0 0 kh2 rz0 rfl hr (by decide)) okX5_happen (tk tkX5_putIn 46 rfl) mkX5_51 imX5_happen seX5_happen (hp_ot _ 1) rfl rfl rfl (by decide) (by decide) (Nat.le_of_ble_eq_true rfl) (fun r h2 q => ?_) (fun E h2 q => by cases q.1)
      obtain ⟨ho, z, rfl, fz, rz⟩ := q
      cases ho
      exact pw_return (tk tkX5_putIn 47 rfl) rfl (by decide) ⟨rfl, z, rfl, fy.tr (fz0.tr fz), rz⟩
    · refine pw_aload_n (tk tkX5_putIn 12 rfl) rfl ?_
      refine pw_iconst (v := 1) (tk tkX5_putIn 13 rfl) (by decide) ?_
      refine p5_refusal (tk tkX5_putIn 14 rfl) fkX5_29 ?_
      refine pw_return (tk tkX5_putIn 15 rfl) rfl (by decide) ?_
      refine ⟨rfl, _, rfl, fy.c2 _, ?_⟩
      rw [show piR u s row p q2 w = bad0 s from (if_neg (ne_f c9)).trans (by rw [er2]; exact if_pos ((hv.2.2.2.2.1 r1 hr).resolve_left c21))]
      exact ry.rf 1
end
section
abbrev RS (σ : SS) (s : Nat → Int32) : Prop := RS1 σ s (s 98)
/-- the class holds the abstract machine -/
def RC (a : AM) (c : CW) : Prop := RS (cSt c 0) (aS a) ∧ (∃ nx, nx < 6 ∧ cHi c 0 = nI (aK a) ∧ cHi c 1 = nI nx ∧ aK a ≤ 6 ∧ ∀ i, i < aK a → RS (cSt c (2 + (nx + 6 - aK a + i) % 6)) (aH a i)) ∧ (∀ i, i < 2 → cSf c i = bI (aB a i) ∧ (aB a i = true → RS (cSt c (8 + i)) (aL a i))) ∧ cTx c 0 = nI (aN a) ∧ aN a ≤ 80 ∧ ∀ i, i < aN a → cSg c i = aT a i
/-- the end of a call of the class -/
def CQ (exs : List (Int32 × String)) (x : XW) (R : RS3) : Out → Hp → Prop := fun o h2 => ∃ y, h2 = hp y ∧ y.2 = x.2 ∧ RC R.2.2 y.1 ∧ ((R.1 = 0 ∧ o = .inl (some (.int R.2.1))) ∨ ∃ k E, (k, E) ∈ exs ∧ R.1 = k ∧ o = .inr E)
theorem CQ.thr {exs : List (Int32 × String)} {x y : XW} {R : RS3} {k : Int32} {E : String} {a : AM} (hc : RC a y.1) (hx : y.2 = x.2) (hm : (k, E) ∈ exs) (e : R = (k, 0, a)) : CQ exs x R (.inr E) (hp y) := by
  subst e; exact ⟨y, rfl, hx, hc, .inr ⟨k, E, hm, rfl, rfl⟩⟩
theorem CQ.ret {exs : List (Int32 × String)} {x y : XW} {R : RS3} {v : Int32} {a : AM} (hc : RC a y.1) (hx : y.2 = x.2) (e : R = (0, v, a)) : CQ exs x R (.inl (some (.int v))) (hp y) := by
  subst e; exact ⟨y, rfl, hx, hc, .inl ⟨rfl, rfl⟩⟩
def CKQ (x : XW) (c : Bool) (E : String) : Out → Hp → Prop := fun o h2 => h2 = hp x ∧ o = if c = true then .inl none else .inr E
theorem ck_l {x : XW} {c : Bool} {E : String} {r : Option Value} {h2 : Hp} (q : CKQ x c E (.inl r) h2) : c = true ∧ r = none ∧ h2 = hp x := by
  obtain ⟨q1, q2⟩ := q
  cases c with
  | true => rw [if_pos rfl] at q2; cases q2; exact ⟨rfl, rfl, q1⟩
  | false => rw [if_neg (by decide)] at q2; cases q2
theorem ck_r {x : XW} {c : Bool} {E F : String} {h2 : Hp} (q : CKQ x c E (.inr F) h2) : c = false ∧ F = E ∧ h2 = hp x := by
  obtain ⟨q1, q2⟩ := q
  cases c with
  | true => rw [if_pos rfl] at q2; cases q2
  | false => rw [if_neg (by decide)] at q2; cases q2; exact ⟨rfl, rfl, q1⟩
theorem pred_lt {u : Nat} (hu : u < 2 ^ 30) (v : Int32) : nI u - 1 < v ↔ nI u ≤ v := by
  have e : (nI u - 1).toInt = (u : Int) - 1 := pk_sub_toInt (b := 1) hu (by decide)
  rw [Int32.lt_iff_toInt_lt, Int32.le_iff_toInt_le, e, nI_toInt (by omega)]; omega
theorem i32_21 (v : Int32) : (2 : Int32) ≤ v ↔ 1 < v := by
  rw [Int32.le_iff_toInt_le, Int32.lt_iff_toInt_lt, show (2 : Int32).toInt = 2 from by decide, show (1 : Int32).toInt = 1 from by decide]; omega
theorem ne_t {b : Bool} (h : b = false) : ¬ b = true := fun e => Bool.noConfusion (h.symm.trans e)
set_option maxRecDepth 100000 in
set_option maxHeartbeats 4000000 in
theorem ct_X7_checkRow (x : XW) (v : Int32) : CT MX7_checkRow 6 1 [.int v] (hp x) (CKQ x (inR v 0 5) "java/lang/IndexOutOfBoundsException") := by
  refine ct_of (by decide +kernel) (by decide) rfl (k := 0) (ls := [some (.int v)]) rfl (Nat.le_of_ble_eq_true rfl) ?_
  refine pw_iload_n (tk tkX7_checkRow 0 rfl) rfl ?_
  refine pw_cS (ct_X7_isRow _ _) okX7_isRow (tk tkX7_checkRow 1 rfl) mkX7_93 stX7_isRow rfl rfl (by decide) (by decide) (Nat.le_of_ble_eq_true rfl) ?_
  refine pw_ifnb (tgt := 18) (tk tkX7_checkRow 2 rfl) (by decide) (fun c4 => ?_) (fun c4 => ?_)
  · exact pw_return (tk tkX7_checkRow 8 rfl) rfl (by decide) ⟨rfl, (if_pos c4).symm⟩
  · exact pw_throwW twIOE rfl rfl rfl ckX7_280 (tx := "there is no such row") (List.mem_of_getElem? (i := 5) rfl) (tk tkX7_checkRow 3 rfl) (tk tkX7_checkRow 4 rfl) (tk tkX7_checkRow 5 rfl) (tk tkX7_checkRow 6 rfl) (tk tkX7_checkRow 7 rfl) (by decide) (by decide) ⟨rfl, (if_neg (ne_t c4)).symm⟩
set_option maxRecDepth 100000 in
set_option maxHeartbeats 4000000 in
theorem ct0_X7_checkRow (x : XW) (v : Int32) (h9 : (inR v 0 5) = true) : CT MX7_checkRow 6 0 [.int v] (hp x) (CKQ x (inR v 0 5) "java/lang/IndexOutOfBoundsException") := by
  refine ct_of (by decide +kernel) (by decide) rfl (k := 0) (ls := [some (.int v)]) rfl (Nat.le_of_ble_eq_true rfl) ?_
  refine pw_iload_n (tk tkX7_checkRow 0 rfl) rfl ?_
  refine pw_cS (ct_X7_isRow _ _) okX7_isRow (tk tkX7_checkRow 1 rfl) mkX7_93 stX7_isRow rfl rfl (by decide) (by decide) (Nat.le_of_ble_eq_true rfl) ?_
  refine pw_ifnb (tgt := 18) (tk tkX7_checkRow 2 rfl) (by decide) (fun c4 => ?_) (fun c4 => ?_)
  · exact pw_return (tk tkX7_checkRow 8 rfl) rfl (by decide) ⟨rfl, (if_pos c4).symm⟩
  · exact absurd h9 (by rw [c4]; decide)
set_option maxRecDepth 100000 in
set_option maxHeartbeats 4000000 in
theorem ct_X7_checkColumn (x : XW) (v : Int32) : CT MX7_checkColumn 6 1 [.int v] (hp x) (CKQ x (inR v 0 2) "java/lang/IndexOutOfBoundsException") := by
  refine ct_of (by decide +kernel) (by decide) rfl (k := 0) (ls := [some (.int v)]) rfl (Nat.le_of_ble_eq_true rfl) ?_
  refine pw_iload_n (tk tkX7_checkColumn 0 rfl) rfl ?_
  refine pw_cS (ct_X7_isColumn _ _) okX7_isColumn (tk tkX7_checkColumn 1 rfl) mkX7_52 stX7_isColumn rfl rfl (by decide) (by decide) (Nat.le_of_ble_eq_true rfl) ?_
  refine pw_ifnb (tgt := 18) (tk tkX7_checkColumn 2 rfl) (by decide) (fun c4 => ?_) (fun c4 => ?_)
  · exact pw_return (tk tkX7_checkColumn 8 rfl) rfl (by decide) ⟨rfl, (if_pos c4).symm⟩
  · exact pw_throwW twIOE rfl rfl rfl ckX7_280 (tx := "there is no such column") (List.mem_of_getElem? (i := 8) rfl) (tk tkX7_checkColumn 3 rfl) (tk tkX7_checkColumn 4 rfl) (tk tkX7_checkColumn 5 rfl) (tk tkX7_checkColumn 6 rfl) (tk tkX7_checkColumn 7 rfl) (by decide) (by decide) ⟨rfl, (if_neg (ne_t c4)).symm⟩
set_option maxRecDepth 100000 in
set_option maxHeartbeats 4000000 in
theorem ct0_X7_checkColumn (x : XW) (v : Int32) (h9 : (inR v 0 2) = true) : CT MX7_checkColumn 6 0 [.int v] (hp x) (CKQ x (inR v 0 2) "java/lang/IndexOutOfBoundsException") := by
  refine ct_of (by decide +kernel) (by decide) rfl (k := 0) (ls := [some (.int v)]) rfl (Nat.le_of_ble_eq_true rfl) ?_
  refine pw_iload_n (tk tkX7_checkColumn 0 rfl) rfl ?_
  refine pw_cS (ct_X7_isColumn _ _) okX7_isColumn (tk tkX7_checkColumn 1 rfl) mkX7_52 stX7_isColumn rfl rfl (by decide) (by decide) (Nat.le_of_ble_eq_true rfl) ?_
  refine pw_ifnb (tgt := 18) (tk tkX7_checkColumn 2 rfl) (by decide) (fun c4 => ?_) (fun c4 => ?_)
  · exact pw_return (tk tkX7_checkColumn 8 rfl) rfl (by decide) ⟨rfl, (if_pos c4).symm⟩
  · exact absurd h9 (by rw [c4]; decide)
set_option maxRecDepth 100000 in
set_option maxHeartbeats 4000000 in
theorem ct_X7_checkValue (x : XW) (v : Int32) : CT MX7_checkValue 6 1 [.int v] (hp x) (CKQ x (inR v 0 999) "java/lang/IllegalArgumentException") := by
  refine ct_of (by decide +kernel) (by decide) rfl (k := 0) (ls := [some (.int v)]) rfl (Nat.le_of_ble_eq_true rfl) ?_
  refine pw_iload_n (tk tkX7_checkValue 0 rfl) rfl ?_
  refine pw_cS (ct_X7_isValue _ _) okX7_isValue (tk tkX7_checkValue 1 rfl) mkX7_56 stX7_isValue rfl rfl (by decide) (by decide) (Nat.le_of_ble_eq_true rfl) ?_
  refine pw_ifnb (tgt := 18) (tk tkX7_checkValue 2 rfl) (by decide) (fun c4 => ?_) (fun c4 => ?_)
  · exact pw_return (tk tkX7_checkValue 8 rfl) rfl (by decide) ⟨rfl, (if_pos c4).symm⟩
  · exact pw_throwW twIAE rfl rfl rfl ckX7_59 (tx := "a value is out of range") (List.mem_of_getElem? (i := 6) rfl) (tk tkX7_checkValue 3 rfl) (tk tkX7_checkValue 4 rfl) (tk tkX7_checkValue 5 rfl) (tk tkX7_checkValue 6 rfl) (tk tkX7_checkValue 7 rfl) (by decide) (by decide) ⟨rfl, (if_neg (ne_t c4)).symm⟩
set_option maxRecDepth 100000 in
set_option maxHeartbeats 4000000 in
theorem ct_X7_checkRule (x : XW) (u : Nat) (hu : sSc (cSt x.1 0) 0 = nI u) (h8 : u ≤ 8) (v : Int32) : CT MX7_checkRule 6 1 [.ref 160, .int v] (hp x) (CKQ x (inR v 0 (nI u - 1)) "java/lang/IndexOutOfBoundsException") := by
  refine ct_of (by decide +kernel) (by decide) rfl (k := 0) (ls := [some (.ref 160), some (.int v)]) rfl (Nat.le_of_ble_eq_true rfl) ?_
  refine pw_iload_n (tk tkX7_checkRule 0 rfl) rfl ?_
  refine pw_if_lt (tgt := 15) (tk tkX7_checkRule 1 rfl) (by decide) (fun c1 => ?_) (fun c1 => ?_)
  · exact pw_throwW twIOE rfl rfl rfl ckX7_280 (tx := "there is no such rule") (List.mem_of_getElem? (i := 2) rfl) (tk tkX7_checkRule 7 rfl) (tk tkX7_checkRule 8 rfl) (tk tkX7_checkRule 9 rfl) (tk tkX7_checkRule 10 rfl) (tk tkX7_checkRule 11 rfl) (by decide) (by decide) ⟨rfl, by rw [show inR v 0 (nI u - 1) = false from by unfold inR; simp [c1]]; rfl⟩
  · refine pw_iload_n (tk tkX7_checkRule 2 rfl) rfl ?_
    refine pw_aload_n (tk tkX7_checkRule 3 rfl) rfl ?_
    refine g7_now (tk tkX7_checkRule 4 rfl) fkX7_10 ?_
    refine g4_rulesUsed (by first | assumption | decide | omega) (tk tkX7_checkRule 5 rfl) fkX7_66 ?_
    rw [hu]
    refine pw_icmp_lt (tgt := 26) (tk tkX7_checkRule 6 rfl) (by decide) (fun c12 => ?_) (fun c12 => ?_)
    · exact pw_return (tk tkX7_checkRule 12 rfl) rfl (by decide) ⟨rfl, by rw [show inR v 0 (nI u - 1) = true from by unfold inR; rw [decide_eq_true c1, decide_eq_true (show ¬ nI u - 1 < v from fun q => Int32.not_le.mpr c12 ((pred_lt (u := u) (by omega) v).mp q))]; rfl]; rfl⟩
    · exact pw_throwW twIOE rfl rfl rfl ckX7_280 (tx := "there is no such rule") (List.mem_of_getElem? (i := 2) rfl) (tk tkX7_checkRule 7 rfl) (tk tkX7_checkRule 8 rfl) (tk tkX7_checkRule 9 rfl) (tk tkX7_checkRule 10 rfl) (tk tkX7_checkRule 11 rfl) (by decide) (by decide) ⟨rfl, by rw [show inR v 0 (nI u - 1) = false from by unfold inR; simp [c1, (pred_lt (u := u) (by omega) v).mpr (Int32.not_lt.mp c12)]]; rfl⟩
set_option maxRecDepth 100000 in
set_option maxHeartbeats 4000000 in
theorem ct0_X7_checkRule (x : XW) (u : Nat) (hu : sSc (cSt x.1 0) 0 = nI u) (h8 : u ≤ 8) (v : Int32) (h9 : (inR v 0 (nI u - 1)) = true) : CT MX7_checkRule 6 0 [.ref 160, .int v] (hp x) (CKQ x (inR v 0 (nI u - 1)) "java/lang/IndexOutOfBoundsException") := by
  refine ct_of (by decide +kernel) (by decide) rfl (k := 0) (ls := [some (.ref 160), some (.int v)]) rfl (Nat.le_of_ble_eq_true rfl) ?_
  refine pw_iload_n (tk tkX7_checkRule 0 rfl) rfl ?_
  refine pw_if_lt (tgt := 15) (tk tkX7_checkRule 1 rfl) (by decide) (fun c1 => ?_) (fun c1 => ?_)
  · exact absurd h9 (by rw [show inR v 0 (nI u - 1) = false from by unfold inR; simp [c1]]; decide)
  · refine pw_iload_n (tk tkX7_checkRule 2 rfl) rfl ?_
    refine pw_aload_n (tk tkX7_checkRule 3 rfl) rfl ?_
    refine g7_now (tk tkX7_checkRule 4 rfl) fkX7_10 ?_
    refine g4_rulesUsed (by first | assumption | decide | omega) (tk tkX7_checkRule 5 rfl) fkX7_66 ?_
    rw [hu]
    refine pw_icmp_lt (tgt := 26) (tk tkX7_checkRule 6 rfl) (by decide) (fun c12 => ?_) (fun c12 => ?_)
    · exact pw_return (tk tkX7_checkRule 12 rfl) rfl (by decide) ⟨rfl, by rw [show inR v 0 (nI u - 1) = true from by unfold inR; rw [decide_eq_true c1, decide_eq_true (show ¬ nI u - 1 < v from fun q => Int32.not_le.mpr c12 ((pred_lt (u := u) (by omega) v).mp q))]; rfl]; rfl⟩
    · exact absurd h9 (by rw [show inR v 0 (nI u - 1) = false from by unfold inR; simp [c1, (pred_lt (u := u) (by omega) v).mpr (Int32.not_lt.mp c12)]]; decide)
set_option maxRecDepth 100000 in
set_option maxHeartbeats 4000000 in
theorem ct_X7_checkAgo (x : XW) (u : Nat) (hu : sLs (cSt x.1 0) 0 = nI u) (h8 : u ≤ 16) (v : Int32) : CT MX7_checkAgo 6 1 [.ref 160, .int v] (hp x) (CKQ x (inR v 0 (nI u - 1)) "java/lang/IndexOutOfBoundsException") := by
  refine ct_of (by decide +kernel) (by decide) rfl (k := 0) (ls := [some (.ref 160), some (.int v)]) rfl (Nat.le_of_ble_eq_true rfl) ?_
  refine pw_iload_n (tk tkX7_checkAgo 0 rfl) rfl ?_
  refine pw_if_lt (tgt := 18) (tk tkX7_checkAgo 1 rfl) (by decide) (fun c1 => ?_) (fun c1 => ?_)
  · exact pw_throwW twIOE rfl rfl rfl ckX7_280 (tx := "the log has not so many acts") (List.mem_of_getElem? (i := 10) rfl) (tk tkX7_checkAgo 8 rfl) (tk tkX7_checkAgo 9 rfl) (tk tkX7_checkAgo 10 rfl) (tk tkX7_checkAgo 11 rfl) (tk tkX7_checkAgo 12 rfl) (by decide) (by decide) ⟨rfl, by rw [show inR v 0 (nI u - 1) = false from by unfold inR; simp [c1]]; rfl⟩
  · refine pw_iload_n (tk tkX7_checkAgo 2 rfl) rfl ?_
    refine pw_aload_n (tk tkX7_checkAgo 3 rfl) rfl ?_
    refine g7_now (tk tkX7_checkAgo 4 rfl) fkX7_10 ?_
    refine g4_log (by first | assumption | decide | omega) (tk tkX7_checkAgo 5 rfl) fkX7_187 ?_
    refine g2_size (by first | assumption | decide | omega) (tk tkX7_checkAgo 6 rfl) fkX7_191 ?_
    rw [hu]
    refine pw_icmp_lt (tgt := 29) (tk tkX7_checkAgo 7 rfl) (by decide) (fun c15 => ?_) (fun c15 => ?_)
    · exact pw_return (tk tkX7_checkAgo 13 rfl) rfl (by decide) ⟨rfl, by rw [show inR v 0 (nI u - 1) = true from by unfold inR; rw [decide_eq_true c1, decide_eq_true (show ¬ nI u - 1 < v from fun q => Int32.not_le.mpr c15 ((pred_lt (u := u) (by omega) v).mp q))]; rfl]; rfl⟩
    · exact pw_throwW twIOE rfl rfl rfl ckX7_280 (tx := "the log has not so many acts") (List.mem_of_getElem? (i := 10) rfl) (tk tkX7_checkAgo 8 rfl) (tk tkX7_checkAgo 9 rfl) (tk tkX7_checkAgo 10 rfl) (tk tkX7_checkAgo 11 rfl) (tk tkX7_checkAgo 12 rfl) (by decide) (by decide) ⟨rfl, by rw [show inR v 0 (nI u - 1) = false from by unfold inR; simp [c1, (pred_lt (u := u) (by omega) v).mpr (Int32.not_lt.mp c15)]]; rfl⟩
set_option maxRecDepth 100000 in
set_option maxHeartbeats 4000000 in
theorem ct0_X7_checkAgo (x : XW) (u : Nat) (hu : sLs (cSt x.1 0) 0 = nI u) (h8 : u ≤ 16) (v : Int32) (h9 : (inR v 0 (nI u - 1)) = true) : CT MX7_checkAgo 6 0 [.ref 160, .int v] (hp x) (CKQ x (inR v 0 (nI u - 1)) "java/lang/IndexOutOfBoundsException") := by
  refine ct_of (by decide +kernel) (by decide) rfl (k := 0) (ls := [some (.ref 160), some (.int v)]) rfl (Nat.le_of_ble_eq_true rfl) ?_
  refine pw_iload_n (tk tkX7_checkAgo 0 rfl) rfl ?_
  refine pw_if_lt (tgt := 18) (tk tkX7_checkAgo 1 rfl) (by decide) (fun c1 => ?_) (fun c1 => ?_)
  · exact absurd h9 (by rw [show inR v 0 (nI u - 1) = false from by unfold inR; simp [c1]]; decide)
  · refine pw_iload_n (tk tkX7_checkAgo 2 rfl) rfl ?_
    refine pw_aload_n (tk tkX7_checkAgo 3 rfl) rfl ?_
    refine g7_now (tk tkX7_checkAgo 4 rfl) fkX7_10 ?_
    refine g4_log (by first | assumption | decide | omega) (tk tkX7_checkAgo 5 rfl) fkX7_187 ?_
    refine g2_size (by first | assumption | decide | omega) (tk tkX7_checkAgo 6 rfl) fkX7_191 ?_
    rw [hu]
    refine pw_icmp_lt (tgt := 29) (tk tkX7_checkAgo 7 rfl) (by decide) (fun c15 => ?_) (fun c15 => ?_)
    · exact pw_return (tk tkX7_checkAgo 13 rfl) rfl (by decide) ⟨rfl, by rw [show inR v 0 (nI u - 1) = true from by unfold inR; rw [decide_eq_true c1, decide_eq_true (show ¬ nI u - 1 < v from fun q => Int32.not_le.mpr c15 ((pred_lt (u := u) (by omega) v).mp q))]; rfl]; rfl⟩
    · exact absurd h9 (by rw [show inR v 0 (nI u - 1) = false from by unfold inR; simp [c1, (pred_lt (u := u) (by omega) v).mpr (Int32.not_lt.mp c15)]]; decide)
set_option maxRecDepth 100000 in
set_option maxHeartbeats 4000000 in
theorem ct_X7_hasRow (x : XW) (a : AM) (hc : RC a x.1) (hv : VS (uN (aS a)) (aS a)) (r : Int32) (h1 : inR r 0 5 = true) : CT MX7_hasRow 30 0 [.ref 160, .int r] (hp x) (CQ [(1, "java/lang/IndexOutOfBoundsException")] x (shasRow a r)) := by
  refine ct_of (by decide +kernel) (by decide) rfl (k := 0) (ls := [some (.ref 160), some (.int r)]) rfl (Nat.le_of_ble_eq_true rfl) ?_
  obtain ⟨u, eu⟩ : ∃ u, u = uN (aS a) := ⟨_, rfl⟩
  have hvu := hv
  rw [← eu] at hvu
  have hu8 := hvu.1
  have hu : sSc (cSt x.1 0) 0 = nI u := hc.1.2.2.1.trans hvu.2.1
  have e25 : aS a 25 = nI u := hvu.2.1
  refine pw_iload_n (tk tkX7_hasRow 0 rfl) rfl ?_
  refine pw_callS (ct0_X7_checkRow x _ h1) okX7_checkRow (tk tkX7_hasRow 1 rfl) mkX7_125 stX7_checkRow rfl rfl (by decide) (by decide) (Nat.le_of_ble_eq_true rfl) (fun r h2 q => ?_) (fun E h2 q => by obtain ⟨k1, rfl, rfl⟩ := ck_r q; exact pt_out rfl rfl (CQ.thr hc rfl List.mem_cons_self (if_pos k1)))
  obtain ⟨k1, rfl, rfl⟩ := ck_l q
  refine pw_aload_n (tk tkX7_hasRow 2 rfl) rfl ?_
  refine g7_now (tk tkX7_hasRow 3 rfl) fkX7_10 ?_
  refine pw_iload_n (tk tkX7_hasRow 4 rfl) rfl ?_
  refine pw_cV (ct_X4_isThere x 0 (by decide) _) okX4_isThere (tk tkX7_hasRow 5 rfl) mkX7_170 imX4_isThere seX4_isThere (hp_st _ (by first | assumption | decide | omega) (by decide : 0 < 16)) rfl rfl rfl (by decide) (by decide) (Nat.le_of_ble_eq_true rfl) ?_
  rw [th_eq hc.1.1, k1, Bool.true_and]
  obtain ⟨r1, hr, er, er2⟩ := inR_row k1
  rw [er2]
  rcases hvu.2.2.2.2.1 r1 hr with h1 | h1
  · rw [show decide (¬ aS a r1 = 0) = false from by rw [h1]; rfl]
    exact pw_ireturn (tk tkX7_hasRow 6 rfl) rfl (by decide) rfl (CQ.ret hc rfl ((if_neg (ne_f k1)).trans (if_neg (by rw [er2, h1]; decide))))
  rw [show decide (¬ aS a r1 = 0) = true from by rw [h1]; rfl]
  exact pw_ireturn (tk tkX7_hasRow 6 rfl) rfl (by decide) (by first | rfl | exact nar_bI _) (CQ.ret hc rfl ((if_neg (ne_f k1)).trans (if_pos (by rw [er2, h1]))))
theorem smN_cg {f g : Nat → Int32} : ∀ k, (∀ j, j < k → f j = g j) → smN f k = smN g k
  | 0, _ => rfl
  | k + 1, h => by show smN f k + f k = smN g k + g k; rw [smN_cg k (fun j hj => h j (by omega)), h k (by omega)]
theorem RS1.th {σ : SS} {s : Nat → Int32} {e : Int32} {u : Nat} (h : RS1 σ s e) (hv : VS u s) : ∀ j, j < 6 → sTh σ j = 0 ∨ sTh σ j = 1 := fun j hj => by rw [h.1 j hj]; exact hv.2.2.2.2.1 j hj
set_option maxRecDepth 100000 in
set_option maxHeartbeats 4000000 in
theorem ct_X7_rowCount (x : XW) (a : AM) (hc : RC a x.1) (hv : VS (uN (aS a)) (aS a))  : CT MX7_rowCount 30 0 [.ref 160] (hp x) (CQ [] x (srowCount a )) := by
  refine ct_of (by decide +kernel) (by decide) rfl (k := 0) (ls := [some (.ref 160)]) rfl (Nat.le_of_ble_eq_true rfl) ?_
  obtain ⟨u, eu⟩ : ∃ u, u = uN (aS a) := ⟨_, rfl⟩
  have hvu := hv
  rw [← eu] at hvu
  have hu8 := hvu.1
  have hu : sSc (cSt x.1 0) 0 = nI u := hc.1.2.2.1.trans hvu.2.1
  have e25 : aS a 25 = nI u := hvu.2.1
  refine pw_aload_n (tk tkX7_rowCount 0 rfl) rfl ?_
  refine g7_now (tk tkX7_rowCount 1 rfl) fkX7_10 ?_
  refine pw_cV (ct_X4_rowsThere x 0 (by decide) (hc.1.th hvu)) okX4_rowsThere (tk tkX7_rowCount 2 rfl) mkX7_173 imX4_rowsThere seX4_rowsThere (hp_st _ (by first | assumption | decide | omega) (by decide : 0 < 16)) rfl rfl rfl (by decide) (by decide) (Nat.le_of_ble_eq_true rfl) ?_
  exact pw_ireturn (tk tkX7_rowCount 3 rfl) rfl (by decide) rfl (CQ.ret hc rfl (by rw [smN_cg 6 hc.1.1]; rfl))
set_option maxRecDepth 100000 in
set_option maxHeartbeats 4000000 in
theorem ct_X7_valueAt (x : XW) (a : AM) (hc : RC a x.1) (hv : VS (uN (aS a)) (aS a)) (r c : Int32) (h1 : inR r 0 5 = true) (h2 : inR c 0 2 = true) (h3 : ¬ aS a r.toNatClampNeg = 0) : CT MX7_valueAt 30 0 [.ref 160, .int r, .int c] (hp x) (CQ [(1, "java/lang/IndexOutOfBoundsException"), (2, "java/lang/IllegalStateException")] x (svalueAt a r c)) := by
  refine ct_of (by decide +kernel) (by decide) rfl (k := 0) (ls := [some (.ref 160), some (.int r), some (.int c)]) rfl (Nat.le_of_ble_eq_true rfl) ?_
  obtain ⟨u, eu⟩ : ∃ u, u = uN (aS a) := ⟨_, rfl⟩
  have hvu := hv
  rw [← eu] at hvu
  have hu8 := hvu.1
  have hu : sSc (cSt x.1 0) 0 = nI u := hc.1.2.2.1.trans hvu.2.1
  have e25 : aS a 25 = nI u := hvu.2.1
  refine pw_iload_n (tk tkX7_valueAt 0 rfl) rfl ?_
  refine pw_callS (ct0_X7_checkRow x _ h1) okX7_checkRow (tk tkX7_valueAt 1 rfl) mkX7_125 stX7_checkRow rfl rfl (by decide) (by decide) (Nat.le_of_ble_eq_true rfl) (fun r h2 q => ?_) (fun E h2 q => by obtain ⟨k1, rfl, rfl⟩ := ck_r q; exact pt_out rfl rfl (CQ.thr hc rfl List.mem_cons_self (if_pos k1)))
  obtain ⟨k1, rfl, rfl⟩ := ck_l q
  refine pw_iload_n (tk tkX7_valueAt 2 rfl) rfl ?_
  refine pw_callS (ct0_X7_checkColumn x _ h2) okX7_checkColumn (tk tkX7_valueAt 3 rfl) mkX7_155 stX7_checkColumn rfl rfl (by decide) (by decide) (Nat.le_of_ble_eq_true rfl) (fun r h2 q => ?_) (fun E h2 q => by obtain ⟨k2, rfl, rfl⟩ := ck_r q; exact pt_out rfl rfl (CQ.thr hc rfl List.mem_cons_self ((if_neg (ne_f k1)).trans (if_pos k2))))
  obtain ⟨k2, rfl, rfl⟩ := ck_l q
  refine pw_aload_n (tk tkX7_valueAt 4 rfl) rfl ?_
  refine g7_now (tk tkX7_valueAt 5 rfl) fkX7_10 ?_
  refine pw_iload_n (tk tkX7_valueAt 6 rfl) rfl ?_
  refine pw_cV (ct_X4_isThere x 0 (by decide) _) okX4_isThere (tk tkX7_valueAt 7 rfl) mkX7_170 imX4_isThere seX4_isThere (hp_st _ (by first | assumption | decide | omega) (by decide : 0 < 16)) rfl rfl rfl (by decide) (by decide) (Nat.le_of_ble_eq_true rfl) ?_
  rw [th_eq hc.1.1, k1, Bool.true_and]
  obtain ⟨r1, hr, er, er2⟩ := inR_row k1
  obtain ⟨c1, hc3, ec, ec2⟩ := inR_col k2
  rw [er2]
  refine pw_ifnb (tgt := 29) (tk tkX7_valueAt 8 rfl) (by decide) (fun c16 => ?_) (fun c16 => ?_)
  · refine pw_aload_n (tk tkX7_valueAt 14 rfl) rfl ?_
    refine g7_now (tk tkX7_valueAt 15 rfl) fkX7_10 ?_
    refine g4_values (by first | assumption | decide | omega) (tk tkX7_valueAt 16 rfl) fkX7_178 ?_
    refine pw_iload_n (tk tkX7_valueAt 17 rfl) rfl ?_
    refine pw_iload_n (tk tkX7_valueAt 18 rfl) rfl ?_
    refine pw_cS (ct_X7_cell _ _ _) okX7_cell (tk tkX7_valueAt 19 rfl) mkX7_182 stX7_cell rfl rfl (by decide) (by decide) (Nat.le_of_ble_eq_true rfl) ?_
    refine al_values_e (e := 3 * r1 + c1) (by first | assumption | decide | omega) (tk tkX7_valueAt 20 rfl) (cl_ix er ec) (by first | decide | omega) ?_
    refine pw_ireturn (tk tkX7_valueAt 21 rfl) rfl (by decide) rfl ?_
    have e : svalueAt a r c = (0, aS a (6 + 3 * r1 + c1), a) := ((if_neg (ne_f k1)).trans ((if_neg (ne_f k2)).trans ((if_neg (show ¬ aS a r.toNatClampNeg = 0 from by rw [er2]; exact of_decide_eq_true c16)).trans (by rw [er2, ec2]))))
    rw [hc.1.2.1 _ (by omega), ← Nat.add_assoc]
    exact CQ.ret hc rfl e
  · exact absurd (show ¬ aS a r1 = 0 from by rw [← er2]; exact h3) (of_decide_eq_false c16)
set_option maxRecDepth 100000 in
set_option maxHeartbeats 4000000 in
theorem ct_X7_sumOf (x : XW) (a : AM) (hc : RC a x.1) (hv : VS (uN (aS a)) (aS a)) (c : Int32) (h1 : inR c 0 2 = true) : CT MX7_sumOf 30 0 [.ref 160, .int c] (hp x) (CQ [(1, "java/lang/IndexOutOfBoundsException")] x (ssumOf a c)) := by
  refine ct_of (by decide +kernel) (by decide) rfl (k := 2) (ls := [some (.ref 160), some (.int c), none, none]) rfl (Nat.le_of_ble_eq_true rfl) ?_
  obtain ⟨u, eu⟩ : ∃ u, u = uN (aS a) := ⟨_, rfl⟩
  have hvu := hv
  rw [← eu] at hvu
  have hu8 := hvu.1
  have hu : sSc (cSt x.1 0) 0 = nI u := hc.1.2.2.1.trans hvu.2.1
  have e25 : aS a 25 = nI u := hvu.2.1
  have L : ∀ (c1 : Nat), c1 < 3 → c = nI c1 → ssumOf a c = (0, sumF (aS a) c1 6, a) → ∀ k i, i + k = 6 → PW MX7_sumOf 30 0 8 [some (.ref 160), some (.int c), some (.int (sumF (aS a) c1 i)), some (.int (nI i))] [] (hp x) (CQ [(1, "java/lang/IndexOutOfBoundsException")] x (ssumOf a c)) := by
    intro c1 hc3 ec he k
    induction k with
    | zero =>
      intro i hi
      obtain rfl : i = 6 := by omega
      refine pw_iload_n (tk tkX7_sumOf 6 rfl) rfl ?_
      refine pw_bipush (v := 6) (tk tkX7_sumOf 7 rfl) (by decide) ?_
      refine pw_icmp_ge (tgt := 47) (tk tkX7_sumOf 8 rfl) (by decide) (fun c11 => ?_) (fun c11 => absurd (Int32.le_refl _) c11)
      refine pw_iload_n (tk tkX7_sumOf 26 rfl) rfl ?_
      exact pw_ireturn (tk tkX7_sumOf 27 rfl) rfl (by decide) rfl (CQ.ret hc rfl he)
    | succ k ih =>
      intro i hi
      have hi6 : i < 6 := by omega
      refine pw_iload_n (tk tkX7_sumOf 6 rfl) rfl ?_
      refine pw_bipush (v := 6) (tk tkX7_sumOf 7 rfl) (by decide) ?_
      refine pw_icmp_ge (tgt := 47) (tk tkX7_sumOf 8 rfl) (by decide) (fun c11 => absurd c11 (nI_ge (b := 6) (by omega) (by decide))) (fun c11 => ?_)
      refine pw_aload_n (tk tkX7_sumOf 9 rfl) rfl ?_
      refine g7_now (tk tkX7_sumOf 10 rfl) fkX7_10 ?_
      refine pw_iload_n (tk tkX7_sumOf 11 rfl) rfl ?_
      refine pw_cV (ct_X4_isThere x 0 (by decide) _) okX4_isThere (tk tkX7_sumOf 12 rfl) mkX7_170 imX4_isThere seX4_isThere (hp_st _ (by first | assumption | decide | omega) (by decide : 0 < 16)) rfl rfl rfl (by decide) (by decide) (Nat.le_of_ble_eq_true rfl) ?_
      rw [th_eq hc.1.1, show inR (nI i) 0 5 = true from inR_t (n := 5) (by omega) (by decide), Bool.true_and, nI_clamp (show i < 2 ^ 31 by omega)]
      refine pw_ifb (tgt := 41) (tk tkX7_sumOf 13 rfl) (by decide) (fun c22 => ?_) (fun c22 => ?_)
      · refine pw_inc3 (tk tkX7_sumOf 24 rfl) rfl (by decide) (nI_1 i) ?_
        refine pw_goto (tgt := 8) (tk tkX7_sumOf 25 rfl) (by decide) ?_
        have e9 : sumF (aS a) c1 (i + 1) = sumF (aS a) c1 i + 0 := by
          show _ + (if _ then _ else _) = _
          rw [if_neg (by rw [show aS a i = 0 from by by_cases z : aS a i = 0; exact z; rw [decide_eq_true z] at c22; cases c22]; decide)]
        rw [Int32.add_zero] at e9
        rw [← e9]
        exact ih (i + 1) (by omega)
      · refine pw_iload_n (tk tkX7_sumOf 14 rfl) rfl ?_
        refine pw_aload_n (tk tkX7_sumOf 15 rfl) rfl ?_
        refine g7_now (tk tkX7_sumOf 16 rfl) fkX7_10 ?_
        refine g4_values (by first | assumption | decide | omega) (tk tkX7_sumOf 17 rfl) fkX7_178 ?_
        refine pw_iload_n (tk tkX7_sumOf 18 rfl) rfl ?_
        refine pw_iload_n (tk tkX7_sumOf 19 rfl) rfl ?_
        refine pw_cS (ct_X7_cell _ _ _) okX7_cell (tk tkX7_sumOf 20 rfl) mkX7_182 stX7_cell rfl rfl (by decide) (by decide) (Nat.le_of_ble_eq_true rfl) ?_
        refine al_values_e (e := 3 * i + c1) (by first | assumption | decide | omega) (tk tkX7_sumOf 21 rfl) (cl_ix rfl ec) (by first | decide | omega) ?_
        rw [hc.1.2.1 _ (by omega), ← Nat.add_assoc]
        refine pw_iadd (tk tkX7_sumOf 22 rfl) ?_
        refine pw_ist2 (tk tkX7_sumOf 23 rfl) rfl (by decide) ?_
        refine pw_inc3 (tk tkX7_sumOf 24 rfl) rfl (by decide) (nI_1 i) ?_
        refine pw_goto (tgt := 8) (tk tkX7_sumOf 25 rfl) (by decide) ?_
        have e9 : sumF (aS a) c1 (i + 1) = sumF (aS a) c1 i + aS a (6 + 3 * i + c1) := by
          show _ + (if _ then _ else _) = _
          rw [if_pos ((hvu.2.2.2.2.1 i hi6).resolve_left (of_decide_eq_true c22))]
        rw [← e9]
        exact ih (i + 1) (by omega)
  refine pw_iload_n (tk tkX7_sumOf 0 rfl) rfl ?_
  refine pw_callS (ct0_X7_checkColumn x _ h1) okX7_checkColumn (tk tkX7_sumOf 1 rfl) mkX7_155 stX7_checkColumn rfl rfl (by decide) (by decide) (Nat.le_of_ble_eq_true rfl) (fun r h2 q => ?_) (fun E h2 q => by obtain ⟨k1, rfl, rfl⟩ := ck_r q; exact pt_out rfl rfl (CQ.thr hc rfl List.mem_cons_self (if_pos k1)))
  obtain ⟨k1, rfl, rfl⟩ := ck_l q
  refine pw_iconst (v := 0) (tk tkX7_sumOf 2 rfl) (by decide) ?_
  refine pw_ist2 (tk tkX7_sumOf 3 rfl) rfl (by decide) ?_
  refine pw_iconst (v := 0) (tk tkX7_sumOf 4 rfl) (by decide) ?_
  refine pw_ist3 (tk tkX7_sumOf 5 rfl) rfl (by decide) ?_
  obtain ⟨c1, hc3, ec, ec2⟩ := inR_col k1
  exact L c1 hc3 ec ((if_neg (ne_f k1)).trans (by rw [ec2])) 6 0 (by omega)
set_option maxRecDepth 100000 in
set_option maxHeartbeats 4000000 in
theorem ct_X7_ruleCount (x : XW) (a : AM) (hc : RC a x.1) (hv : VS (uN (aS a)) (aS a))  : CT MX7_ruleCount 30 0 [.ref 160] (hp x) (CQ [] x (sruleCount a )) := by
  refine ct_of (by decide +kernel) (by decide) rfl (k := 0) (ls := [some (.ref 160)]) rfl (Nat.le_of_ble_eq_true rfl) ?_
  obtain ⟨u, eu⟩ : ∃ u, u = uN (aS a) := ⟨_, rfl⟩
  have hvu := hv
  rw [← eu] at hvu
  have hu8 := hvu.1
  have hu : sSc (cSt x.1 0) 0 = nI u := hc.1.2.2.1.trans hvu.2.1
  have e25 : aS a 25 = nI u := hvu.2.1
  refine pw_aload_n (tk tkX7_ruleCount 0 rfl) rfl ?_
  refine g7_now (tk tkX7_ruleCount 1 rfl) fkX7_10 ?_
  refine g4_rulesUsed (by first | assumption | decide | omega) (tk tkX7_ruleCount 2 rfl) fkX7_66 ?_
  refine pw_ireturn (tk tkX7_ruleCount 3 rfl) rfl (by decide) rfl ?_
  rw [hu]
  exact CQ.ret hc rfl (by rw [← e25]; rfl)
set_option maxRecDepth 100000 in
set_option maxHeartbeats 4000000 in
theorem ct_X7_eventCount (x : XW) (a : AM) (hc : RC a x.1) (hv : VS (uN (aS a)) (aS a))  : CT MX7_eventCount 30 0 [.ref 160] (hp x) (CQ [] x (seventCount a )) := by
  refine ct_of (by decide +kernel) (by decide) rfl (k := 0) (ls := [some (.ref 160)]) rfl (Nat.le_of_ble_eq_true rfl) ?_
  obtain ⟨u, eu⟩ : ∃ u, u = uN (aS a) := ⟨_, rfl⟩
  have hvu := hv
  rw [← eu] at hvu
  have hu8 := hvu.1
  have hu : sSc (cSt x.1 0) 0 = nI u := hc.1.2.2.1.trans hvu.2.1
  have e25 : aS a 25 = nI u := hvu.2.1
  refine pw_aload_n (tk tkX7_eventCount 0 rfl) rfl ?_
  refine g7_now (tk tkX7_eventCount 1 rfl) fkX7_10 ?_
  refine g4_events (by first | assumption | decide | omega) (tk tkX7_eventCount 2 rfl) fkX7_186 ?_
  refine pw_ireturn (tk tkX7_eventCount 3 rfl) rfl (by decide) rfl ?_
  rw [hc.1.2.2.2.2.1]
  exact CQ.ret hc rfl rfl
set_option maxRecDepth 100000 in
set_option maxHeartbeats 4000000 in
theorem ct_X7_logSize (x : XW) (a : AM) (hc : RC a x.1) (hv : VS (uN (aS a)) (aS a))  : CT MX7_logSize 30 0 [.ref 160] (hp x) (CQ [] x (slogSize a )) := by
  refine ct_of (by decide +kernel) (by decide) rfl (k := 0) (ls := [some (.ref 160)]) rfl (Nat.le_of_ble_eq_true rfl) ?_
  obtain ⟨u, eu⟩ : ∃ u, u = uN (aS a) := ⟨_, rfl⟩
  have hvu := hv
  rw [← eu] at hvu
  have hu8 := hvu.1
  have hu : sSc (cSt x.1 0) 0 = nI u := hc.1.2.2.1.trans hvu.2.1
  have e25 : aS a 25 = nI u := hvu.2.1
  refine pw_aload_n (tk tkX7_logSize 0 rfl) rfl ?_
  refine g7_now (tk tkX7_logSize 1 rfl) fkX7_10 ?_
  refine g4_log (by first | assumption | decide | omega) (tk tkX7_logSize 2 rfl) fkX7_187 ?_
  refine g2_size (by first | assumption | decide | omega) (tk tkX7_logSize 3 rfl) fkX7_191 ?_
  refine pw_ireturn (tk tkX7_logSize 4 rfl) rfl (by decide) rfl ?_
  obtain ⟨l, l1, l2⟩ := hc.1.2.2.2.2.2.2
  rw [l1.2.1]
  exact CQ.ret hc rfl (by rw [← l2.2.1]; rfl)
set_option maxRecDepth 100000 in
set_option maxHeartbeats 4000000 in
theorem ct_X7_undoCount (x : XW) (a : AM) (hc : RC a x.1) (hv : VS (uN (aS a)) (aS a))  : CT MX7_undoCount 30 0 [.ref 160] (hp x) (CQ [] x (sundoCount a )) := by
  refine ct_of (by decide +kernel) (by decide) rfl (k := 0) (ls := [some (.ref 160)]) rfl (Nat.le_of_ble_eq_true rfl) ?_
  obtain ⟨u, eu⟩ : ∃ u, u = uN (aS a) := ⟨_, rfl⟩
  have hvu := hv
  rw [← eu] at hvu
  have hu8 := hvu.1
  have hu : sSc (cSt x.1 0) 0 = nI u := hc.1.2.2.1.trans hvu.2.1
  have e25 : aS a 25 = nI u := hvu.2.1
  refine pw_aload_n (tk tkX7_undoCount 0 rfl) rfl ?_
  refine g7_history (tk tkX7_undoCount 1 rfl) fkX7_40 ?_
  refine g1_size (tk tkX7_undoCount 2 rfl) fkX7_269 ?_
  refine pw_ireturn (tk tkX7_undoCount 3 rfl) rfl (by decide) rfl ?_
  obtain ⟨nx, _, h0, _⟩ := hc.2.1
  rw [h0]
  exact CQ.ret hc rfl rfl
set_option maxRecDepth 100000 in
set_option maxHeartbeats 4000000 in
theorem ct_X7_actionOf (x : XW) (a : AM) (hc : RC a x.1) (hv : VS (uN (aS a)) (aS a)) (r : Int32) (h1 : inR r 0 (aS a 25 - 1) = true) : CT MX7_actionOf 30 0 [.ref 160, .int r] (hp x) (CQ [(1, "java/lang/IndexOutOfBoundsException")] x (sactionOf a r)) := by
  refine ct_of (by decide +kernel) (by decide) rfl (k := 0) (ls := [some (.ref 160), some (.int r)]) rfl (Nat.le_of_ble_eq_true rfl) ?_
  obtain ⟨u, eu⟩ : ∃ u, u = uN (aS a) := ⟨_, rfl⟩
  have hvu := hv
  rw [← eu] at hvu
  have hu8 := hvu.1
  have hu : sSc (cSt x.1 0) 0 = nI u := hc.1.2.2.1.trans hvu.2.1
  have e25 : aS a 25 = nI u := hvu.2.1
  refine pw_aload_n (tk tkX7_actionOf 0 rfl) rfl ?_
  refine pw_iload_n (tk tkX7_actionOf 1 rfl) rfl ?_
  refine pw_callV (ct0_X7_checkRule x u hu hu8 _ (by rw [← e25]; exact h1)) okX7_checkRule (tk tkX7_actionOf 2 rfl) mkX7_89 imX7_checkRule seX7_checkRule (hp_ot _ 0) rfl rfl rfl (by decide) (by decide) (Nat.le_of_ble_eq_true rfl) (fun r h2 q => ?_) (fun E h2 q => by obtain ⟨k1, rfl, rfl⟩ := ck_r q; exact pt_out rfl rfl (CQ.thr hc rfl List.mem_cons_self (if_pos (show inR r 0 (aS a 25 - 1) = false from by rw [e25]; exact k1))))
  obtain ⟨k1, rfl, rfl⟩ := ck_l q
  have k2 : inR r 0 (aS a 25 - 1) = true := by rw [e25]; exact k1
  obtain ⟨r1, hr, er, er2⟩ := inR_lt rfl (by omega) k1
  refine pw_aload_n (tk tkX7_actionOf 3 rfl) rfl ?_
  refine g7_now (tk tkX7_actionOf 4 rfl) fkX7_10 ?_
  refine g4_rules (by first | assumption | decide | omega) (tk tkX7_actionOf 5 rfl) fkX7_79 ?_
  refine pw_iload_n (tk tkX7_actionOf 6 rfl) rfl ?_
  refine al_rules_e (e := r1) (by first | assumption | decide | omega) (tk tkX7_actionOf 7 rfl) er (by first | decide | omega) ?_
  refine g3_action (by first | assumption | decide | omega) (by first | assumption | decide | omega) (tk tkX7_actionOf 8 rfl) fkX7_98 ?_
  rw [hc.1.2.2.2.2.2.1 r1 3 (by omega) (by omega)]
  exact pw_ireturn (tk tkX7_actionOf 9 rfl) rfl (by decide) rfl (CQ.ret hc rfl ((if_neg (ne_f k2)).trans (by rw [er2])))
set_option maxRecDepth 100000 in
set_option maxHeartbeats 4000000 in
theorem ct_X7_isMuted (x : XW) (a : AM) (hc : RC a x.1) (hv : VS (uN (aS a)) (aS a)) (r : Int32) (h1 : inR r 0 (aS a 25 - 1) = true) : CT MX7_isMuted 30 0 [.ref 160, .int r] (hp x) (CQ [(1, "java/lang/IndexOutOfBoundsException")] x (sisMuted a r)) := by
  refine ct_of (by decide +kernel) (by decide) rfl (k := 0) (ls := [some (.ref 160), some (.int r)]) rfl (Nat.le_of_ble_eq_true rfl) ?_
  obtain ⟨u, eu⟩ : ∃ u, u = uN (aS a) := ⟨_, rfl⟩
  have hvu := hv
  rw [← eu] at hvu
  have hu8 := hvu.1
  have hu : sSc (cSt x.1 0) 0 = nI u := hc.1.2.2.1.trans hvu.2.1
  have e25 : aS a 25 = nI u := hvu.2.1
  refine pw_aload_n (tk tkX7_isMuted 0 rfl) rfl ?_
  refine pw_iload_n (tk tkX7_isMuted 1 rfl) rfl ?_
  refine pw_callV (ct0_X7_checkRule x u hu hu8 _ (by rw [← e25]; exact h1)) okX7_checkRule (tk tkX7_isMuted 2 rfl) mkX7_89 imX7_checkRule seX7_checkRule (hp_ot _ 0) rfl rfl rfl (by decide) (by decide) (Nat.le_of_ble_eq_true rfl) (fun r h2 q => ?_) (fun E h2 q => by obtain ⟨k1, rfl, rfl⟩ := ck_r q; exact pt_out rfl rfl (CQ.thr hc rfl List.mem_cons_self (if_pos (show inR r 0 (aS a 25 - 1) = false from by rw [e25]; exact k1))))
  obtain ⟨k1, rfl, rfl⟩ := ck_l q
  have k2 : inR r 0 (aS a 25 - 1) = true := by rw [e25]; exact k1
  obtain ⟨r1, hr, er, er2⟩ := inR_lt rfl (by omega) k1
  refine pw_aload_n (tk tkX7_isMuted 3 rfl) rfl ?_
  refine g7_now (tk tkX7_isMuted 4 rfl) fkX7_10 ?_
  refine g4_rules (by first | assumption | decide | omega) (tk tkX7_isMuted 5 rfl) fkX7_79 ?_
  refine pw_iload_n (tk tkX7_isMuted 6 rfl) rfl ?_
  refine al_rules_e (e := r1) (by first | assumption | decide | omega) (tk tkX7_isMuted 7 rfl) er (by first | decide | omega) ?_
  refine g3_muted (by first | assumption | decide | omega) (by first | assumption | decide | omega) (tk tkX7_isMuted 8 rfl) fkX7_110 ?_
  rw [hc.1.2.2.2.2.2.1 r1 7 (by omega) (by omega)]
  exact pw_ireturn (tk tkX7_isMuted 9 rfl) rfl (by decide) (nar01 (hvu.2.2.2.2.2 r1 (by omega)).2.2.2.1).1 (CQ.ret hc rfl ((if_neg (ne_f k2)).trans (by rw [er2]; rcases (hvu.2.2.2.2.2 r1 (by omega)).2.2.2.1 with h | h <;> rw [h] <;> rfl)))
set_option maxRecDepth 100000 in
set_option maxHeartbeats 4000000 in
theorem ct_X7_actsOf (x : XW) (a : AM) (hc : RC a x.1) (hv : VS (uN (aS a)) (aS a)) (r : Int32) (h1 : inR r 0 (aS a 25 - 1) = true) : CT MX7_actsOf 30 0 [.ref 160, .int r] (hp x) (CQ [(1, "java/lang/IndexOutOfBoundsException")] x (sactsOf a r)) := by
  refine ct_of (by decide +kernel) (by decide) rfl (k := 0) (ls := [some (.ref 160), some (.int r)]) rfl (Nat.le_of_ble_eq_true rfl) ?_
  obtain ⟨u, eu⟩ : ∃ u, u = uN (aS a) := ⟨_, rfl⟩
  have hvu := hv
  rw [← eu] at hvu
  have hu8 := hvu.1
  have hu : sSc (cSt x.1 0) 0 = nI u := hc.1.2.2.1.trans hvu.2.1
  have e25 : aS a 25 = nI u := hvu.2.1
  refine pw_aload_n (tk tkX7_actsOf 0 rfl) rfl ?_
  refine pw_iload_n (tk tkX7_actsOf 1 rfl) rfl ?_
  refine pw_callV (ct0_X7_checkRule x u hu hu8 _ (by rw [← e25]; exact h1)) okX7_checkRule (tk tkX7_actsOf 2 rfl) mkX7_89 imX7_checkRule seX7_checkRule (hp_ot _ 0) rfl rfl rfl (by decide) (by decide) (Nat.le_of_ble_eq_true rfl) (fun r h2 q => ?_) (fun E h2 q => by obtain ⟨k1, rfl, rfl⟩ := ck_r q; exact pt_out rfl rfl (CQ.thr hc rfl List.mem_cons_self (if_pos (show inR r 0 (aS a 25 - 1) = false from by rw [e25]; exact k1))))
  obtain ⟨k1, rfl, rfl⟩ := ck_l q
  have k2 : inR r 0 (aS a 25 - 1) = true := by rw [e25]; exact k1
  obtain ⟨r1, hr, er, er2⟩ := inR_lt rfl (by omega) k1
  refine pw_aload_n (tk tkX7_actsOf 3 rfl) rfl ?_
  refine g7_now (tk tkX7_actsOf 4 rfl) fkX7_10 ?_
  refine g4_rules (by first | assumption | decide | omega) (tk tkX7_actsOf 5 rfl) fkX7_79 ?_
  refine pw_iload_n (tk tkX7_actsOf 6 rfl) rfl ?_
  refine al_rules_e (e := r1) (by first | assumption | decide | omega) (tk tkX7_actsOf 7 rfl) er (by first | decide | omega) ?_
  refine g3_acts (by first | assumption | decide | omega) (by first | assumption | decide | omega) (tk tkX7_actsOf 8 rfl) fkX7_114 ?_
  rw [hc.1.2.2.2.2.2.1 r1 8 (by omega) (by omega)]
  exact pw_ireturn (tk tkX7_actsOf 9 rfl) rfl (by decide) rfl (CQ.ret hc rfl ((if_neg (ne_f k2)).trans (by rw [er2])))
theorem fsub0 {a n : Nat} (hn : n ≤ 16) : nI a - nI n = nI (a + 32 - n) - 32 := by
  have e : nI (a + 32 - n) + nI n = nI a + nI 32 := by rw [nI_add, nI_add]; congr 1; omega
  have e2 : nI (a + 32 - n) = nI a + nI 32 - nI n := by rw [← e, Int32.add_sub_cancel]
  rw [e2]
  generalize nI a = X; generalize nI n = Y
  rw [show (32 : Int32) = nI 32 from rfl]
  generalize nI 32 = Z
  simp only [Int32.sub_eq_add_neg]
  have e9 : X + Z + -Y + -Z = X + -Y + (Z + -Z) := by ac_rfl
  rw [e9, Int32.add_right_neg, Int32.add_zero]
set_option maxRecDepth 100000 in
set_option maxHeartbeats 4000000 in
theorem ct_X7_loggedRule (x : XW) (a : AM) (hc : RC a x.1) (hv : VS (uN (aS a)) (aS a)) (r : Int32) (h1 : inR r 0 (aS a 99 - 1) = true) : CT MX7_loggedRule 30 0 [.ref 160, .int r] (hp x) (CQ [(1, "java/lang/IndexOutOfBoundsException")] x (sloggedRule a r)) := by
  refine ct_of (by decide +kernel) (by decide) rfl (k := 0) (ls := [some (.ref 160), some (.int r)]) rfl (Nat.le_of_ble_eq_true rfl) ?_
  obtain ⟨u, eu⟩ : ∃ u, u = uN (aS a) := ⟨_, rfl⟩
  have hvu := hv
  rw [← eu] at hvu
  have hu8 := hvu.1
  have hu : sSc (cSt x.1 0) 0 = nI u := hc.1.2.2.1.trans hvu.2.1
  have e25 : aS a 25 = nI u := hvu.2.1
  obtain ⟨l, ⟨l1, l2, la, l3, l4, l5⟩, m1, m2, m3⟩ := hc.1.2.2.2.2.2.2
  have e99 : aS a 99 = nI l.length := m2
  refine pw_aload_n (tk tkX7_loggedRule 0 rfl) rfl ?_
  refine pw_iload_n (tk tkX7_loggedRule 1 rfl) rfl ?_
  refine pw_callV (ct0_X7_checkAgo x l.length l2 l1 _ (by rw [← e99]; exact h1)) okX7_checkAgo (tk tkX7_loggedRule 2 rfl) mkX7_196 imX7_checkAgo seX7_checkAgo (hp_ot _ 0) rfl rfl rfl (by decide) (by decide) (Nat.le_of_ble_eq_true rfl) (fun r h2 q => ?_) (fun E h2 q => by obtain ⟨k1, rfl, rfl⟩ := ck_r q; exact pt_out rfl rfl (CQ.thr hc rfl List.mem_cons_self (if_pos (show inR r 0 (aS a 99 - 1) = false from by rw [e99]; exact k1))))
  obtain ⟨k1, rfl, rfl⟩ := ck_l q
  have k2 : inR r 0 (aS a 99 - 1) = true := by rw [e99]; exact k1
  obtain ⟨r1, hr, er, er2⟩ := inR_lt rfl (by omega) k1
  obtain ⟨p, hp0⟩ : ∃ p, l[r1]? = some p := ⟨_, List.getElem?_eq_getElem hr⟩
  obtain ⟨p1, p2⟩ := l5 r1 p hp0
  obtain ⟨n1, n2⟩ := m3 r1 p hp0
  refine pw_aload_n (tk tkX7_loggedRule 3 rfl) rfl ?_
  refine g7_now (tk tkX7_loggedRule 4 rfl) fkX7_10 ?_
  refine g4_log (by first | assumption | decide | omega) (tk tkX7_loggedRule 5 rfl) fkX7_187 ?_
  refine g2_rules (by first | assumption | decide | omega) (tk tkX7_loggedRule 6 rfl) fkX7_199 ?_
  refine pw_aload_n (tk tkX7_loggedRule 7 rfl) rfl ?_
  refine g7_now (tk tkX7_loggedRule 8 rfl) fkX7_10 ?_
  refine g4_log (by first | assumption | decide | omega) (tk tkX7_loggedRule 9 rfl) fkX7_187 ?_
  refine pw_iload_n (tk tkX7_loggedRule 10 rfl) rfl ?_
  refine pw_cV (ct_X2_placeOf x 0 (by decide) _) okX2_placeOf (tk tkX7_loggedRule 11 rfl) mkX7_201 imX2_placeOf seX2_placeOf (hp_st _ (by first | assumption | decide | omega) (by decide : 4 < 16)) rfl rfl rfl (by decide) (by decide) (Nat.le_of_ble_eq_true rfl) ?_
  rw [l4, fl16 (la + 32 - r1) (by omega) (show nI la - r = nI (la + 32 - r1) - 32 from by rw [er]; exact fsub0 (by omega)), show (la + 32 - r1) % 16 = (la + 16 - r1) % 16 by omega]
  refine al_lr_e (e := (la + 16 - r1) % 16) (by first | assumption | decide | omega) (tk tkX7_loggedRule 12 rfl) rfl (by first | decide | omega) ?_
  rw [p1]
  exact pw_ireturn (tk tkX7_loggedRule 13 rfl) rfl (by decide) rfl (CQ.ret hc rfl ((if_neg (ne_f k2)).trans (by rw [er2, ← n1])))
set_option maxRecDepth 100000 in
set_option maxHeartbeats 4000000 in
theorem ct_X7_loggedDepth (x : XW) (a : AM) (hc : RC a x.1) (hv : VS (uN (aS a)) (aS a)) (r : Int32) (h1 : inR r 0 (aS a 99 - 1) = true) : CT MX7_loggedDepth 30 0 [.ref 160, .int r] (hp x) (CQ [(1, "java/lang/IndexOutOfBoundsException")] x (sloggedDepth a r)) := by
  refine ct_of (by decide +kernel) (by decide) rfl (k := 0) (ls := [some (.ref 160), some (.int r)]) rfl (Nat.le_of_ble_eq_true rfl) ?_
  obtain ⟨u, eu⟩ : ∃ u, u = uN (aS a) := ⟨_, rfl⟩
  have hvu := hv
  rw [← eu] at hvu
  have hu8 := hvu.1
  have hu : sSc (cSt x.1 0) 0 = nI u := hc.1.2.2.1.trans hvu.2.1
  have e25 : aS a 25 = nI u := hvu.2.1
  obtain ⟨l, ⟨l1, l2, la, l3, l4, l5⟩, m1, m2, m3⟩ := hc.1.2.2.2.2.2.2
  have e99 : aS a 99 = nI l.length := m2
  refine pw_aload_n (tk tkX7_loggedDepth 0 rfl) rfl ?_
  refine pw_iload_n (tk tkX7_loggedDepth 1 rfl) rfl ?_
  refine pw_callV (ct0_X7_checkAgo x l.length l2 l1 _ (by rw [← e99]; exact h1)) okX7_checkAgo (tk tkX7_loggedDepth 2 rfl) mkX7_196 imX7_checkAgo seX7_checkAgo (hp_ot _ 0) rfl rfl rfl (by decide) (by decide) (Nat.le_of_ble_eq_true rfl) (fun r h2 q => ?_) (fun E h2 q => by obtain ⟨k1, rfl, rfl⟩ := ck_r q; exact pt_out rfl rfl (CQ.thr hc rfl List.mem_cons_self (if_pos (show inR r 0 (aS a 99 - 1) = false from by rw [e99]; exact k1))))
  obtain ⟨k1, rfl, rfl⟩ := ck_l q
  have k2 : inR r 0 (aS a 99 - 1) = true := by rw [e99]; exact k1
  obtain ⟨r1, hr, er, er2⟩ := inR_lt rfl (by omega) k1
  obtain ⟨p, hp0⟩ : ∃ p, l[r1]? = some p := ⟨_, List.getElem?_eq_getElem hr⟩
  obtain ⟨p1, p2⟩ := l5 r1 p hp0
  obtain ⟨n1, n2⟩ := m3 r1 p hp0
  refine pw_aload_n (tk tkX7_loggedDepth 3 rfl) rfl ?_
  refine g7_now (tk tkX7_loggedDepth 4 rfl) fkX7_10 ?_
  refine g4_log (by first | assumption | decide | omega) (tk tkX7_loggedDepth 5 rfl) fkX7_187 ?_
  refine g2_depths (by first | assumption | decide | omega) (tk tkX7_loggedDepth 6 rfl) fkX7_205 ?_
  refine pw_aload_n (tk tkX7_loggedDepth 7 rfl) rfl ?_
  refine g7_now (tk tkX7_loggedDepth 8 rfl) fkX7_10 ?_
  refine g4_log (by first | assumption | decide | omega) (tk tkX7_loggedDepth 9 rfl) fkX7_187 ?_
  refine pw_iload_n (tk tkX7_loggedDepth 10 rfl) rfl ?_
  refine pw_cV (ct_X2_placeOf x 0 (by decide) _) okX2_placeOf (tk tkX7_loggedDepth 11 rfl) mkX7_201 imX2_placeOf seX2_placeOf (hp_st _ (by first | assumption | decide | omega) (by decide : 4 < 16)) rfl rfl rfl (by decide) (by decide) (Nat.le_of_ble_eq_true rfl) ?_
  rw [l4, fl16 (la + 32 - r1) (by omega) (show nI la - r = nI (la + 32 - r1) - 32 from by rw [er]; exact fsub0 (by omega)), show (la + 32 - r1) % 16 = (la + 16 - r1) % 16 by omega]
  refine al_ld_e (e := (la + 16 - r1) % 16) (by first | assumption | decide | omega) (tk tkX7_loggedDepth 12 rfl) rfl (by first | decide | omega) ?_
  rw [p2]
  exact pw_ireturn (tk tkX7_loggedDepth 13 rfl) rfl (by decide) rfl (CQ.ret hc rfl ((if_neg (ne_f k2)).trans (by rw [er2, ← n2])))
end
section
theorem kp_st (x : XW) (u nx k : Nat) {j : Nat} (h : j ≠ 2 + nx) : cSt (kpX x u 0 nx k).1 j = cSt x.1 j := cSt_n x _ h
theorem kp_at (x : XW) (u nx k : Nat) : cSt (kpX x u 0 nx k).1 (2 + nx) = cpS u (cSt x.1 (2 + nx)) (cSt x.1 0) := cSt_u x _ _
theorem kp_RC {x : XW} {a : AM} {u nx : Nat} (hc : RC a x.1) (hv : VS u (aS a)) (hnx : nx < 6) (h1 : cHi x.1 1 = nI nx) (h6 : aK a ≤ 6) (hh : ∀ i, i < aK a → RS (cSt x.1 (2 + (nx + 6 - aK a + i) % 6)) (aH a i)) : RC (aS a, recH a (aS a), a.2.2) (kpX x u 0 nx (aK a)).1 ∧ (kpX x u 0 nx (aK a)).2 = x.2 ∧ cSt (kpX x u 0 nx (aK a)).1 0 = cSt x.1 0 := by
  have e0 : cSt (kpX x u 0 nx (aK a)).1 0 = cSt x.1 0 := kp_st x u nx _ (by omega)
  obtain ⟨c1, _, c3, c4⟩ := hc
  have hn : RS (cSt (kpX x u 0 nx (aK a)).1 (2 + nx)) (aS a) := by rw [kp_at]; exact RS1.cp c1 _ hv.un
  refine ⟨⟨(show RS (cSt (kpX x u 0 nx (aK a)).1 0) (aS a) from by rw [e0]; exact c1), ⟨(nx + 1) % 6, Nat.mod_lt _ (by decide), ?_, rfl, ?_, ?_⟩, fun i hi => ⟨(c3 i hi).1, fun hb => ?_⟩, c4⟩, rfl, e0⟩
  · show nI (min (aK a + 1) 6) = nI (recH a (aS a)).1
    unfold recH
    by_cases q : aK a = 6
    · rw [if_pos q, q]; rfl
    · rw [if_neg q, Nat.min_eq_left (by omega)]
  · show (recH a (aS a)).1 ≤ 6
    unfold recH
    by_cases q : aK a = 6
    · rw [if_pos q]; exact Nat.le_refl _
    · rw [if_neg q]; show aK a + 1 ≤ 6; omega
  · show ∀ i, i < (recH a (aS a)).1 → RS (cSt (kpX x u 0 nx (aK a)).1 (2 + ((nx + 1) % 6 + 6 - (recH a (aS a)).1 + i) % 6)) ((recH a (aS a)).2 i)
    unfold recH
    by_cases q : aK a = 6
    · rw [if_pos q]
      intro i hi
      dsimp only at hi ⊢
      by_cases w : i = 5
      · rw [if_pos w, show ((nx + 1) % 6 + 6 - 6 + i) % 6 = nx by omega]; exact hn
      · rw [if_neg w, kp_st x u nx _ (by omega), show ((nx + 1) % 6 + 6 - 6 + i) % 6 = (nx + 6 - aK a + (i + 1)) % 6 by omega]
        exact hh (i + 1) (by omega)
    · rw [if_neg q]
      intro i hi
      dsimp only at hi ⊢
      by_cases w : i = aK a
      · rw [if_pos w, show ((nx + 1) % 6 + 6 - (aK a + 1) + i) % 6 = nx by omega]; exact hn
      · rw [if_neg w, kp_st x u nx _ (by omega), show ((nx + 1) % 6 + 6 - (aK a + 1) + i) % 6 = (nx + 6 - aK a + i) % 6 by omega]
        exact hh i (by omega)
  · show RS (cSt (kpX x u 0 nx (aK a)).1 (8 + i)) (aL a i)
    rw [kp_st x u nx _ (by omega)]
    exact (c3 i hi).2 hb
/-- another state now -/
theorem RC.now {a : AM} {x : XW} (hc : RC a x.1) {σ : SS} {t : Nat → Int32} (h : RS σ t) : RC (t, a.2) (uC1 x 0 σ).1 := by
  obtain ⟨c1, ⟨nx, g1, g2, g3, g4, g5⟩, c3, c4⟩ := hc
  refine ⟨(show RS (cSt (uC1 x 0 σ).1 0) t from by rw [cSt_u]; exact h), ⟨nx, g1, g2, g3, g4, fun i hi => ?_⟩, fun i hi => ⟨(c3 i hi).1, fun hb => ?_⟩, c4⟩
  · rw [cSt_n _ _ (by omega)]; exact g5 i hi
  · rw [cSt_n _ _ (by omega)]; exact (c3 i hi).2 hb
theorem FC.rc {a : AM} {x y : XW} (h : FC x y) (hc : RC a x.1) : RC a y.1 := by
  obtain ⟨f1, f2, f3⟩ := h
  obtain ⟨c1, ⟨nx, g1, g2, g3, g4, g5⟩, c3, c4, c5, c6⟩ := hc
  have eH : cHi y.1 = cHi x.1 := congrArg (fun c => c.2.2.2.2.1) f3
  have eF : cSf y.1 = cSf x.1 := congrArg (fun c => c.2.2.2.2.2) f3
  have eT : cTx y.1 = cTx x.1 := congrArg (fun c => c.2.2.1) f3
  have eG : cSg y.1 = cSg x.1 := congrArg (fun c => c.2.1) f3
  refine ⟨by rw [f2 0 (by omega)]; exact c1, ⟨nx, g1, by rw [eH]; exact g2, by rw [eH]; exact g3, g4, fun i hi => by rw [f2 _ (by omega)]; exact g5 i hi⟩, fun i hi => ⟨by rw [eF]; exact (c3 i hi).1, fun hb => by rw [f2 _ (by omega)]; exact (c3 i hi).2 hb⟩, by rw [eT]; exact c4, c5, fun i hi => by rw [eG]; exact c6 i hi⟩
/-- numbers that the log, the counts and the table don't see -/
theorem RS1.mid {σ τ : SS} {s t : Nat → Int32} {e : Int32} (h : RS1 σ s e) (h1 : sTh τ = sTh σ) (h2 : sVa τ = sVa σ) (h3 : sLr τ = sLr σ) (h4 : sLd τ = sLd σ) (h5 : sLs τ = sLs σ) (h6 : sSc τ 2 = sSc σ 2) (g : ∀ j, j < 24 ∨ 98 ≤ j → t j = s j) (g5 : sSc τ 0 = t 25) (g4 : sSc τ 1 = t 24) (gr : ∀ i k, i < uN t → k < 9 → sRu τ i k = rN t i k) : RS1 τ t e := by
  obtain ⟨a, b, c, d, f, _, l, ⟨l1, l2, la, l3, l4, l5⟩, m1, m2, m3⟩ := h
  refine ⟨fun j hj => by rw [h1, g j (by omega)]; exact a j hj, fun j hj => by rw [h2, g _ (by omega)]; exact b j hj, g5, g4, h6.trans f, gr, l, ⟨l1, by rw [h5]; exact l2, la, l3, by rw [h5]; exact l4, fun k p hk => by rw [h3, h4]; exact l5 k p hk⟩, m1, by rw [g 99 (by omega)]; exact m2, fun k p hk => by rw [g _ (by omega), g _ (by omega)]; exact m3 k p hk⟩
theorem RS1.ru {σ : SS} {s : Nat → Int32} {e : Int32} (h : RS1 σ s e) {i k : Nat} (v : Int32) (hi : i < 8) (hk : k < 9) : RS1 (uS3 σ (upR (sRu σ) i (upd (sRu σ i) k v))) (upd s (26 + 9 * i + k) v) e := by
  have nt : ∀ j, j ≠ 26 + 9 * i + k → upd s (26 + 9 * i + k) v j = s j := fun j hj => upd_nt _ _ hj
  refine h.mid rfl rfl rfl rfl rfl rfl (fun j hj => nt j (by omega)) (by rw [nt 25 (by omega)]; exact h.2.2.1) (by rw [nt 24 (by omega)]; exact h.2.2.2.1) (fun i2 k2 hi2 hk2 => ?_)
  rw [uN_of (nt 25 (by omega))] at hi2
  show upR (sRu σ) i (upd (sRu σ i) k v) i2 k2 = upd s (26 + 9 * i + k) v (26 + 9 * i2 + k2)
  unfold upR
  by_cases q : i2 = i
  · subst q
    rw [if_pos rfl]
    unfold upd
    by_cases w : k2 = k
    · rw [if_pos w, if_pos (by omega)]
    · rw [if_neg w, if_neg (by omega)]; exact h.2.2.2.2.2.1 _ k2 hi2 hk2
  · rw [if_neg q, nt _ (by omega)]; exact h.2.2.2.2.2.1 _ k2 hi2 hk2
theorem upd_row {q t : Nat → Int32} {p : Nat} (h : ∀ k, k < 9 → q k = t (p + k)) (m : Nat) (v : Int32) : ∀ k, k < 9 → upd q m v k = upd t (p + m) v (p + k) := by
  intro k hk
  unfold upd
  by_cases w : k = m
  · rw [if_pos w, if_pos (by omega)]
  · rw [if_neg w, if_neg (by omega)]; exact h k hk
theorem RS1.row {σ : SS} {s : Nat → Int32} {e : Int32} (h : RS1 σ s e) {i : Nat} (hi : i < 8) (q t : Nat → Int32) (g : ∀ j, j < 26 + 9 * i ∨ 26 + 9 * i + 9 ≤ j → t j = s j) (g2 : ∀ k, k < 9 → q k = t (26 + 9 * i + k)) : RS1 (uS3 σ (upR (sRu σ) i q)) t e := by
  refine h.mid rfl rfl rfl rfl rfl rfl (fun j hj => g j (by omega)) (by rw [g 25 (by omega)]; exact h.2.2.1) (by rw [g 24 (by omega)]; exact h.2.2.2.1) (fun i2 k2 hi2 hk2 => ?_)
  rw [uN_of (g 25 (by omega))] at hi2
  show upR (sRu σ) i q i2 k2 = t (26 + 9 * i2 + k2)
  unfold upR
  by_cases w : i2 = i
  · subst w; rw [if_pos rfl]; exact g2 k2 hk2
  · rw [if_neg w, g _ (by omega)]; exact h.2.2.2.2.2.1 _ k2 hi2 hk2
theorem RS1.rs {σ : SS} {t : Nat → Int32} {w : Int32} (h : RS1 σ t w) (e : t 98 = w) : RS σ t := by subst e; exact h
theorem RS1.dep {σ : SS} {s : Nat → Int32} {e : Int32} (h : RS1 σ s e) (v : Int32) : RS1 (uS7 σ (upd (sSc σ) 1 v)) (upd s 24 v) e := by
  refine h.mid rfl rfl rfl rfl rfl rfl (fun j hj => upd_nt _ _ (by omega)) h.2.2.1 rfl (fun i k hi hk => ?_)
  exact (h.2.2.2.2.2.1 i k hi hk).trans (upd_nt s v (show 26 + 9 * i + k ≠ 24 by omega)).symm
theorem inR_t4 {v hi : Int32} (h1 : ¬ v < 0) (h2 : v ≤ hi) : inR v 0 hi = true := by
  unfold inR; rw [decide_eq_true h1, decide_eq_true (Int32.not_lt.mpr h2)]; rfl
theorem inR_f1 {v lo hi : Int32} (h1 : v < lo) : inR v lo hi = false := by
  unfold inR; rw [decide_eq_false (fun q => q h1)]; rfl
theorem inR_f2 {v lo hi : Int32} (h2 : hi < v) : inR v lo hi = false := by
  unfold inR; rw [decide_eq_false (show ¬ ¬ hi < v from fun q => q h2), Bool.and_false]
set_option maxRecDepth 100000 in
set_option maxHeartbeats 4000000 in
theorem ct_X7_setDepth (x : XW) (a : AM) (hc : RC a x.1) (hv : VS (uN (aS a)) (aS a)) (v : Int32) : CT MX7_setDepth 30 6 [.ref 160, .int v] (hp x) (CQ [(1, "java/lang/IllegalArgumentException")] x (ssetDepth a v)) := by
  refine ct_of (by decide +kernel) (by decide) rfl (k := 1) (ls := [some (.ref 160), some (.int v), none]) rfl (Nat.le_of_ble_eq_true rfl) ?_
  obtain ⟨u, eu⟩ : ∃ u, u = uN (aS a) := ⟨_, rfl⟩
  have hvu := hv
  rw [← eu] at hvu
  have hu8 := hvu.1
  have hu : sSc (cSt x.1 0) 0 = nI u := hc.1.2.2.1.trans hvu.2.1
  have e25 : aS a 25 = nI u := hvu.2.1
  obtain ⟨nx, hnx, g0, g1, g6, gh⟩ := hc.2.1
  obtain ⟨z, ez⟩ : ∃ z, z = kpX x u 0 nx (aK a) := ⟨_, rfl⟩
  obtain ⟨rz, rz2, rz0⟩ : RC (aS a, recH a (aS a), a.2.2) z.1 ∧ z.2 = x.2 ∧ cSt z.1 0 = cSt x.1 0 := by rw [ez]; exact kp_RC hc hvu hnx g1 g6 gh
  have rs : RS (cSt z.1 0) (aS a) := rz.1
  have huz : sSc (cSt z.1 0) 0 = nI u := rs.2.2.1.trans e25
  refine pw_iload_n (tk tkX7_setDepth 0 rfl) rfl ?_
  refine pw_if_lt (tgt := 9) (tk tkX7_setDepth 1 rfl) (by decide) (fun c1 => ?_) (fun c1 => ?_)
  · exact pw_throw twIAE rfl rfl rfl ckX7_59 (tx := "depth is out of range") (List.mem_of_getElem? (i := 4) rfl) (tk tkX7_setDepth 5 rfl) (tk tkX7_setDepth 6 rfl) (tk tkX7_setDepth 7 rfl) (tk tkX7_setDepth 8 rfl) (tk tkX7_setDepth 9 rfl) (by decide) (by decide) (CQ.thr hc rfl List.mem_cons_self (if_pos (inR_f1 c1)))
  · refine pw_iload_n (tk tkX7_setDepth 2 rfl) rfl ?_
    refine pw_iconst (v := 5) (tk tkX7_setDepth 3 rfl) (by decide) ?_
    refine pw_icmp_le (tgt := 19) (tk tkX7_setDepth 4 rfl) (by decide) (fun c6 => ?_) (fun c6 => ?_)
    · refine pw_aload_n (tk tkX7_setDepth 10 rfl) rfl ?_
      refine g7_history (tk tkX7_setDepth 11 rfl) fkX7_40 ?_
      refine pw_aload_n (tk tkX7_setDepth 12 rfl) rfl ?_
      refine g7_now (tk tkX7_setDepth 13 rfl) fkX7_10 ?_
      refine pw_cV0 (ct_X1_keep x u 0 nx (aK a) (by decide) hnx g6 g0 g1 (hc.1.wb hvu)) okX1_keep (tk tkX7_setDepth 14 rfl) mkX7_75 imX1_keep seX1_keep (hp_ot _ 7) rfl rfl rfl (by decide) (by decide) (Nat.le_of_ble_eq_true rfl) ?_
      rw [← ez]
      refine pw_aload_n (tk tkX7_setDepth 15 rfl) rfl ?_
      refine g7_now (tk tkX7_setDepth 16 rfl) fkX7_10 ?_
      refine g4_depth (by first | assumption | decide | omega) (tk tkX7_setDepth 17 rfl) fkX7_122 ?_
      rw [rs.2.2.2.1]
      refine pw_ist2 (tk tkX7_setDepth 18 rfl) rfl (by decide) ?_
      refine pw_aload_n (tk tkX7_setDepth 19 rfl) rfl ?_
      refine g7_now (tk tkX7_setDepth 20 rfl) fkX7_10 ?_
      refine pw_iload_n (tk tkX7_setDepth 21 rfl) rfl ?_
      refine p4_depth (by first | assumption | decide | omega) (tk tkX7_setDepth 22 rfl) fkX7_122 ?_
      refine pw_iload_n (tk tkX7_setDepth 23 rfl) rfl ?_
      exact pw_ireturn (tk tkX7_setDepth 24 rfl) rfl (by decide) rfl (CQ.ret (rz.now (rs.dep v)) rz2 (if_neg (ne_f (inR_t4 c1 c6))))
    · exact pw_throw twIAE rfl rfl rfl ckX7_59 (tx := "depth is out of range") (List.mem_of_getElem? (i := 4) rfl) (tk tkX7_setDepth 5 rfl) (tk tkX7_setDepth 6 rfl) (tk tkX7_setDepth 7 rfl) (tk tkX7_setDepth 8 rfl) (tk tkX7_setDepth 9 rfl) (by decide) (by decide) (CQ.thr hc rfl List.mem_cons_self (if_pos (inR_f2 (Int32.not_le.mp c6))))
theorem uRu_get7 (z : XW) (b i : Nat) (v : Int32) : sRu (cSt (uC1 z b (uS3 (cSt z.1 b) (upR (sRu (cSt z.1 b)) i (upd (sRu (cSt z.1 b) i) 7 v)))).1 b) i 7 = v := by
  rw [show uC1 z b (uS3 (cSt z.1 b) (upR (sRu (cSt z.1 b)) i (upd (sRu (cSt z.1 b) i) 7 v))) = uRu z b i (upd (sRu (cSt z.1 b) i) 7 v) from rfl, uRu_get, upd_at]
set_option maxRecDepth 100000 in
set_option maxHeartbeats 4000000 in
theorem ct_X7_turnMute (x : XW) (a : AM) (hc : RC a x.1) (hv : VS (uN (aS a)) (aS a)) (r : Int32) : CT MX7_turnMute 30 6 [.ref 160, .int r] (hp x) (CQ [(1, "java/lang/IndexOutOfBoundsException")] x (sturnMute a r)) := by
  refine ct_of (by decide +kernel) (by decide) rfl (k := 1) (ls := [some (.ref 160), some (.int r), none]) rfl (Nat.le_of_ble_eq_true rfl) ?_
  obtain ⟨u, eu⟩ : ∃ u, u = uN (aS a) := ⟨_, rfl⟩
  have hvu := hv
  rw [← eu] at hvu
  have hu8 := hvu.1
  have hu : sSc (cSt x.1 0) 0 = nI u := hc.1.2.2.1.trans hvu.2.1
  have e25 : aS a 25 = nI u := hvu.2.1
  obtain ⟨nx, hnx, g0, g1, g6, gh⟩ := hc.2.1
  obtain ⟨z, ez⟩ : ∃ z, z = kpX x u 0 nx (aK a) := ⟨_, rfl⟩
  obtain ⟨rz, rz2, rz0⟩ : RC (aS a, recH a (aS a), a.2.2) z.1 ∧ z.2 = x.2 ∧ cSt z.1 0 = cSt x.1 0 := by rw [ez]; exact kp_RC hc hvu hnx g1 g6 gh
  have rs : RS (cSt z.1 0) (aS a) := rz.1
  have huz : sSc (cSt z.1 0) 0 = nI u := rs.2.2.1.trans e25
  refine pw_aload_n (tk tkX7_turnMute 0 rfl) rfl ?_
  refine pw_iload_n (tk tkX7_turnMute 1 rfl) rfl ?_
  refine pw_callV (ct_X7_checkRule x u hu hu8 _) okX7_checkRule (tk tkX7_turnMute 2 rfl) mkX7_89 imX7_checkRule seX7_checkRule (hp_ot _ 0) rfl rfl rfl (by decide) (by decide) (Nat.le_of_ble_eq_true rfl) (fun r h2 q => ?_) (fun E h2 q => by obtain ⟨k1, rfl, rfl⟩ := ck_r q; exact pt_out rfl rfl (CQ.thr hc rfl List.mem_cons_self (if_pos (show inR r 0 (aS a 25 - 1) = false from by rw [e25]; exact k1))))
  obtain ⟨k1, rfl, rfl⟩ := ck_l q
  refine pw_aload_n (tk tkX7_turnMute 3 rfl) rfl ?_
  refine g7_history (tk tkX7_turnMute 4 rfl) fkX7_40 ?_
  refine pw_aload_n (tk tkX7_turnMute 5 rfl) rfl ?_
  refine g7_now (tk tkX7_turnMute 6 rfl) fkX7_10 ?_
  refine pw_cV0 (ct_X1_keep x u 0 nx (aK a) (by decide) hnx g6 g0 g1 (hc.1.wb hvu)) okX1_keep (tk tkX7_turnMute 7 rfl) mkX7_75 imX1_keep seX1_keep (hp_ot _ 7) rfl rfl rfl (by decide) (by decide) (Nat.le_of_ble_eq_true rfl) ?_
  rw [← ez]
  have k2 : inR r 0 (aS a 25 - 1) = true := by rw [e25]; exact k1
  obtain ⟨r1, hr, er, er2⟩ := inR_lt rfl (by omega) k1
  have m7 : rN (aS a) r1 7 = 0 ∨ rN (aS a) r1 7 = 1 := (hvu.2.2.2.2.2 r1 (by omega)).2.2.2.1
  have q7 : sRu (cSt z.1 0) r1 7 = rN (aS a) r1 7 := rs.2.2.2.2.2.1 r1 7 (by omega) (by omega)
  refine pw_aload_n (tk tkX7_turnMute 8 rfl) rfl ?_
  refine g7_now (tk tkX7_turnMute 9 rfl) fkX7_10 ?_
  refine g4_rules (by first | assumption | decide | omega) (tk tkX7_turnMute 10 rfl) fkX7_79 ?_
  refine pw_iload_n (tk tkX7_turnMute 11 rfl) rfl ?_
  refine al_rules_e (e := r1) (by first | assumption | decide | omega) (tk tkX7_turnMute 12 rfl) er (by first | decide | omega) ?_
  refine pw_ast2 (tk tkX7_turnMute 13 rfl) rfl (by decide) ?_
  refine pw_aload_n (tk tkX7_turnMute 14 rfl) rfl ?_
  refine pw_aload_n (tk tkX7_turnMute 15 rfl) rfl ?_
  refine g3_muted (by first | assumption | decide | omega) (by first | assumption | decide | omega) (tk tkX7_turnMute 16 rfl) fkX7_110 ?_
  rw [q7]
  refine pw_if_ne (tgt := 38) (tk tkX7_turnMute 17 rfl) (by decide) (fun c31 => ?_) (fun c31 => ?_)
  · refine pw_iconst (v := 0) (tk tkX7_turnMute 20 rfl) (by decide) ?_
    have h7 : rN (aS a) r1 7 = 1 := m7.resolve_left c31
    
    refine p3_muted (by first | assumption | decide | omega) (by first | assumption | decide | omega) (tk tkX7_turnMute 21 rfl) fkX7_110 ⟨rfl, rfl⟩ ?_
    refine pw_aload_n (tk tkX7_turnMute 22 rfl) rfl ?_
    refine g3_muted (by first | assumption | decide | omega) (by first | assumption | decide | omega) (tk tkX7_turnMute 23 rfl) fkX7_110 ?_
    rw [show sRu (cSt (uC1 z 0 (uS3 (cSt z.1 0) (upR (sRu (cSt z.1 0)) r1 (upd (sRu (cSt z.1 0) r1) 7 0)))).1 0) r1 7 = 0 from uRu_get7 z 0 r1 _, show (0 : Int32) = 1 - rN (aS a) r1 7 from by rw [h7]; rfl]
    refine pw_ireturn (tk tkX7_turnMute 24 rfl) rfl (by decide) (by rw [h7]; rfl) ?_
    have e : sturnMute a r = (0, 1 - rN (aS a) r1 7, (upd (aS a) (26 + 9 * r1 + 7) (1 - rN (aS a) r1 7), recH a (aS a), a.2.2)) := (if_neg (ne_f k2)).trans (by rw [er2, h7]; rfl)
    exact CQ.ret (rz.now ((rs.ru (i := r1) (k := 7) (1 - rN (aS a) r1 7) (by omega) (by decide)).rs (upd_nt _ _ (by omega)))) rz2 e
  · refine pw_iconst (v := 1) (tk tkX7_turnMute 18 rfl) (by decide) ?_
    refine pw_goto (tgt := 39) (tk tkX7_turnMute 19 rfl) (by decide) ?_
    have h7 : rN (aS a) r1 7 = 0 := c31
    
    refine p3_muted (by first | assumption | decide | omega) (by first | assumption | decide | omega) (tk tkX7_turnMute 21 rfl) fkX7_110 ⟨rfl, rfl⟩ ?_
    refine pw_aload_n (tk tkX7_turnMute 22 rfl) rfl ?_
    refine g3_muted (by first | assumption | decide | omega) (by first | assumption | decide | omega) (tk tkX7_turnMute 23 rfl) fkX7_110 ?_
    rw [show sRu (cSt (uC1 z 0 (uS3 (cSt z.1 0) (upR (sRu (cSt z.1 0)) r1 (upd (sRu (cSt z.1 0) r1) 7 1)))).1 0) r1 7 = 1 from uRu_get7 z 0 r1 _, show (1 : Int32) = 1 - rN (aS a) r1 7 from by rw [h7]; rfl]
    refine pw_ireturn (tk tkX7_turnMute 24 rfl) rfl (by decide) (by rw [h7]; rfl) ?_
    have e : sturnMute a r = (0, 1 - rN (aS a) r1 7, (upd (aS a) (26 + 9 * r1 + 7) (1 - rN (aS a) r1 7), recH a (aS a), a.2.2)) := (if_neg (ne_f k2)).trans (by rw [er2, h7]; rfl)
    exact CQ.ret (rz.now ((rs.ru (i := r1) (k := 7) (1 - rN (aS a) r1 7) (by omega) (by decide)).rs (upd_nt _ _ (by omega)))) rz2 e
set_option maxRecDepth 100000 in
set_option maxHeartbeats 4000000 in
theorem ct_X7_setAction (x : XW) (a : AM) (hc : RC a x.1) (hv : VS (uN (aS a)) (aS a)) (r k ro c m : Int32) : CT MX7_setAction 30 6 [.ref 160, .int r, .int k, .int ro, .int c, .int m] (hp x) (CQ [(1, "java/lang/IndexOutOfBoundsException"), (2, "java/lang/IllegalArgumentException")] x (ssetAction a r k ro c m)) := by
  refine ct_of (by decide +kernel) (by decide) rfl (k := 2) (ls := [some (.ref 160), some (.int r), some (.int k), some (.int ro), some (.int c), some (.int m), none, none]) rfl (Nat.le_of_ble_eq_true rfl) ?_
  obtain ⟨u, eu⟩ : ∃ u, u = uN (aS a) := ⟨_, rfl⟩
  have hvu := hv
  rw [← eu] at hvu
  have hu8 := hvu.1
  have hu : sSc (cSt x.1 0) 0 = nI u := hc.1.2.2.1.trans hvu.2.1
  have e25 : aS a 25 = nI u := hvu.2.1
  obtain ⟨nx, hnx, g0, g1, g6, gh⟩ := hc.2.1
  obtain ⟨z, ez⟩ : ∃ z, z = kpX x u 0 nx (aK a) := ⟨_, rfl⟩
  obtain ⟨rz, rz2, rz0⟩ : RC (aS a, recH a (aS a), a.2.2) z.1 ∧ z.2 = x.2 ∧ cSt z.1 0 = cSt x.1 0 := by rw [ez]; exact kp_RC hc hvu hnx g1 g6 gh
  have rs : RS (cSt z.1 0) (aS a) := rz.1
  have huz : sSc (cSt z.1 0) 0 = nI u := rs.2.2.1.trans e25
  refine pw_aload_n (tk tkX7_setAction 0 rfl) rfl ?_
  refine pw_iload_n (tk tkX7_setAction 1 rfl) rfl ?_
  refine pw_callV (ct_X7_checkRule x u hu hu8 _) okX7_checkRule (tk tkX7_setAction 2 rfl) mkX7_89 imX7_checkRule seX7_checkRule (hp_ot _ 0) rfl rfl rfl (by decide) (by decide) (Nat.le_of_ble_eq_true rfl) (fun r h2 q => ?_) (fun E h2 q => by obtain ⟨k1, rfl, rfl⟩ := ck_r q; exact pt_out rfl rfl (CQ.thr hc rfl List.mem_cons_self (if_pos (show inR r 0 (aS a 25 - 1) = false from by rw [e25]; exact k1))))
  obtain ⟨k1, rfl, rfl⟩ := ck_l q
  have k2 : inR r 0 (aS a 25 - 1) = true := by rw [e25]; exact k1
  obtain ⟨r1, hr, er, er2⟩ := inR_lt rfl (by omega) k1
  refine pw_iload_n (tk tkX7_setAction 3 rfl) rfl ?_
  refine pw_if_lt (tgt := 45) (tk tkX7_setAction 4 rfl) (by decide) (fun c6 => ?_) (fun c6 => ?_)
  · exact pw_throw twIAE rfl rfl rfl ckX7_59 (tx := "action, row, column or amount is out of range") (List.mem_of_getElem? (i := 3) rfl) (tk tkX7_setAction 20 rfl) (tk tkX7_setAction 21 rfl) (tk tkX7_setAction 22 rfl) (tk tkX7_setAction 23 rfl) (tk tkX7_setAction 24 rfl) (by decide) (by decide) (CQ.thr hc rfl (List.mem_cons_of_mem _ List.mem_cons_self) ((if_neg (ne_f k2)).trans (if_pos (inR_f1 c6))))
  · refine pw_iload_n (tk tkX7_setAction 5 rfl) rfl ?_
    refine pw_iconst (v := 3) (tk tkX7_setAction 6 rfl) (by decide) ?_
    refine pw_icmp_gt (tgt := 45) (tk tkX7_setAction 7 rfl) (by decide) (fun c11 => ?_) (fun c11 => ?_)
    · exact pw_throw twIAE rfl rfl rfl ckX7_59 (tx := "action, row, column or amount is out of range") (List.mem_of_getElem? (i := 3) rfl) (tk tkX7_setAction 20 rfl) (tk tkX7_setAction 21 rfl) (tk tkX7_setAction 22 rfl) (tk tkX7_setAction 23 rfl) (tk tkX7_setAction 24 rfl) (by decide) (by decide) (CQ.thr hc rfl (List.mem_cons_of_mem _ List.mem_cons_self) ((if_neg (ne_f k2)).trans (if_pos (inR_f2 c11))))
    · refine pw_iload_n (tk tkX7_setAction 8 rfl) rfl ?_
      refine pw_cS (ct_X7_isRow _ _) okX7_isRow (tk tkX7_setAction 9 rfl) mkX7_93 stX7_isRow rfl rfl (by decide) (by decide) (Nat.le_of_ble_eq_true rfl) ?_
      refine pw_ifb (tgt := 45) (tk tkX7_setAction 10 rfl) (by decide) (fun c18 => ?_) (fun c18 => ?_)
      · exact pw_throw twIAE rfl rfl rfl ckX7_59 (tx := "action, row, column or amount is out of range") (List.mem_of_getElem? (i := 3) rfl) (tk tkX7_setAction 20 rfl) (tk tkX7_setAction 21 rfl) (tk tkX7_setAction 22 rfl) (tk tkX7_setAction 23 rfl) (tk tkX7_setAction 24 rfl) (by decide) (by decide) (CQ.thr hc rfl (List.mem_cons_of_mem _ List.mem_cons_self) ((if_neg (ne_f k2)).trans ((if_neg (ne_f (inR_t4 c6 (Int32.not_lt.mp c11)))).trans (if_pos c18))))
      · refine pw_iload (tk tkX7_setAction 11 rfl) rfl ?_
        refine pw_cS (ct_X7_isColumn _ _) okX7_isColumn (tk tkX7_setAction 12 rfl) mkX7_52 stX7_isColumn rfl rfl (by decide) (by decide) (Nat.le_of_ble_eq_true rfl) ?_
        refine pw_ifb (tgt := 45) (tk tkX7_setAction 13 rfl) (by decide) (fun c26 => ?_) (fun c26 => ?_)
        · exact pw_throw twIAE rfl rfl rfl ckX7_59 (tx := "action, row, column or amount is out of range") (List.mem_of_getElem? (i := 3) rfl) (tk tkX7_setAction 20 rfl) (tk tkX7_setAction 21 rfl) (tk tkX7_setAction 22 rfl) (tk tkX7_setAction 23 rfl) (tk tkX7_setAction 24 rfl) (by decide) (by decide) (CQ.thr hc rfl (List.mem_cons_of_mem _ List.mem_cons_self) ((if_neg (ne_f k2)).trans ((if_neg (ne_f (inR_t4 c6 (Int32.not_lt.mp c11)))).trans ((if_neg (ne_f c18)).trans (if_pos c26)))))
        · refine pw_iload (tk tkX7_setAction 14 rfl) rfl ?_
          refine pw_sipush (v := (-999)) (tk tkX7_setAction 15 rfl) (by decide) ?_
          refine pw_icmp_lt (tgt := 45) (tk tkX7_setAction 16 rfl) (by decide) (fun c34 => ?_) (fun c34 => ?_)
          · exact pw_throw twIAE rfl rfl rfl ckX7_59 (tx := "action, row, column or amount is out of range") (List.mem_of_getElem? (i := 3) rfl) (tk tkX7_setAction 20 rfl) (tk tkX7_setAction 21 rfl) (tk tkX7_setAction 22 rfl) (tk tkX7_setAction 23 rfl) (tk tkX7_setAction 24 rfl) (by decide) (by decide) (CQ.thr hc rfl (List.mem_cons_of_mem _ List.mem_cons_self) ((if_neg (ne_f k2)).trans ((if_neg (ne_f (inR_t4 c6 (Int32.not_lt.mp c11)))).trans ((if_neg (ne_f c18)).trans ((if_neg (ne_f c26)).trans (if_pos (inR_f1 c34)))))))
          · refine pw_iload (tk tkX7_setAction 17 rfl) rfl ?_
            refine pw_sipush (v := 999) (tk tkX7_setAction 18 rfl) (by decide) ?_
            refine pw_icmp_le (tgt := 55) (tk tkX7_setAction 19 rfl) (by decide) (fun c42 => ?_) (fun c42 => ?_)
            · refine pw_aload_n (tk tkX7_setAction 25 rfl) rfl ?_
              refine g7_history (tk tkX7_setAction 26 rfl) fkX7_40 ?_
              refine pw_aload_n (tk tkX7_setAction 27 rfl) rfl ?_
              refine g7_now (tk tkX7_setAction 28 rfl) fkX7_10 ?_
              refine pw_cV0 (ct_X1_keep x u 0 nx (aK a) (by decide) hnx g6 g0 g1 (hc.1.wb hvu)) okX1_keep (tk tkX7_setAction 29 rfl) mkX7_75 imX1_keep seX1_keep (hp_ot _ 7) rfl rfl rfl (by decide) (by decide) (Nat.le_of_ble_eq_true rfl) ?_
              rw [← ez]
              refine pw_aload_n (tk tkX7_setAction 30 rfl) rfl ?_
              refine g7_now (tk tkX7_setAction 31 rfl) fkX7_10 ?_
              refine g4_rules (by first | assumption | decide | omega) (tk tkX7_setAction 32 rfl) fkX7_79 ?_
              refine pw_iload_n (tk tkX7_setAction 33 rfl) rfl ?_
              refine al_rules_e (e := r1) (by first | assumption | decide | omega) (tk tkX7_setAction 34 rfl) er (by first | decide | omega) ?_
              refine pw_ast6 (tk tkX7_setAction 35 rfl) rfl (by decide) ?_
              refine pw_aload (tk tkX7_setAction 36 rfl) rfl ?_
              refine g3_action (by first | assumption | decide | omega) (by first | assumption | decide | omega) (tk tkX7_setAction 37 rfl) fkX7_98 ?_
              rw [rs.2.2.2.2.2.1 r1 3 (by omega) (by omega)]
              refine pw_ist7 (tk tkX7_setAction 38 rfl) rfl (by decide) ?_
              refine pw_aload (tk tkX7_setAction 39 rfl) rfl ?_
              refine pw_iload_n (tk tkX7_setAction 40 rfl) rfl ?_
              refine p3_action (by first | assumption | decide | omega) (by first | assumption | decide | omega) (tk tkX7_setAction 41 rfl) fkX7_98 ?_
              rw [uRu_put0]
              refine pw_aload (tk tkX7_setAction 42 rfl) rfl ?_
              refine pw_iload_n (tk tkX7_setAction 43 rfl) rfl ?_
              refine p3_targetRow (by first | assumption | decide | omega) (by first | assumption | decide | omega) (tk tkX7_setAction 44 rfl) fkX7_101 ?_
              rw [uRu_put]
              refine pw_aload (tk tkX7_setAction 45 rfl) rfl ?_
              refine pw_iload (tk tkX7_setAction 46 rfl) rfl ?_
              refine p3_targetColumn (by first | assumption | decide | omega) (by first | assumption | decide | omega) (tk tkX7_setAction 47 rfl) fkX7_104 ?_
              rw [uRu_put]
              refine pw_aload (tk tkX7_setAction 48 rfl) rfl ?_
              refine pw_iload (tk tkX7_setAction 49 rfl) rfl ?_
              refine p3_amount (by first | assumption | decide | omega) (by first | assumption | decide | omega) (tk tkX7_setAction 50 rfl) fkX7_107 ?_
              rw [uRu_put]
              refine pw_iload (tk tkX7_setAction 51 rfl) rfl ?_
              refine pw_ireturn (tk tkX7_setAction 52 rfl) rfl (by decide) rfl ?_
              have q9 := rs.row (i := r1) (by omega) (upd (upd (upd (upd (sRu (cSt z.1 0) r1) 3 k) 4 ro) 5 c) 6 m) (upd (upd (upd (upd (aS a) (26 + 9 * r1 + 3) k) (26 + 9 * r1 + 4) ro) (26 + 9 * r1 + 5) c) (26 + 9 * r1 + 6) m) (fun j hj => by rw [upd_nt _ _ (by omega), upd_nt _ _ (by omega), upd_nt _ _ (by omega), upd_nt _ _ (by omega)]) (upd_row (upd_row (upd_row (upd_row (fun k2 hk2 => rs.2.2.2.2.2.1 r1 k2 (by omega) hk2) 3 k) 4 ro) 5 c) 6 m)
              exact CQ.ret (rz.now (q9.rs (by rw [upd_nt _ _ (by omega), upd_nt _ _ (by omega), upd_nt _ _ (by omega), upd_nt _ _ (by omega)]))) rz2 ((if_neg (ne_f k2)).trans ((if_neg (ne_f (inR_t4 c6 (Int32.not_lt.mp c11)))).trans ((if_neg (ne_f c18)).trans ((if_neg (ne_f c26)).trans ((if_neg (ne_f (show inR m (-999) 999 = true from by unfold inR; rw [decide_eq_true c34, decide_eq_true (Int32.not_lt.mpr c42)]; rfl))).trans (by rw [er2]))))))
            · exact pw_throw twIAE rfl rfl rfl ckX7_59 (tx := "action, row, column or amount is out of range") (List.mem_of_getElem? (i := 3) rfl) (tk tkX7_setAction 20 rfl) (tk tkX7_setAction 21 rfl) (tk tkX7_setAction 22 rfl) (tk tkX7_setAction 23 rfl) (tk tkX7_setAction 24 rfl) (by decide) (by decide) (CQ.thr hc rfl (List.mem_cons_of_mem _ List.mem_cons_self) ((if_neg (ne_f k2)).trans ((if_neg (ne_f (inR_t4 c6 (Int32.not_lt.mp c11)))).trans ((if_neg (ne_f c18)).trans ((if_neg (ne_f c26)).trans (if_pos (inR_f2 (Int32.not_le.mp c42))))))))
theorem RS1.new {σ : SS} {s : Nat → Int32} {w0 : Int32} {u : Nat} (h : RS1 σ s w0) (hv : VS u s) (h8 : u < 8) (e c l : Int32) : RS1 (uS7 (uS3 σ (upR (sRu σ) u (stRu (sRu σ u) e c l))) (upd (sSc σ) 0 (nI (u + 1)))) (newR s u e c l) w0 := by
  have nt : ∀ j, j ≠ 25 → (j < 26 + 9 * u ∨ 26 + 9 * u + 9 ≤ j) → newR s u e c l j = s j := fun j h1 h2 => newR_nt s u e c l h1 h2
  have e25 : newR s u e c l 25 = nI (u + 1) := upd_at _ _ _
  have eu : uN (newR s u e c l) = u + 1 := by unfold uN; rw [e25, nI_clamp (by omega)]
  refine h.mid rfl rfl rfl rfl rfl rfl (fun j hj => nt j (by omega) (by omega)) (by rw [e25]; rfl) (by rw [nt 24 (by omega) (by omega)]; exact h.2.2.2.1) (fun i k hi hk => ?_)
  rw [eu] at hi
  show upR (sRu σ) u (stRu (sRu σ u) e c l) i k = newR s u e c l (26 + 9 * i + k)
  unfold upR
  by_cases q : i = u
  · subst q
    rw [if_pos rfl]
    have z : ∀ k, 3 ≤ k → k < 9 → newR s i e c l (26 + 9 * i + k) = 0 := fun k h3 h9 => newR_z s i e c l h3 h9
    match k, hk with
    | 0, _ => exact (show newR s i e c l (26 + 9 * i) = e from by unfold newR; rw [upd_nt _ _ (by omega), upd_nt _ _ (by omega), upd_nt _ _ (by omega), upd_at]).symm
    | 1, _ => exact (show newR s i e c l (26 + 9 * i + 1) = c from by unfold newR; rw [upd_nt _ _ (by omega), upd_nt _ _ (by omega), upd_at]).symm
    | 2, _ => exact (show newR s i e c l (26 + 9 * i + 2) = l from by unfold newR; rw [upd_nt _ _ (by omega), upd_at]).symm
    | 3, _ => exact (z 3 (by omega) (by omega)).symm
    | 4, _ => exact (z 4 (by omega) (by omega)).symm
    | 5, _ => exact (z 5 (by omega) (by omega)).symm
    | 6, _ => exact (z 6 (by omega) (by omega)).symm
    | 7, _ => exact (z 7 (by omega) (by omega)).symm
    | 8, _ => exact (z 8 (by omega) (by omega)).symm
    | k + 9, h => exact absurd h (by omega)
  · rw [if_neg q, nt _ (by omega) (by omega)]
    exact h.2.2.2.2.2.1 i k (by rw [hv.un]; omega) hk
set_option maxRecDepth 100000 in
set_option maxHeartbeats 4000000 in
theorem ct_X7_addRule (x : XW) (a : AM) (hc : RC a x.1) (hv : VS (uN (aS a)) (aS a)) (e c l : Int32) : CT MX7_addRule 30 6 [.ref 160, .int e, .int c, .int l] (hp x) (CQ [(1, "java/lang/IllegalArgumentException"), (2, "java/lang/IllegalStateException")] x (saddRule a e c l)) := by
  refine ct_of (by decide +kernel) (by decide) rfl (k := 1) (ls := [some (.ref 160), some (.int e), some (.int c), some (.int l), none]) rfl (Nat.le_of_ble_eq_true rfl) ?_
  obtain ⟨u, eu⟩ : ∃ u, u = uN (aS a) := ⟨_, rfl⟩
  have hvu := hv
  rw [← eu] at hvu
  have hu8 := hvu.1
  have hu : sSc (cSt x.1 0) 0 = nI u := hc.1.2.2.1.trans hvu.2.1
  have e25 : aS a 25 = nI u := hvu.2.1
  obtain ⟨nx, hnx, g0, g1, g6, gh⟩ := hc.2.1
  obtain ⟨z, ez⟩ : ∃ z, z = kpX x u 0 nx (aK a) := ⟨_, rfl⟩
  obtain ⟨rz, rz2, rz0⟩ : RC (aS a, recH a (aS a), a.2.2) z.1 ∧ z.2 = x.2 ∧ cSt z.1 0 = cSt x.1 0 := by rw [ez]; exact kp_RC hc hvu hnx g1 g6 gh
  have rs : RS (cSt z.1 0) (aS a) := rz.1
  have huz : sSc (cSt z.1 0) 0 = nI u := rs.2.2.1.trans e25
  refine pw_iload_n (tk tkX7_addRule 0 rfl) rfl ?_
  refine pw_if_lt (tgt := 23) (tk tkX7_addRule 1 rfl) (by decide) (fun c1 => ?_) (fun c1 => ?_)
  · exact pw_throw twIAE rfl rfl rfl ckX7_59 (tx := "event, column or least is out of range") (List.mem_of_getElem? (i := 0) rfl) (tk tkX7_addRule 11 rfl) (tk tkX7_addRule 12 rfl) (tk tkX7_addRule 13 rfl) (tk tkX7_addRule 14 rfl) (tk tkX7_addRule 15 rfl) (by decide) (by decide) (CQ.thr hc rfl List.mem_cons_self (if_pos (inR_f1 c1)))
  · refine pw_iload_n (tk tkX7_addRule 2 rfl) rfl ?_
    refine pw_iconst (v := 2) (tk tkX7_addRule 3 rfl) (by decide) ?_
    refine pw_icmp_gt (tgt := 23) (tk tkX7_addRule 4 rfl) (by decide) (fun c6 => ?_) (fun c6 => ?_)
    · exact pw_throw twIAE rfl rfl rfl ckX7_59 (tx := "event, column or least is out of range") (List.mem_of_getElem? (i := 0) rfl) (tk tkX7_addRule 11 rfl) (tk tkX7_addRule 12 rfl) (tk tkX7_addRule 13 rfl) (tk tkX7_addRule 14 rfl) (tk tkX7_addRule 15 rfl) (by decide) (by decide) (CQ.thr hc rfl List.mem_cons_self (if_pos (inR_f2 c6)))
    · refine pw_iload_n (tk tkX7_addRule 5 rfl) rfl ?_
      refine pw_cS (ct_X7_isColumn _ _) okX7_isColumn (tk tkX7_addRule 6 rfl) mkX7_52 stX7_isColumn rfl rfl (by decide) (by decide) (Nat.le_of_ble_eq_true rfl) ?_
      refine pw_ifb (tgt := 23) (tk tkX7_addRule 7 rfl) (by decide) (fun c13 => ?_) (fun c13 => ?_)
      · exact pw_throw twIAE rfl rfl rfl ckX7_59 (tx := "event, column or least is out of range") (List.mem_of_getElem? (i := 0) rfl) (tk tkX7_addRule 11 rfl) (tk tkX7_addRule 12 rfl) (tk tkX7_addRule 13 rfl) (tk tkX7_addRule 14 rfl) (tk tkX7_addRule 15 rfl) (by decide) (by decide) (CQ.thr hc rfl List.mem_cons_self ((if_neg (ne_f (inR_t4 c1 (Int32.not_lt.mp c6)))).trans (if_pos c13)))
      · refine pw_iload_n (tk tkX7_addRule 8 rfl) rfl ?_
        refine pw_cS (ct_X7_isValue _ _) okX7_isValue (tk tkX7_addRule 9 rfl) mkX7_56 stX7_isValue rfl rfl (by decide) (by decide) (Nat.le_of_ble_eq_true rfl) ?_
        refine pw_ifnb (tgt := 33) (tk tkX7_addRule 10 rfl) (by decide) (fun c20 => ?_) (fun c20 => ?_)
        · refine pw_aload_n (tk tkX7_addRule 16 rfl) rfl ?_
          refine g7_now (tk tkX7_addRule 17 rfl) fkX7_10 ?_
          refine g4_rulesUsed (by first | assumption | decide | omega) (tk tkX7_addRule 18 rfl) fkX7_66 ?_
          refine pw_bipush (v := 8) (tk tkX7_addRule 19 rfl) (by decide) ?_
          rw [hu]
          refine pw_icmp_lt (tgt := 55) (tk tkX7_addRule 20 rfl) (by decide) (fun c42 => ?_) (fun c42 => ?_)
          · have h8 : u < 8 := by
              rcases Nat.lt_or_ge u 8 with q | q
              · exact q
              · exact absurd c42 (nI_nlt q (by omega))
            refine pw_aload_n (tk tkX7_addRule 26 rfl) rfl ?_
            refine g7_history (tk tkX7_addRule 27 rfl) fkX7_40 ?_
            refine pw_aload_n (tk tkX7_addRule 28 rfl) rfl ?_
            refine g7_now (tk tkX7_addRule 29 rfl) fkX7_10 ?_
            refine pw_cV0 (ct_X1_keep x u 0 nx (aK a) (by decide) hnx g6 g0 g1 (hc.1.wb hvu)) okX1_keep (tk tkX7_addRule 30 rfl) mkX7_75 imX1_keep seX1_keep (hp_ot _ 7) rfl rfl rfl (by decide) (by decide) (Nat.le_of_ble_eq_true rfl) ?_
            rw [← ez]
            refine pw_aload_n (tk tkX7_addRule 31 rfl) rfl ?_
            refine g7_now (tk tkX7_addRule 32 rfl) fkX7_10 ?_
            refine g4_rulesUsed (by first | assumption | decide | omega) (tk tkX7_addRule 33 rfl) fkX7_66 ?_
            rw [huz]
            refine pw_ist4 (tk tkX7_addRule 34 rfl) rfl (by decide) ?_
            refine pw_aload_n (tk tkX7_addRule 35 rfl) rfl ?_
            refine g7_now (tk tkX7_addRule 36 rfl) fkX7_10 ?_
            refine g4_rules (by first | assumption | decide | omega) (tk tkX7_addRule 37 rfl) fkX7_79 ?_
            refine pw_iload (tk tkX7_addRule 38 rfl) rfl ?_
            refine al_rules_e (e := u) (by first | assumption | decide | omega) (tk tkX7_addRule 39 rfl) rfl (by first | decide | omega) ?_
            refine pw_iload_n (tk tkX7_addRule 40 rfl) rfl ?_
            refine pw_iload_n (tk tkX7_addRule 41 rfl) rfl ?_
            refine pw_iload_n (tk tkX7_addRule 42 rfl) rfl ?_
            refine pw_cV0 (ct_X3_start z 0 u (by decide) h8 e c l) okX3_start (tk tkX7_addRule 43 rfl) mkX7_83 imX3_start seX3_start ((hp_st _ (by decide : 0 < 10) (by omega)).trans (stc_ru _ _ _ (by omega))) rfl rfl rfl (by decide) (by decide) (Nat.le_of_ble_eq_true rfl) ?_
            refine pw_aload_n (tk tkX7_addRule 44 rfl) rfl ?_
            refine g7_now (tk tkX7_addRule 45 rfl) fkX7_10 ?_
            refine pw_dup (tk tkX7_addRule 46 rfl) rfl ?_
            refine g4_rulesUsed (by first | assumption | decide | omega) (tk tkX7_addRule 47 rfl) fkX7_66 ?_
            refine pw_iconst (v := 1) (tk tkX7_addRule 48 rfl) (by decide) ?_
            refine pw_iadd (tk tkX7_addRule 49 rfl) ?_
            rw [show sSc (cSt (uRu z 0 u (stRu (sRu (cSt z.1 0) u) e c l)).1 0) 0 = nI u from by unfold uRu; rw [cSt_u]; exact huz, nI_1]
            refine p4_rulesUsed (by first | assumption | decide | omega) (tk tkX7_addRule 50 rfl) fkX7_66 ?_
            unfold uRu
            rw [cSt_u, uC1_uC1]
            refine pw_iload (tk tkX7_addRule 51 rfl) rfl ?_
            refine pw_ireturn (tk tkX7_addRule 52 rfl) rfl (by decide) rfl ?_
            refine CQ.ret (rz.now ((rs.new hvu h8 e c l).rs (newR_nt _ _ _ _ _ (by omega) (by omega)))) rz2 ((if_neg (ne_f (inR_t4 c1 (Int32.not_lt.mp c6)))).trans ((if_neg (ne_f c13)).trans ((if_neg (ne_f c20)).trans ((if_neg (fun q => by rw [e25] at q; exact absurd ((nI_eq (by omega) (by decide)).mp q) (show ¬ u = 8 by omega))).trans (by rw [← eu])))))
          · exact pw_throw twISE rfl rfl rfl ckX7_70 (tx := "there are 8 rules") (List.mem_of_getElem? (i := 1) rfl) (tk tkX7_addRule 21 rfl) (tk tkX7_addRule 22 rfl) (tk tkX7_addRule 23 rfl) (tk tkX7_addRule 24 rfl) (tk tkX7_addRule 25 rfl) (by decide) (by decide) (CQ.thr hc rfl (List.mem_cons_of_mem _ List.mem_cons_self) ((if_neg (ne_f (inR_t4 c1 (Int32.not_lt.mp c6)))).trans ((if_neg (ne_f c13)).trans ((if_neg (ne_f c20)).trans (if_pos (by rw [e25, show u = 8 from by (have h8 : ¬ u < 8 := fun q => c42 (nI_lt q (by decide))); omega]; rfl))))))
        · exact pw_throw twIAE rfl rfl rfl ckX7_59 (tx := "event, column or least is out of range") (List.mem_of_getElem? (i := 0) rfl) (tk tkX7_addRule 11 rfl) (tk tkX7_addRule 12 rfl) (tk tkX7_addRule 13 rfl) (tk tkX7_addRule 14 rfl) (tk tkX7_addRule 15 rfl) (by decide) (by decide) (CQ.thr hc rfl List.mem_cons_self ((if_neg (ne_f (inR_t4 c1 (Int32.not_lt.mp c6)))).trans ((if_neg (ne_f c13)).trans (if_pos c20))))
end
section
theorem fg_app (rl : Nat) : ∀ a b : LL, fg rl (a ++ b) = fg rl a ++ fg rl b
  | [], _ => rfl
  | p :: t, b => by
    show (if _ then _ else _ : LL) = (if _ then _ else _ : LL) ++ _
    by_cases h : p.1 = nI rl
    · rw [if_pos h, if_pos h]; exact fg_app rl t b
    · rw [if_neg h, if_neg h]; show _ :: fg rl (t ++ b) = _ :: (fg rl t ++ fg rl b); rw [fg_app rl t b]
theorem take_q {l : LL} {k : Nat} {p : Int32 × Int32} (h : l[k]? = some p) : l.take (k + 1) = l.take k ++ [p] := by
  obtain ⟨h1, h2⟩ := List.getElem?_eq_some_iff.mp h
  rw [← h2]; exact List.take_succ_eq_append_getElem h1
theorem drL_l {t : Nat → Int32} {rl : Nat} {l : LL} (hl : l.length ≤ 16) (hm : ∀ k p, l[k]? = some p → t (100 + k) = p.1 ∧ t (116 + k) = p.2) : ∀ k, k ≤ l.length → (drL t rl k).2 = (fg rl (l.take k)).length ∧ (∀ j p, (fg rl (l.take k))[j]? = some p → (drL t rl k).1 (100 + j) = p.1 ∧ (drL t rl k).1 (116 + j) = p.2) ∧ ∀ j, k ≤ j → j < 16 → (drL t rl k).1 (100 + j) = t (100 + j) ∧ (drL t rl k).1 (116 + j) = t (116 + j)
  | 0, _ => ⟨rfl, (fun j p h => by rw [List.take_zero] at h; cases h), fun j _ _ => ⟨rfl, rfl⟩⟩
  | k + 1, hk => by
    obtain ⟨i1, i2, i3⟩ := drL_l hl hm k (by omega)
    obtain ⟨p, hp0⟩ : ∃ p, l[k]? = some p := ⟨_, List.getElem?_eq_getElem (by omega)⟩
    obtain ⟨p1, p2⟩ := hm k p hp0
    obtain ⟨q1, q2⟩ := i3 k (Nat.le_refl _) (by omega)
    have cle := drL_le t rl k
    obtain ⟨D, eD⟩ : ∃ D, D = (drL t rl k).1 := ⟨_, rfl⟩
    obtain ⟨c, ec⟩ : ∃ c, c = (drL t rl k).2 := ⟨_, rfl⟩
    rw [← eD] at i2 i3 q1 q2
    rw [← ec] at i1 cle
    have e1 : (drL t rl (k + 1)).1 = upd (upd D (100 + c) (rnm rl p.1)) (116 + c) p.2 := by
      show upd (upd (drL t rl k).1 (100 + (drL t rl k).2) (drV (drL t rl k).1 rl k)) (116 + (drL t rl k).2) (upd (drL t rl k).1 (100 + (drL t rl k).2) (drV (drL t rl k).1 rl k) (116 + k)) = _
      rw [← eD, ← ec, upd_nt _ _ (show 116 + k ≠ 100 + c by omega), q2, p2]
      have : drV D rl k = rnm rl p.1 := by unfold drV rnm; rw [q1, p1]
      rw [this]
    have e2 : (drL t rl (k + 1)).2 = c + (if p.1 = nI rl then 0 else 1) := by
      show (drL t rl k).2 + (if (drL t rl k).1 (100 + k) = nI rl then 0 else 1) = _
      rw [← eD, ← ec, q1, p1]
    rw [e1, e2, take_q hp0, fg_app]
    refine ⟨?_, ?_, fun j h1 h2 => ?_⟩
    · rw [List.length_append, ← i1]
      show _ = _ + (if p.1 = nI rl then _ else _ : LL).length
      by_cases h : p.1 = nI rl
      · rw [if_pos h, if_pos h]; rfl
      · rw [if_neg h, if_neg h]; rfl
    · intro j q hq
      have lt : ∀ j q, (fg rl (l.take k))[j]? = some q → (upd (upd D (100 + c) (rnm rl p.1)) (116 + c) p.2) (100 + j) = q.1 ∧ (upd (upd D (100 + c) (rnm rl p.1)) (116 + c) p.2) (116 + j) = q.2 := fun j q hq => by
        have := qlt hq
        rw [upd_nt _ _ (by omega), upd_nt _ _ (by omega), upd_nt _ _ (by omega), upd_nt _ _ (by omega)]
        exact i2 j q hq
      have e3 : fg rl [p] = if p.1 = nI rl then [] else [(rnm rl p.1, p.2)] := rfl
      rw [e3] at hq
      by_cases h : p.1 = nI rl
      · rw [if_pos h, List.append_nil] at hq; exact lt j q hq
      · rw [if_neg h] at hq
        rcases Nat.lt_or_ge j (fg rl (l.take k)).length with w | w
        · rw [List.getElem?_append_left w] at hq; exact lt j q hq
        · rw [List.getElem?_append_right w] at hq
          have hj : j = c := by
            have := (List.getElem?_eq_some_iff.mp hq).1
            rw [List.length_singleton] at this; omega
          subst hj
          rw [i1, Nat.sub_self] at hq
          cases hq
          rw [upd_nt _ _ (by omega), upd_at, upd_at]
          exact ⟨rfl, rfl⟩
    · rw [upd_nt _ _ (by omega), upd_nt _ _ (by omega), upd_nt _ _ (by omega), upd_nt _ _ (by omega)]
      exact i3 j (by omega) h2
theorem RS1.drop {σ τ : SS} {s : Nat → Int32} {w : Int32} {u rl : Nat} {l : LL} (h : RS1 σ s w) (hv : VS u s) (hr : rl < u) (hm : LM s l) (h1 : sTh τ = sTh σ) (h2 : sVa τ = sVa σ) (h3 : sRu τ = srR rl (u - 1 - rl) (sRu σ)) (h4 : sSc τ = upd (sSc σ) 0 (nI (u - 1))) (h5 : LR τ (fg rl l)) : RS1 τ (drS s u rl l.length) w := by
  have hu8 := hv.1
  obtain ⟨a, b, c, d, f, g, _⟩ := h
  obtain ⟨m1, m2, m3⟩ := hm
  have nt : ∀ j, j < 99 → drS s u rl l.length j = drB s u rl j := fun j hj => by unfold drS; rw [upd_nt _ _ (by omega), drL_nt _ _ (by omega)]
  have hi : ∀ j, j < 25 ∨ j = 98 → drS s u rl l.length j = s j := fun j hj => by rw [nt j (by omega), drB_hi s hr hu8 (by omega) (by omega)]
  have e25 : drS s u rl l.length 25 = nI (u - 1) := by rw [nt 25 (by omega)]; unfold drB shR; rw [if_neg (by omega), upd_at]
  have eu : uN (drS s u rl l.length) = u - 1 := by unfold uN; rw [e25, nI_clamp (by omega)]
  refine ⟨fun j hj => by rw [h1, hi j (by omega)]; exact a j hj, fun j hj => by rw [h2, hi _ (by omega)]; exact b j hj, by rw [h4, e25, upd_at], by rw [h4, hi 24 (by omega), upd_nt _ _ (by decide)]; exact d, by rw [h4, upd_nt _ _ (by decide)]; exact f, fun i k hi2 hk => ?_, _, h5, Nat.le_trans (fg_len _ _) m1, ?_, ?_⟩
  · rw [eu] at hi2
    rw [show rN (drS s u rl l.length) i k = rN (drB s u rl) i k from nt _ (by omega), drB_ru s hr hi2 hk, h3]
    unfold srR
    by_cases q : i < rl
    · rw [if_neg (by omega), if_pos q]; exact g i k (by rw [hv.un]; omega) hk
    · rw [if_pos (by omega), if_neg q, cp9_at _ _ _ hk]; exact g (i + 1) k (by rw [hv.un]; omega) hk
  · obtain ⟨q1, _, _⟩ := drL_l (rl := rl) (t := drB s u rl) m1 (fun k p hk => by have := qlt hk; rw [drB_hi s hr hu8 (by omega) (by omega), drB_hi s hr hu8 (by omega) (by omega)]; exact m3 k p hk) l.length (Nat.le_refl _)
    rw [List.take_length] at q1
    unfold drS; rw [upd_at, q1]
  · intro k p hk
    obtain ⟨_, q2, _⟩ := drL_l (rl := rl) (t := drB s u rl) m1 (fun k p hk => by have := qlt hk; rw [drB_hi s hr hu8 (by omega) (by omega), drB_hi s hr hu8 (by omega) (by omega)]; exact m3 k p hk) l.length (Nat.le_refl _)
    rw [List.take_length] at q2
    have := qlt hk
    have := fg_len rl l
    unfold drS; rw [upd_nt _ _ (by omega), upd_nt _ _ (by omega)]
    exact q2 k p hk
set_option maxRecDepth 100000 in
set_option maxHeartbeats 4000000 in
theorem ct_X7_dropRule (x : XW) (a : AM) (hc : RC a x.1) (hv : VS (uN (aS a)) (aS a)) (r : Int32) : CT MX7_dropRule 30 6 [.ref 160, .int r] (hp x) (CQ [(1, "java/lang/IndexOutOfBoundsException")] x (sdropRule a r)) := by
  refine ct_of (by decide +kernel) (by decide) rfl (k := 1) (ls := [some (.ref 160), some (.int r), none]) rfl (Nat.le_of_ble_eq_true rfl) ?_
  obtain ⟨u, eu⟩ : ∃ u, u = uN (aS a) := ⟨_, rfl⟩
  have hvu := hv
  rw [← eu] at hvu
  have hu8 := hvu.1
  have hu : sSc (cSt x.1 0) 0 = nI u := hc.1.2.2.1.trans hvu.2.1
  have e25 : aS a 25 = nI u := hvu.2.1
  obtain ⟨nx, hnx, g0, g1, g6, gh⟩ := hc.2.1
  obtain ⟨z, ez⟩ : ∃ z, z = kpX x u 0 nx (aK a) := ⟨_, rfl⟩
  obtain ⟨rz, rz2, rz0⟩ : RC (aS a, recH a (aS a), a.2.2) z.1 ∧ z.2 = x.2 ∧ cSt z.1 0 = cSt x.1 0 := by rw [ez]; exact kp_RC hc hvu hnx g1 g6 gh
  have rs : RS (cSt z.1 0) (aS a) := rz.1
  have huz : sSc (cSt z.1 0) 0 = nI u := rs.2.2.1.trans e25
  obtain ⟨l, l1, l2⟩ := rs.2.2.2.2.2.2
  refine pw_aload_n (tk tkX7_dropRule 0 rfl) rfl ?_
  refine pw_iload_n (tk tkX7_dropRule 1 rfl) rfl ?_
  refine pw_callV (ct_X7_checkRule x u hu hu8 _) okX7_checkRule (tk tkX7_dropRule 2 rfl) mkX7_89 imX7_checkRule seX7_checkRule (hp_ot _ 0) rfl rfl rfl (by decide) (by decide) (Nat.le_of_ble_eq_true rfl) (fun r h2 q => ?_) (fun E h2 q => by obtain ⟨k1, rfl, rfl⟩ := ck_r q; exact pt_out rfl rfl (CQ.thr hc rfl List.mem_cons_self (if_pos (show inR r 0 (aS a 25 - 1) = false from by rw [e25]; exact k1))))
  obtain ⟨k1, rfl, rfl⟩ := ck_l q
  refine pw_aload_n (tk tkX7_dropRule 3 rfl) rfl ?_
  refine g7_history (tk tkX7_dropRule 4 rfl) fkX7_40 ?_
  refine pw_aload_n (tk tkX7_dropRule 5 rfl) rfl ?_
  refine g7_now (tk tkX7_dropRule 6 rfl) fkX7_10 ?_
  refine pw_cV0 (ct_X1_keep x u 0 nx (aK a) (by decide) hnx g6 g0 g1 (hc.1.wb hvu)) okX1_keep (tk tkX7_dropRule 7 rfl) mkX7_75 imX1_keep seX1_keep (hp_ot _ 7) rfl rfl rfl (by decide) (by decide) (Nat.le_of_ble_eq_true rfl) ?_
  rw [← ez]
  have k2 : inR r 0 (aS a 25 - 1) = true := by rw [e25]; exact k1
  obtain ⟨r1, hr, er, er2⟩ := inR_lt rfl (by omega) k1
  refine pw_aload_n (tk tkX7_dropRule 8 rfl) rfl ?_
  refine g7_now (tk tkX7_dropRule 9 rfl) fkX7_10 ?_
  refine g4_rules (by first | assumption | decide | omega) (tk tkX7_dropRule 10 rfl) fkX7_79 ?_
  refine pw_iload_n (tk tkX7_dropRule 11 rfl) rfl ?_
  refine al_rules_e (e := r1) (by first | assumption | decide | omega) (tk tkX7_dropRule 12 rfl) er (by first | decide | omega) ?_
  refine g3_acts (by first | assumption | decide | omega) (by first | assumption | decide | omega) (tk tkX7_dropRule 13 rfl) fkX7_114 ?_
  rw [rs.2.2.2.2.2.1 r1 8 (by omega) (by omega)]
  refine pw_ist2 (tk tkX7_dropRule 14 rfl) rfl (by decide) ?_
  refine pw_aload_n (tk tkX7_dropRule 15 rfl) rfl ?_
  refine g7_now (tk tkX7_dropRule 16 rfl) fkX7_10 ?_
  refine pw_iload_n (tk tkX7_dropRule 17 rfl) rfl ?_
  refine pw_callV (show CT MX4_takeRuleAway 3 0 [.ref (16 * 0), .int r] (hp z) (trQ z 0 r1 u l) from by rw [er]; exact ct_X4_takeRuleAway z 0 r1 u l (by decide) hr (rs.wb hvu) l1) okX4_takeRuleAway (tk tkX7_dropRule 18 rfl) mkX7_117 imX4_takeRuleAway seX4_takeRuleAway (hp_st _ (by first | assumption | decide | omega) (by decide : 0 < 16)) rfl rfl rfl (by decide) (by decide) (Nat.le_of_ble_eq_true rfl) (fun r h2 q => ?_) (fun E h2 q => by cases q.1)
  obtain ⟨ho, τ, rfl, t1, t2, t3, t4, t5⟩ := q
  cases ho
  refine pw_iload_n (tk tkX7_dropRule 19 rfl) rfl ?_
  refine pw_ireturn (tk tkX7_dropRule 20 rfl) rfl (by decide) rfl ?_
  have e : sdropRule a r = (0, rN (aS a) r1 8, (drS (aS a) u r1 l.length, recH a (aS a), a.2.2)) := (if_neg (ne_f k2)).trans (by rw [er2, ← eu, l2.2.1, nI_clamp (show l.length < 2 ^ 31 from by have := l2.1; omega)])
  exact CQ.ret (rz.now ((rs.drop hvu hr l2 t1 t2 t3 t4 t5).rs (by unfold drS; rw [upd_nt _ _ (by omega), drL_nt _ _ (by omega), drB_hi _ hr hu8 (by omega) (by omega)]))) rz2 e
set_option maxRecDepth 100000 in
set_option maxHeartbeats 4000000 in
theorem ct_X7_undo (x : XW) (a : AM) (hc : RC a x.1) (hv : VS (uN (aS a)) (aS a)) (hA : VA a)  : CT MX7_undo 30 6 [.ref 160] (hp x) (CQ [(1, "java/lang/IllegalStateException")] x (sundo a )) := by
  refine ct_of (by decide +kernel) (by decide) rfl (k := 0) (ls := [some (.ref 160)]) rfl (Nat.le_of_ble_eq_true rfl) ?_
  obtain ⟨u, eu⟩ : ∃ u, u = uN (aS a) := ⟨_, rfl⟩
  have hvu := hv
  rw [← eu] at hvu
  have hu8 := hvu.1
  have hu : sSc (cSt x.1 0) 0 = nI u := hc.1.2.2.1.trans hvu.2.1
  have e25 : aS a 25 = nI u := hvu.2.1
  obtain ⟨nx, hnx, g0, g1, g6, gh⟩ := hc.2.1
  refine pw_aload_n (tk tkX7_undo 0 rfl) rfl ?_
  refine g7_history (tk tkX7_undo 1 rfl) fkX7_40 ?_
  refine g1_size (tk tkX7_undo 2 rfl) fkX7_269 ?_
  rw [g0]
  refine pw_if_ne (tgt := 21) (tk tkX7_undo 3 rfl) (by decide) (fun c7 => ?_) (fun c7 => ?_)
  · have hk0 : 0 < aK a := by
      rcases Nat.eq_zero_or_pos (aK a) with q | q
      · exact absurd (by rw [q]; rfl) c7
      · exact q
    have hl : RS (cSt x.1 (2 + (nx + 5) % 6)) (aH a (aK a - 1)) := by
      have q := gh (aK a - 1) (by omega)
      rw [show (nx + 6 - aK a + (aK a - 1)) % 6 = (nx + 5) % 6 by omega] at q
      exact q
    have hvl := hA.1 (aK a - 1) (by omega)
    refine pw_aload_n (tk tkX7_undo 9 rfl) rfl ?_
    refine g7_history (tk tkX7_undo 10 rfl) fkX7_40 ?_
    refine pw_aload_n (tk tkX7_undo 11 rfl) rfl ?_
    refine g7_now (tk tkX7_undo 12 rfl) fkX7_10 ?_
    refine pw_cV0 (ct_X1_takeBack x (uN (aH a (aK a - 1))) 0 nx (aK a) (by decide) hnx g6 hk0 g0 g1 (hl.wb hvl)) okX1_takeBack (tk tkX7_undo 13 rfl) mkX7_272 imX1_takeBack seX1_takeBack (hp_ot _ 7) rfl rfl rfl (by decide) (by decide) (Nat.le_of_ble_eq_true rfl) ?_
    refine pw_aload_n (tk tkX7_undo 14 rfl) rfl ?_
    refine g7_history (tk tkX7_undo 15 rfl) fkX7_40 ?_
    refine g1_size (tk tkX7_undo 16 rfl) fkX7_269 ?_
    refine pw_ireturn (tk tkX7_undo 17 rfl) rfl (by decide) rfl ?_
    have e : sundo a = (0, nI (aK a - 1), (aH a (aK a - 1), (aK a - 1, aH a), a.2.2)) := if_neg (by omega)
    obtain ⟨c1, _, c3, c4⟩ := hc
    refine CQ.ret (a := (aH a (aK a - 1), (aK a - 1, aH a), a.2.2)) (v := nI (aK a - 1)) ⟨?_, ⟨(nx + 5) % 6, Nat.mod_lt _ (by decide), rfl, rfl, (show aK a - 1 ≤ 6 by omega), ?_⟩, ?_, c4⟩ rfl e
    · show RS (cpS _ (cSt x.1 0) (cSt x.1 (2 + (nx + 5) % 6))) (aH a (aK a - 1))
      exact hl.cp _ rfl
    · show ∀ i, i < aK a - 1 → RS (cSt (tbX x (uN (aH a (aK a - 1))) 0 nx (aK a)).1 (2 + ((nx + 5) % 6 + 6 - (aK a - 1) + i) % 6)) (aH a i)
      intro i hi
      rw [show cSt (tbX x (uN (aH a (aK a - 1))) 0 nx (aK a)).1 (2 + ((nx + 5) % 6 + 6 - (aK a - 1) + i) % 6) = cSt x.1 (2 + ((nx + 5) % 6 + 6 - (aK a - 1) + i) % 6) from cSt_n x _ (by omega), show ((nx + 5) % 6 + 6 - (aK a - 1) + i) % 6 = (nx + 6 - aK a + i) % 6 by omega]
      exact gh i (by omega)
    · intro i hi
      refine ⟨(c3 i hi).1, fun hb => ?_⟩
      show RS (cSt (tbX x (uN (aH a (aK a - 1))) 0 nx (aK a)).1 (8 + i)) (aL a i)
      rw [show cSt (tbX x (uN (aH a (aK a - 1))) 0 nx (aK a)).1 (8 + i) = cSt x.1 (8 + i) from cSt_n x _ (by omega)]
      exact (c3 i hi).2 hb
  · exact pw_throwW twISE rfl rfl rfl ckX7_70 (tx := "no state is recorded") (List.mem_of_getElem? (i := 11) rfl) (tk tkX7_undo 4 rfl) (tk tkX7_undo 5 rfl) (tk tkX7_undo 6 rfl) (tk tkX7_undo 7 rfl) (tk tkX7_undo 8 rfl) (by decide) (by decide) (CQ.thr hc rfl List.mem_cons_self (if_pos ((nI_eq (a := aK a) (b := 0) (by omega) (by decide)).mp c7)))
end
section
theorem RS1.n98 {σ : SS} {s : Nat → Int32} {w : Int32} (h : RS1 σ s w) (h8 : uN s ≤ 8) (v : Int32) : RS1 σ (upd s 98 v) w := by
  have nt : ∀ j, j ≠ 98 → upd s 98 v j = s j := fun j hj => upd_nt _ _ hj
  obtain ⟨a, b, c, d, f, g, l, l1, m1, m2, m3⟩ := h
  refine ⟨fun j hj => by rw [nt j (by omega)]; exact a j hj, fun j hj => by rw [nt _ (by omega)]; exact b j hj, by rw [nt 25 (by omega)]; exact c, by rw [nt 24 (by omega)]; exact d, f, fun i k hi hk => ?_, l, l1, m1, by rw [nt 99 (by omega)]; exact m2, fun k p hk => by have := qlt hk; rw [nt _ (by omega), nt _ (by omega)]; exact m3 k p hk⟩
  rw [uN_of (nt 25 (by omega))] at hi
  by_cases q : 26 + 9 * i + k = 98
  · exfalso; omega
  · exact (g i k hi hk).trans (nt _ q).symm
theorem CQ.of {exs : List (Int32 × String)} {x y : XW} {R : RS3} {o : Out} {h2 : Hp} (h : y.2 = x.2) (q : CQ exs y R o h2) : CQ exs x R o h2 := by
  obtain ⟨z, a, b, c⟩ := q; exact ⟨z, a, b.trans h, c⟩
theorem cq_l {exs : List (Int32 × String)} {R : RS3} {r : Option Value} (h : (R.1 = 0 ∧ (Sum.inl r : Out) = .inl (some (.int R.2.1))) ∨ ∃ k E, (k, E) ∈ exs ∧ R.1 = k ∧ (Sum.inl r : Out) = .inr E) : R.1 = 0 ∧ r = some (.int R.2.1) := by
  rcases h with ⟨h1, h2⟩ | ⟨k, E, _, _, h⟩
  · cases h2; exact ⟨h1, rfl⟩
  · cases h
def RNN (t : TT) : Prop := 0 ≤ t.2.2.2
theorem bgT_NN {u : Nat} {t : TT} (h : RNN t) (ev : Int32) (r c : Nat) (v : Int32) (its : Nat) : RNN (bgT u t ev r c v its) := by
  unfold bgT
  split
  · exact Int32.le_refl _
  · show 0 ≤ bgC _ _ _ _ _ _ _ _
    rcases bgC_cs t.1 u t.2.1 ev r c v (nI its) with q | q | q | ⟨q, _⟩ <;> rw [q] <;> decide
theorem lpT_NN {F : Nat → TT → TT} (hF : ∀ i t, RNN t → RNN (F i t)) (p : Nat → Bool) : ∀ (k i : Nat) (t : TT), RNN t → RNN (lpT F p k i t)
  | 0, _, _, h => h
  | k + 1, i, t, h => by
    refine lpT_NN hF p k (i + 1) _ ?_
    split
    · exact hF i t h
    · exact h
theorem acT_NN {H : TT → Int32 → Nat → Nat → Int32 → Nat → TT} (hH : ∀ t ev r c v d, RNN t → RNN (H t ev r c v d)) (d : Nat) (i : Nat) (t : TT) (h : RNN t) : RNN (acT H d i t) := by
  unfold acT
  split
  · exact h
  · split
    · exact hH _ _ _ _ _ _ h
    · split
      · show (0 : Int32) ≤ 2; decide
      · split
        · exact h
        · exact hH _ _ _ _ _ _ h
theorem hapT_NN (u : Nat) : ∀ (f : Nat) (t : TT) (ev : Int32) (r c : Nat) (v : Int32) (d : Nat), RNN t → RNN (hapT u f t ev r c v d)
  | 0, t, ev, r, c, v, d, h => bgT_NN h ev r c v d
  | f + 1, t, ev, r, c, v, d, h => by
    by_cases h0 : bgC t.1 u t.2.1 ev r c v (nI d) = 0
    · rw [show hapT u (f + 1) t ev r c v d = lpT (acT (hapT u f) d) (mtC t.1 ev r (nI c) v false) u 0 (bgT u t ev r c v d) from if_pos h0]
      exact lpT_NN (fun i t ht => acT_NN (fun t ev r c v d => hapT_NN u f t ev r c v d) d i t ht) _ u 0 _ (bgT_NN h ev r c v d)
    · rw [hapT_bad u (f + 1) t ev r c v d h0]; exact bgT_NN h ev r c v d
theorem updR_NN (u : Nat) (s : Nat → Int32) (r c : Nat) (v : Int32) : RNN (updR u s r c v) := by
  unfold updR
  split
  · show (0 : Int32) ≤ 1; decide
  · split
    · exact Int32.le_refl _
    · exact hapT_NN _ _ _ _ _ _ _ _ (Int32.le_refl _)
theorem le0_eq {v : Int32} (h : 0 ≤ v) : v ≤ 0 ↔ v = 0 := ⟨fun q => Int32.le_antisymm q h, fun q => by rw [q]; exact Int32.le_refl _⟩
set_option maxRecDepth 100000 in
set_option maxHeartbeats 4000000 in
theorem ct_X7_finishStatement (x : XW) (a : AM) (hc : RC a x.1) (hv : VS (uN (aS a)) (aS a)) (R : TT) (hR : VS (uN (aS a)) R.1) (rt : RT x R) (bad : Int32) (exs : List (Int32 × String)) (hm : (bad, "java/lang/IllegalStateException") ∈ exs) : CT MX7_finishStatement 10 1 [.ref 160] (hp x) (CQ exs x (stA a R bad)) := by
  refine ct_of (by decide +kernel) (by decide) rfl (k := 0) (ls := [some (.ref 160)]) rfl (Nat.le_of_ble_eq_true rfl) ?_
  obtain ⟨u, eu⟩ : ∃ u, u = uN (aS a) := ⟨_, rfl⟩
  have hvu := hv
  rw [← eu] at hvu hR
  have e25 : aS a 25 = nI u := hvu.2.1
  obtain ⟨nx, hnx, g0, g1, g6, gh⟩ := hc.2.1
  obtain ⟨z, ez⟩ : ∃ z, z = kpX x u 0 nx (aK a) := ⟨_, rfl⟩
  obtain ⟨rz, rz2, rz0⟩ : RC (aS a, recH a (aS a), a.2.2) z.1 ∧ z.2 = x.2 ∧ cSt z.1 0 = cSt x.1 0 := by rw [ez]; exact kp_RC hc hvu hnx g1 g6 gh
  have rs : RS (cSt z.1 0) (aS a) := rz.1
  have huz : sSc (cSt z.1 0) 0 = nI u := rs.2.2.1.trans e25
  have ez1 : cSt z.1 1 = cSt x.1 1 := by rw [ez]; exact kp_st x u nx _ (by omega)
  have ezm : cSm z.1 = cSm x.1 := by rw [ez]; rfl
  have rt1 : RS1 (cSt z.1 1) R.1 (R.1 98 + R.2.1) := by rw [ez1]; exact rt.1
  refine pw_aload_n (tk tkX7_finishStatement 0 rfl) rfl ?_
  refine g7_trial (tk tkX7_finishStatement 1 rfl) fkX7_19 ?_
  refine g5_refusal (tk tkX7_finishStatement 2 rfl) fkX7_146 ?_
  rw [rt.2.2.2]
  refine pw_if_eq (tgt := 20) (tk tkX7_finishStatement 3 rfl) (by decide) (fun c7 => ?_) (fun c7 => ?_)
  · refine pw_aload_n (tk tkX7_finishStatement 9 rfl) rfl ?_
    refine g7_history (tk tkX7_finishStatement 10 rfl) fkX7_40 ?_
    refine pw_aload_n (tk tkX7_finishStatement 11 rfl) rfl ?_
    refine g7_now (tk tkX7_finishStatement 12 rfl) fkX7_10 ?_
    refine pw_cV0 (ct_X1_keep x u 0 nx (aK a) (by decide) hnx g6 g0 g1 (hc.1.wb hvu)) okX1_keep (tk tkX7_finishStatement 13 rfl) mkX7_75 imX1_keep seX1_keep (hp_ot _ 7) rfl rfl rfl (by decide) (by decide) (Nat.le_of_ble_eq_true rfl) ?_
    rw [← ez]
    refine pw_aload_n (tk tkX7_finishStatement 14 rfl) rfl ?_
    refine g7_now (tk tkX7_finishStatement 15 rfl) fkX7_10 ?_
    refine pw_aload_n (tk tkX7_finishStatement 16 rfl) rfl ?_
    refine g7_trial (tk tkX7_finishStatement 17 rfl) fkX7_19 ?_
    refine g5_state (tk tkX7_finishStatement 18 rfl) fkX7_164 ?_
    refine pw_cV0 (ct_X4_copyFrom z 0 1 u (by decide) (by decide) (by decide) (rt1.wb hR)) okX4_copyFrom (tk tkX7_finishStatement 19 rfl) mkX7_167 imX4_copyFrom seX4_copyFrom (hp_st _ (by decide : 0 < 10) (by decide : 0 < 16)) rfl rfl rfl (by decide) (by decide) (Nat.le_of_ble_eq_true rfl) ?_
    refine pw_aload_n (tk tkX7_finishStatement 20 rfl) rfl ?_
    refine g7_trial (tk tkX7_finishStatement 21 rfl) fkX7_19 ?_
    refine g5_events (tk tkX7_finishStatement 22 rfl) fkX7_149 ?_
    refine pw_ireturn (tk tkX7_finishStatement 23 rfl) rfl (by decide) rfl ?_
    rw [show cSm (uC1 z 0 (cpS u (cSt z.1 0) (cSt z.1 1))).1 0 = R.2.1 from (congrFun ezm 0).trans rt.2.1]
    refine CQ.ret (rz.now (t := fin R (aS a)) ?_) rz2 (stA_ok bad (decide_eq_true c7))
    rw [show fin R (aS a) = upd R.1 98 (R.1 98 + R.2.1) from if_pos c7]
    exact ((rt1.cp _ hR.un).n98 (by rw [hR.un]; exact hR.1) _).rs (upd_at _ _ _)
  · exact pw_throw twISE rfl rfl rfl ckX7_70 (tx := "the row does not allow it, or the statement is refused") (List.mem_of_getElem? (i := 7) rfl) (tk tkX7_finishStatement 4 rfl) (tk tkX7_finishStatement 5 rfl) (tk tkX7_finishStatement 6 rfl) (tk tkX7_finishStatement 7 rfl) (tk tkX7_finishStatement 8 rfl) (by decide) (by decide) (CQ.thr hc rfl hm (stA_bad bad (decide_eq_false c7)))
set_option maxRecDepth 100000 in
set_option maxHeartbeats 4000000 in
theorem ct_X7_insert (x : XW) (a : AM) (hc : RC a x.1) (hv : VS (uN (aS a)) (aS a)) (r b1 b2 b3 : Int32) : CT MX7_insert 30 6 [.ref 160, .int r, .int b1, .int b2, .int b3] (hp x) (CQ [(1, "java/lang/IndexOutOfBoundsException"), (2, "java/lang/IllegalArgumentException"), (3, "java/lang/IllegalStateException")] x (sinsert a r b1 b2 b3)) := by
  refine ct_of (by decide +kernel) (by decide) rfl (k := 0) (ls := [some (.ref 160), some (.int r), some (.int b1), some (.int b2), some (.int b3)]) rfl (Nat.le_of_ble_eq_true rfl) ?_
  obtain ⟨u, eu⟩ : ∃ u, u = uN (aS a) := ⟨_, rfl⟩
  have hvu := hv
  rw [← eu] at hvu
  have hu8 := hvu.1
  have hu : sSc (cSt x.1 0) 0 = nI u := hc.1.2.2.1.trans hvu.2.1
  have e25 : aS a 25 = nI u := hvu.2.1
  refine pw_iload_n (tk tkX7_insert 0 rfl) rfl ?_
  refine pw_callS (ct_X7_checkRow x _) okX7_checkRow (tk tkX7_insert 1 rfl) mkX7_125 stX7_checkRow rfl rfl (by decide) (by decide) (Nat.le_of_ble_eq_true rfl) (fun r h2 q => ?_) (fun E h2 q => by obtain ⟨k1, rfl, rfl⟩ := ck_r q; exact pt_out rfl rfl (CQ.thr hc rfl List.mem_cons_self (if_pos k1)))
  obtain ⟨k1, rfl, rfl⟩ := ck_l q
  refine pw_iload_n (tk tkX7_insert 2 rfl) rfl ?_
  refine pw_callS (ct_X7_checkValue x _) okX7_checkValue (tk tkX7_insert 3 rfl) mkX7_128 stX7_checkValue rfl rfl (by decide) (by decide) (Nat.le_of_ble_eq_true rfl) (fun r h2 q => ?_) (fun E h2 q => by obtain ⟨k2, rfl, rfl⟩ := ck_r q; exact pt_out rfl rfl (CQ.thr hc rfl (List.mem_cons_of_mem _ List.mem_cons_self) ((if_neg (ne_f k1)).trans (if_pos k2))))
  obtain ⟨k2, rfl, rfl⟩ := ck_l q
  refine pw_iload_n (tk tkX7_insert 4 rfl) rfl ?_
  refine pw_callS (ct_X7_checkValue x _) okX7_checkValue (tk tkX7_insert 5 rfl) mkX7_128 stX7_checkValue rfl rfl (by decide) (by decide) (Nat.le_of_ble_eq_true rfl) (fun r h2 q => ?_) (fun E h2 q => by obtain ⟨k3, rfl, rfl⟩ := ck_r q; exact pt_out rfl rfl (CQ.thr hc rfl (List.mem_cons_of_mem _ List.mem_cons_self) ((if_neg (ne_f k1)).trans ((if_neg (ne_f k2)).trans (if_pos k3)))))
  obtain ⟨k3, rfl, rfl⟩ := ck_l q
  refine pw_iload (tk tkX7_insert 6 rfl) rfl ?_
  refine pw_callS (ct_X7_checkValue x _) okX7_checkValue (tk tkX7_insert 7 rfl) mkX7_128 stX7_checkValue rfl rfl (by decide) (by decide) (Nat.le_of_ble_eq_true rfl) (fun r h2 q => ?_) (fun E h2 q => by obtain ⟨k4, rfl, rfl⟩ := ck_r q; exact pt_out rfl rfl (CQ.thr hc rfl (List.mem_cons_of_mem _ List.mem_cons_self) ((if_neg (ne_f k1)).trans ((if_neg (ne_f k2)).trans ((if_neg (ne_f k3)).trans (if_pos k4))))))
  obtain ⟨k4, rfl, rfl⟩ := ck_l q
  refine pw_aload_n (tk tkX7_insert 8 rfl) rfl ?_
  refine g7_trial (tk tkX7_insert 9 rfl) fkX7_19 ?_
  refine pw_aload_n (tk tkX7_insert 10 rfl) rfl ?_
  refine g7_now (tk tkX7_insert 11 rfl) fkX7_10 ?_
  refine pw_iload_n (tk tkX7_insert 12 rfl) rfl ?_
  refine pw_iload_n (tk tkX7_insert 13 rfl) rfl ?_
  refine pw_iload_n (tk tkX7_insert 14 rfl) rfl ?_
  refine pw_iload (tk tkX7_insert 15 rfl) rfl ?_
  refine pw_callV (ct_X5_putIn x (aS a) u hc.1 hvu r b1 b2 b3) okX5_putIn (tk tkX7_insert 16 rfl) mkX7_131 imX5_putIn seX5_putIn (hp_ot _ 1) rfl rfl rfl (by decide) (by decide) (Nat.le_of_ble_eq_true rfl) (fun r h2 q => ?_) (fun E h2 q => by cases q.1)
  obtain ⟨ho, y, rfl, fy, ry⟩ := q
  cases ho
  obtain ⟨r1, hr, er, er2⟩ := inR_row k1
  obtain ⟨R, eR⟩ : ∃ R, R = insR u (aS a) r1 b1 b2 b3 := ⟨_, rfl⟩
  have eP : piR u (aS a) r b1 b2 b3 = R := (if_neg (ne_f k1)).trans (by rw [er2, eR])
  rw [eP] at ry
  have hR : VS (uN (aS a)) R.1 := by rw [← eu, eR]; exact insR_VS hvu b1 b2 b3 hr
  have eS : sinsert a r b1 b2 b3 = stA a R 3 := (if_neg (ne_f k1)).trans ((if_neg (ne_f k2)).trans ((if_neg (ne_f k3)).trans ((if_neg (ne_f k4)).trans (by rw [er2, ← eu, eR]))))
  refine pw_aload_n (tk tkX7_insert 17 rfl) rfl ?_
  refine pw_callV (ct_X7_finishStatement y a (fy.rc hc) hv R hR ry 3 _ (List.mem_cons_of_mem _ (List.mem_cons_of_mem _ List.mem_cons_self))) okX7_finishStatement (tk tkX7_insert 18 rfl) mkX7_135 imX7_finishStatement seX7_finishStatement (hp_ot _ 0) rfl rfl rfl (by decide) (by decide) (Nat.le_of_ble_eq_true rfl) (fun r h2 q => ?_) (fun E h2 q => pt_out rfl rfl (by rw [eS]; exact CQ.of fy.1 q))
  obtain ⟨z, rfl, zx, zc, zo⟩ := q
  obtain ⟨z0, ho⟩ := cq_l zo
  cases ho
  exact pw_ireturn (tk tkX7_insert 19 rfl) rfl (by decide) rfl ⟨z, rfl, zx.trans fy.1, by rw [eS]; exact zc, .inl ⟨by rw [eS]; exact z0, by rw [eS]⟩⟩
set_option maxRecDepth 100000 in
set_option maxHeartbeats 4000000 in
theorem ct_X7_remove (x : XW) (a : AM) (hc : RC a x.1) (hv : VS (uN (aS a)) (aS a)) (r : Int32) : CT MX7_remove 30 6 [.ref 160, .int r] (hp x) (CQ [(1, "java/lang/IndexOutOfBoundsException"), (2, "java/lang/IllegalStateException")] x (sremove a r)) := by
  refine ct_of (by decide +kernel) (by decide) rfl (k := 0) (ls := [some (.ref 160), some (.int r)]) rfl (Nat.le_of_ble_eq_true rfl) ?_
  obtain ⟨u, eu⟩ : ∃ u, u = uN (aS a) := ⟨_, rfl⟩
  have hvu := hv
  rw [← eu] at hvu
  have hu8 := hvu.1
  have hu : sSc (cSt x.1 0) 0 = nI u := hc.1.2.2.1.trans hvu.2.1
  have e25 : aS a 25 = nI u := hvu.2.1
  refine pw_iload_n (tk tkX7_remove 0 rfl) rfl ?_
  refine pw_callS (ct_X7_checkRow x _) okX7_checkRow (tk tkX7_remove 1 rfl) mkX7_125 stX7_checkRow rfl rfl (by decide) (by decide) (Nat.le_of_ble_eq_true rfl) (fun r h2 q => ?_) (fun E h2 q => by obtain ⟨k1, rfl, rfl⟩ := ck_r q; exact pt_out rfl rfl (CQ.thr hc rfl List.mem_cons_self (if_pos k1)))
  obtain ⟨k1, rfl, rfl⟩ := ck_l q
  refine pw_aload_n (tk tkX7_remove 2 rfl) rfl ?_
  refine g7_trial (tk tkX7_remove 3 rfl) fkX7_19 ?_
  refine pw_aload_n (tk tkX7_remove 4 rfl) rfl ?_
  refine g7_now (tk tkX7_remove 5 rfl) fkX7_10 ?_
  refine pw_iload_n (tk tkX7_remove 6 rfl) rfl ?_
  refine pw_callV (ct_X5_takeOut x (aS a) u hc.1 hvu r) okX5_takeOut (tk tkX7_remove 7 rfl) mkX7_142 imX5_takeOut seX5_takeOut (hp_ot _ 1) rfl rfl rfl (by decide) (by decide) (Nat.le_of_ble_eq_true rfl) (fun r h2 q => ?_) (fun E h2 q => by cases q.1)
  obtain ⟨ho, y, rfl, fy, ry⟩ := q
  cases ho
  obtain ⟨r1, hr, er, er2⟩ := inR_row k1
  obtain ⟨R, eR⟩ : ∃ R, R = remR u (aS a) r1 := ⟨_, rfl⟩
  have eP : toR u (aS a) r = R := (if_neg (ne_f k1)).trans (by rw [er2, eR])
  rw [eP] at ry
  have hR : VS (uN (aS a)) R.1 := by rw [← eu, eR]; exact remR_VS hvu hr
  have eS : sremove a r = stA a R 2 := (if_neg (ne_f k1)).trans (by rw [er2, ← eu, eR])
  refine pw_aload_n (tk tkX7_remove 8 rfl) rfl ?_
  refine pw_callV (ct_X7_finishStatement y a (fy.rc hc) hv R hR ry 2 _ (List.mem_cons_of_mem _ List.mem_cons_self)) okX7_finishStatement (tk tkX7_remove 9 rfl) mkX7_135 imX7_finishStatement seX7_finishStatement (hp_ot _ 0) rfl rfl rfl (by decide) (by decide) (Nat.le_of_ble_eq_true rfl) (fun r h2 q => ?_) (fun E h2 q => pt_out rfl rfl (by rw [eS]; exact CQ.of fy.1 q))
  obtain ⟨z, rfl, zx, zc, zo⟩ := q
  obtain ⟨z0, ho⟩ := cq_l zo
  cases ho
  exact pw_ireturn (tk tkX7_remove 10 rfl) rfl (by decide) rfl ⟨z, rfl, zx.trans fy.1, by rw [eS]; exact zc, .inl ⟨by rw [eS]; exact z0, by rw [eS]⟩⟩
def TUQ (x : XW) (a : AM) (r c v : Int32) : Out → Hp → Prop := fun o h2 => (tuC r c v = 0 ∧ o = .inl none ∧ ∃ y, h2 = hp y ∧ FC x y ∧ RT y (tuR a r c v) ∧ VS (uN (aS a)) (tuR a r c v).1) ∨ (h2 = hp x ∧ ((tuC r c v = 1 ∧ o = .inr "java/lang/IndexOutOfBoundsException") ∨ (tuC r c v = 2 ∧ o = .inr "java/lang/IllegalArgumentException")))
theorem TUQ.l {x : XW} {a : AM} {r c v : Int32} {z : Option Value} {h2 : Hp} (q : TUQ x a r c v (.inl z) h2) : tuC r c v = 0 ∧ z = none ∧ ∃ y, h2 = hp y ∧ FC x y ∧ RT y (tuR a r c v) ∧ VS (uN (aS a)) (tuR a r c v).1 := by
  rcases q with ⟨q1, q2, q3⟩ | ⟨_, ⟨_, q⟩ | ⟨_, q⟩⟩
  · cases q2; exact ⟨q1, rfl, q3⟩
  · cases q
  · cases q
theorem TUQ.r {x : XW} {a : AM} {r c v : Int32} {E : String} {h2 : Hp} (q : TUQ x a r c v (.inr E) h2) : h2 = hp x ∧ ((tuC r c v = 1 ∧ E = "java/lang/IndexOutOfBoundsException") ∨ (tuC r c v = 2 ∧ E = "java/lang/IllegalArgumentException")) := by
  rcases q with ⟨_, q2, _⟩ | ⟨q0, ⟨q1, q⟩ | ⟨q1, q⟩⟩
  · cases q2
  · cases q; exact ⟨q0, .inl ⟨q1, rfl⟩⟩
  · cases q; exact ⟨q0, .inr ⟨q1, rfl⟩⟩
theorem su_tu (a : AM) (r c v : Int32) : supdate a r c v = if tuC r c v = 0 then stA a (tuR a r c v) 3 else (tuC r c v, 0, a) := by
  unfold supdate tuC tuR
  by_cases h1 : inR r 0 5 = false
  · rw [if_pos h1, if_pos h1, if_neg (by decide)]
  · rw [if_neg h1, if_neg h1]
    by_cases h2 : inR c 0 2 = false
    · rw [if_pos h2, if_pos h2, if_neg (by decide)]
    · rw [if_neg h2, if_neg h2]
      by_cases h3 : inR v 0 999 = false
      · rw [if_pos h3, if_pos h3, if_neg (by decide)]
      · rw [if_neg h3, if_neg h3, if_pos rfl]
set_option maxRecDepth 100000 in
set_option maxHeartbeats 4000000 in
theorem ct_X7_tryUpdate (x : XW) (a : AM) (hc : RC a x.1) (hv : VS (uN (aS a)) (aS a)) (r c v : Int32) : CT MX7_tryUpdate 20 3 [.ref 160, .int r, .int c, .int v] (hp x) (TUQ x a r c v) := by
  refine ct_of (by decide +kernel) (by decide) rfl (k := 0) (ls := [some (.ref 160), some (.int r), some (.int c), some (.int v)]) rfl (Nat.le_of_ble_eq_true rfl) ?_
  obtain ⟨u, eu⟩ : ∃ u, u = uN (aS a) := ⟨_, rfl⟩
  have hvu := hv
  rw [← eu] at hvu
  refine pw_iload_n (tk tkX7_tryUpdate 0 rfl) rfl ?_
  refine pw_callS (ct_X7_checkRow x _) okX7_checkRow (tk tkX7_tryUpdate 1 rfl) mkX7_125 stX7_checkRow rfl rfl (by decide) (by decide) (Nat.le_of_ble_eq_true rfl) (fun r h2 q => ?_) (fun E h2 q => by obtain ⟨k1, rfl, rfl⟩ := ck_r q; exact pt_out rfl rfl (.inr ⟨rfl, .inl ⟨if_pos k1, rfl⟩⟩))
  obtain ⟨k1, rfl, rfl⟩ := ck_l q
  refine pw_iload_n (tk tkX7_tryUpdate 2 rfl) rfl ?_
  refine pw_callS (ct_X7_checkColumn x _) okX7_checkColumn (tk tkX7_tryUpdate 3 rfl) mkX7_155 stX7_checkColumn rfl rfl (by decide) (by decide) (Nat.le_of_ble_eq_true rfl) (fun r h2 q => ?_) (fun E h2 q => by obtain ⟨k2, rfl, rfl⟩ := ck_r q; exact pt_out rfl rfl (.inr ⟨rfl, .inl ⟨((if_neg (ne_f k1)).trans (if_pos k2)), rfl⟩⟩))
  obtain ⟨k2, rfl, rfl⟩ := ck_l q
  refine pw_iload_n (tk tkX7_tryUpdate 4 rfl) rfl ?_
  refine pw_callS (ct_X7_checkValue x _) okX7_checkValue (tk tkX7_tryUpdate 5 rfl) mkX7_128 stX7_checkValue rfl rfl (by decide) (by decide) (Nat.le_of_ble_eq_true rfl) (fun r h2 q => ?_) (fun E h2 q => by obtain ⟨k3, rfl, rfl⟩ := ck_r q; exact pt_out rfl rfl (.inr ⟨rfl, .inr ⟨((if_neg (ne_f k1)).trans ((if_neg (ne_f k2)).trans (if_pos k3))), rfl⟩⟩))
  obtain ⟨k3, rfl, rfl⟩ := ck_l q
  refine pw_aload_n (tk tkX7_tryUpdate 6 rfl) rfl ?_
  refine g7_trial (tk tkX7_tryUpdate 7 rfl) fkX7_19 ?_
  refine pw_aload_n (tk tkX7_tryUpdate 8 rfl) rfl ?_
  refine g7_now (tk tkX7_tryUpdate 9 rfl) fkX7_10 ?_
  refine pw_iload_n (tk tkX7_tryUpdate 10 rfl) rfl ?_
  refine pw_iload_n (tk tkX7_tryUpdate 11 rfl) rfl ?_
  refine pw_iload_n (tk tkX7_tryUpdate 12 rfl) rfl ?_
  refine pw_callV (ct_X5_change x (aS a) u hc.1 hvu r c v) okX5_change (tk tkX7_tryUpdate 13 rfl) mkX7_158 imX5_change seX5_change (hp_ot _ 1) rfl rfl rfl (by decide) (by decide) (Nat.le_of_ble_eq_true rfl) (fun r h2 q => ?_) (fun E h2 q => by cases q.1)
  obtain ⟨ho, y, rfl, fy, ry⟩ := q
  cases ho
  obtain ⟨r1, hr, er, er2⟩ := inR_row k1
  obtain ⟨c1, hc3, ec, ec2⟩ := inR_col k2
  have eP : chR u (aS a) r c v = tuR a r c v := (if_neg (ne_f k1)).trans ((if_neg (ne_f k2)).trans (by rw [eu]; rfl))
  rw [eP] at ry
  exact pw_return (tk tkX7_tryUpdate 14 rfl) rfl (by decide) (.inl ⟨(if_neg (ne_f k1)).trans ((if_neg (ne_f k2)).trans (if_neg (ne_f k3))), rfl, y, rfl, fy, ry, (by unfold tuR; rw [← eu, er2, ec2]; exact updR_VS hvu v hr hc3)⟩)
set_option maxRecDepth 100000 in
set_option maxHeartbeats 4000000 in
theorem ct_X7_update (x : XW) (a : AM) (hc : RC a x.1) (hv : VS (uN (aS a)) (aS a)) (r c v : Int32) : CT MX7_update 30 6 [.ref 160, .int r, .int c, .int v] (hp x) (CQ [(1, "java/lang/IndexOutOfBoundsException"), (2, "java/lang/IllegalArgumentException"), (3, "java/lang/IllegalStateException")] x (supdate a r c v)) := by
  refine ct_of (by decide +kernel) (by decide) rfl (k := 0) (ls := [some (.ref 160), some (.int r), some (.int c), some (.int v)]) rfl (Nat.le_of_ble_eq_true rfl) ?_
  obtain ⟨u, eu⟩ : ∃ u, u = uN (aS a) := ⟨_, rfl⟩
  have hvu := hv
  rw [← eu] at hvu
  have hu8 := hvu.1
  have hu : sSc (cSt x.1 0) 0 = nI u := hc.1.2.2.1.trans hvu.2.1
  have e25 : aS a 25 = nI u := hvu.2.1
  refine pw_aload_n (tk tkX7_update 0 rfl) rfl ?_
  refine pw_iload_n (tk tkX7_update 1 rfl) rfl ?_
  refine pw_iload_n (tk tkX7_update 2 rfl) rfl ?_
  refine pw_iload_n (tk tkX7_update 3 rfl) rfl ?_
  refine pw_callV (ct_X7_tryUpdate x a hc hv r c v) okX7_tryUpdate (tk tkX7_update 4 rfl) mkX7_139 imX7_tryUpdate seX7_tryUpdate (hp_ot _ 0) rfl rfl rfl (by decide) (by decide) (Nat.le_of_ble_eq_true rfl) (fun r h2 q => ?_) (fun E h2 q => by obtain ⟨rfl, ⟨k1, rfl⟩ | ⟨k1, rfl⟩⟩ := q.r; exact pt_out rfl rfl (CQ.thr hc rfl List.mem_cons_self ((su_tu a r c v).trans ((if_neg (by rw [k1]; decide)).trans (by rw [k1])))); exact pt_out rfl rfl (CQ.thr hc rfl (List.mem_cons_of_mem _ List.mem_cons_self) ((su_tu a r c v).trans ((if_neg (by rw [k1]; decide)).trans (by rw [k1])))))
  obtain ⟨k0, rfl, y, rfl, fy, ry, hR⟩ := q.l
  have eS : supdate a r c v = stA a (tuR a r c v) 3 := (su_tu a r c v).trans (if_pos k0)
  refine pw_aload_n (tk tkX7_update 5 rfl) rfl ?_
  refine pw_callV (ct_X7_finishStatement y a (fy.rc hc) hv (tuR a r c v) hR ry 3 _ (List.mem_cons_of_mem _ (List.mem_cons_of_mem _ List.mem_cons_self))) okX7_finishStatement (tk tkX7_update 6 rfl) mkX7_135 imX7_finishStatement seX7_finishStatement (hp_ot _ 0) rfl rfl rfl (by decide) (by decide) (Nat.le_of_ble_eq_true rfl) (fun r h2 q => ?_) (fun E h2 q => pt_out rfl rfl (by rw [eS]; exact CQ.of fy.1 q))
  obtain ⟨z, rfl, zx, zc, zo⟩ := q
  obtain ⟨z0, ho⟩ := cq_l zo
  cases ho
  exact pw_ireturn (tk tkX7_update 7 rfl) rfl (by decide) rfl ⟨z, rfl, zx.trans fy.1, by rw [eS]; exact zc, .inl ⟨by rw [eS]; exact z0, by rw [eS]⟩⟩
set_option maxRecDepth 100000 in
set_option maxHeartbeats 4000000 in
theorem ct_X7_whyNotUpdate (x : XW) (a : AM) (hc : RC a x.1) (hv : VS (uN (aS a)) (aS a)) (r c v : Int32) : CT MX7_whyNotUpdate 30 6 [.ref 160, .int r, .int c, .int v] (hp x) (CQ [(1, "java/lang/IndexOutOfBoundsException"), (2, "java/lang/IllegalArgumentException")] x (swhyNotUpdate a r c v)) := by
  refine ct_of (by decide +kernel) (by decide) rfl (k := 0) (ls := [some (.ref 160), some (.int r), some (.int c), some (.int v)]) rfl (Nat.le_of_ble_eq_true rfl) ?_
  obtain ⟨u, eu⟩ : ∃ u, u = uN (aS a) := ⟨_, rfl⟩
  have hvu := hv
  rw [← eu] at hvu
  have hu8 := hvu.1
  have hu : sSc (cSt x.1 0) 0 = nI u := hc.1.2.2.1.trans hvu.2.1
  have e25 : aS a 25 = nI u := hvu.2.1
  refine pw_aload_n (tk tkX7_whyNotUpdate 0 rfl) rfl ?_
  refine pw_iload_n (tk tkX7_whyNotUpdate 1 rfl) rfl ?_
  refine pw_iload_n (tk tkX7_whyNotUpdate 2 rfl) rfl ?_
  refine pw_iload_n (tk tkX7_whyNotUpdate 3 rfl) rfl ?_
  refine pw_callV (ct_X7_tryUpdate x a hc hv r c v) okX7_tryUpdate (tk tkX7_whyNotUpdate 4 rfl) mkX7_139 imX7_tryUpdate seX7_tryUpdate (hp_ot _ 0) rfl rfl rfl (by decide) (by decide) (Nat.le_of_ble_eq_true rfl) (fun r h2 q => ?_) (fun E h2 q => by obtain ⟨rfl, ⟨k1, rfl⟩ | ⟨k1, rfl⟩⟩ := q.r; exact pt_out rfl rfl (CQ.thr hc rfl List.mem_cons_self (show (tuC r c v, _, a) = _ from by rw [k1]; rfl)); exact pt_out rfl rfl (CQ.thr hc rfl (List.mem_cons_of_mem _ List.mem_cons_self) (show (tuC r c v, _, a) = _ from by rw [k1]; rfl)))
  obtain ⟨k0, rfl, y, rfl, fy, ry, hR⟩ := q.l
  refine pw_aload_n (tk tkX7_whyNotUpdate 5 rfl) rfl ?_
  refine g7_trial (tk tkX7_whyNotUpdate 6 rfl) fkX7_19 ?_
  refine g5_refusal (tk tkX7_whyNotUpdate 7 rfl) fkX7_146 ?_
  rw [ry.2.2.2]
  exact pw_ireturn (tk tkX7_whyNotUpdate 8 rfl) rfl (by decide) rfl (CQ.ret (fy.rc hc) fy.1 (show (tuC r c v, (if tuC r c v = 0 then _ else _), a) = _ from by rw [k0]; rfl))
set_option maxRecDepth 100000 in
set_option maxHeartbeats 4000000 in
theorem ct_X7_eventsOfUpdate (x : XW) (a : AM) (hc : RC a x.1) (hv : VS (uN (aS a)) (aS a)) (r c v : Int32) : CT MX7_eventsOfUpdate 30 6 [.ref 160, .int r, .int c, .int v] (hp x) (CQ [(1, "java/lang/IndexOutOfBoundsException"), (2, "java/lang/IllegalArgumentException")] x (seventsOfUpdate a r c v)) := by
  refine ct_of (by decide +kernel) (by decide) rfl (k := 0) (ls := [some (.ref 160), some (.int r), some (.int c), some (.int v)]) rfl (Nat.le_of_ble_eq_true rfl) ?_
  obtain ⟨u, eu⟩ : ∃ u, u = uN (aS a) := ⟨_, rfl⟩
  have hvu := hv
  rw [← eu] at hvu
  have hu8 := hvu.1
  have hu : sSc (cSt x.1 0) 0 = nI u := hc.1.2.2.1.trans hvu.2.1
  have e25 : aS a 25 = nI u := hvu.2.1
  refine pw_aload_n (tk tkX7_eventsOfUpdate 0 rfl) rfl ?_
  refine pw_iload_n (tk tkX7_eventsOfUpdate 1 rfl) rfl ?_
  refine pw_iload_n (tk tkX7_eventsOfUpdate 2 rfl) rfl ?_
  refine pw_iload_n (tk tkX7_eventsOfUpdate 3 rfl) rfl ?_
  refine pw_callV (ct_X7_tryUpdate x a hc hv r c v) okX7_tryUpdate (tk tkX7_eventsOfUpdate 4 rfl) mkX7_139 imX7_tryUpdate seX7_tryUpdate (hp_ot _ 0) rfl rfl rfl (by decide) (by decide) (Nat.le_of_ble_eq_true rfl) (fun r h2 q => ?_) (fun E h2 q => by obtain ⟨rfl, ⟨k1, rfl⟩ | ⟨k1, rfl⟩⟩ := q.r; exact pt_out rfl rfl (CQ.thr hc rfl List.mem_cons_self (show (tuC r c v, _, a) = _ from by rw [k1]; rfl)); exact pt_out rfl rfl (CQ.thr hc rfl (List.mem_cons_of_mem _ List.mem_cons_self) (show (tuC r c v, _, a) = _ from by rw [k1]; rfl)))
  obtain ⟨k0, rfl, y, rfl, fy, ry, hR⟩ := q.l
  refine pw_aload_n (tk tkX7_eventsOfUpdate 5 rfl) rfl ?_
  refine g7_trial (tk tkX7_eventsOfUpdate 6 rfl) fkX7_19 ?_
  refine g5_refusal (tk tkX7_eventsOfUpdate 7 rfl) fkX7_146 ?_
  rw [ry.2.2.2]
  refine pw_if_ne (tgt := 27) (tk tkX7_eventsOfUpdate 8 rfl) (by decide) (fun c14 => ?_) (fun c14 => ?_)
  · refine pw_iconst (v := (-1)) (tk tkX7_eventsOfUpdate 13 rfl) (by decide) ?_
    exact pw_ireturn (tk tkX7_eventsOfUpdate 14 rfl) rfl (by decide) rfl (CQ.ret (fy.rc hc) fy.1 (show (tuC r c v, (if tuC r c v = 0 then _ else _), a) = _ from by rw [k0, if_pos rfl, if_neg (fun q => c14 ((le0_eq (show RNN (tuR a r c v) from updR_NN _ _ _ _ _)).mp q))]))
  · refine pw_aload_n (tk tkX7_eventsOfUpdate 9 rfl) rfl ?_
    refine g7_trial (tk tkX7_eventsOfUpdate 10 rfl) fkX7_19 ?_
    refine g5_events (tk tkX7_eventsOfUpdate 11 rfl) fkX7_149 ?_
    rw [ry.2.1]
    refine pw_goto (tgt := 28) (tk tkX7_eventsOfUpdate 12 rfl) (by decide) ?_
    exact pw_ireturn (tk tkX7_eventsOfUpdate 14 rfl) rfl (by decide) rfl (CQ.ret (fy.rc hc) fy.1 (show (tuC r c v, (if tuC r c v = 0 then _ else _), a) = _ from by rw [k0, if_pos rfl, if_pos ((le0_eq (show RNN (tuR a r c v) from updR_NN _ _ _ _ _)).mpr c14)]))
set_option maxRecDepth 100000 in
set_option maxHeartbeats 4000000 in
theorem ct_X7_depthOfUpdate (x : XW) (a : AM) (hc : RC a x.1) (hv : VS (uN (aS a)) (aS a)) (r c v : Int32) : CT MX7_depthOfUpdate 30 6 [.ref 160, .int r, .int c, .int v] (hp x) (CQ [(1, "java/lang/IndexOutOfBoundsException"), (2, "java/lang/IllegalArgumentException")] x (sdepthOfUpdate a r c v)) := by
  refine ct_of (by decide +kernel) (by decide) rfl (k := 0) (ls := [some (.ref 160), some (.int r), some (.int c), some (.int v)]) rfl (Nat.le_of_ble_eq_true rfl) ?_
  obtain ⟨u, eu⟩ : ∃ u, u = uN (aS a) := ⟨_, rfl⟩
  have hvu := hv
  rw [← eu] at hvu
  have hu8 := hvu.1
  have hu : sSc (cSt x.1 0) 0 = nI u := hc.1.2.2.1.trans hvu.2.1
  have e25 : aS a 25 = nI u := hvu.2.1
  refine pw_aload_n (tk tkX7_depthOfUpdate 0 rfl) rfl ?_
  refine pw_iload_n (tk tkX7_depthOfUpdate 1 rfl) rfl ?_
  refine pw_iload_n (tk tkX7_depthOfUpdate 2 rfl) rfl ?_
  refine pw_iload_n (tk tkX7_depthOfUpdate 3 rfl) rfl ?_
  refine pw_callV (ct_X7_tryUpdate x a hc hv r c v) okX7_tryUpdate (tk tkX7_depthOfUpdate 4 rfl) mkX7_139 imX7_tryUpdate seX7_tryUpdate (hp_ot _ 0) rfl rfl rfl (by decide) (by decide) (Nat.le_of_ble_eq_true rfl) (fun r h2 q => ?_) (fun E h2 q => by obtain ⟨rfl, ⟨k1, rfl⟩ | ⟨k1, rfl⟩⟩ := q.r; exact pt_out rfl rfl (CQ.thr hc rfl List.mem_cons_self (show (tuC r c v, _, a) = _ from by rw [k1]; rfl)); exact pt_out rfl rfl (CQ.thr hc rfl (List.mem_cons_of_mem _ List.mem_cons_self) (show (tuC r c v, _, a) = _ from by rw [k1]; rfl)))
  obtain ⟨k0, rfl, y, rfl, fy, ry, hR⟩ := q.l
  refine pw_aload_n (tk tkX7_depthOfUpdate 5 rfl) rfl ?_
  refine g7_trial (tk tkX7_depthOfUpdate 6 rfl) fkX7_19 ?_
  refine g5_refusal (tk tkX7_depthOfUpdate 7 rfl) fkX7_146 ?_
  rw [ry.2.2.2]
  refine pw_if_ne (tgt := 27) (tk tkX7_depthOfUpdate 8 rfl) (by decide) (fun c14 => ?_) (fun c14 => ?_)
  · refine pw_iconst (v := (-1)) (tk tkX7_depthOfUpdate 13 rfl) (by decide) ?_
    exact pw_ireturn (tk tkX7_depthOfUpdate 14 rfl) rfl (by decide) rfl (CQ.ret (fy.rc hc) fy.1 (show (tuC r c v, (if tuC r c v = 0 then _ else _), a) = _ from by rw [k0, if_pos rfl, if_neg (fun q => c14 ((le0_eq (show RNN (tuR a r c v) from updR_NN _ _ _ _ _)).mp q))]))
  · refine pw_aload_n (tk tkX7_depthOfUpdate 9 rfl) rfl ?_
    refine g7_trial (tk tkX7_depthOfUpdate 10 rfl) fkX7_19 ?_
    refine g5_deepest (tk tkX7_depthOfUpdate 11 rfl) fkX7_152 ?_
    rw [ry.2.2.1]
    refine pw_goto (tgt := 28) (tk tkX7_depthOfUpdate 12 rfl) (by decide) ?_
    exact pw_ireturn (tk tkX7_depthOfUpdate 14 rfl) rfl (by decide) rfl (CQ.ret (fy.rc hc) fy.1 (show (tuC r c v, (if tuC r c v = 0 then _ else _), a) = _ from by rw [k0, if_pos rfl, if_pos ((le0_eq (show RNN (tuR a r c v) from updR_NN _ _ _ _ _)).mpr c14)]))
theorem so_st {σ : SS} {s : Nat → Int32} {e : Int32} (h : RS1 σ s e) {i j : Nat} (hi : i < uN s) (hj : j < uN s) : soC (sRu σ i) (sRu σ j) = stO s i j := by
  have g := h.2.2.2.2.2.1
  unfold soC stO
  rw [g i 7 hi (by decide), g j 7 hj (by decide), g i 3 hi (by decide), g j 0 hj (by decide), g j 1 hj (by decide), g i 5 hi (by decide)]
set_option maxRecDepth 100000 in
set_option maxHeartbeats 4000000 in
theorem ct_X7_canSetOff (x : XW) (a : AM) (hc : RC a x.1) (hv : VS (uN (aS a)) (aS a)) (r w : Int32) (h1 : inR r 0 (aS a 25 - 1) = true) (h2 : inR w 0 (aS a 25 - 1) = true) : CT MX7_canSetOff 30 0 [.ref 160, .int r, .int w] (hp x) (CQ [(1, "java/lang/IndexOutOfBoundsException")] x (scanSetOff a r w)) := by
  refine ct_of (by decide +kernel) (by decide) rfl (k := 0) (ls := [some (.ref 160), some (.int r), some (.int w)]) rfl (Nat.le_of_ble_eq_true rfl) ?_
  obtain ⟨u, eu⟩ : ∃ u, u = uN (aS a) := ⟨_, rfl⟩
  have hvu := hv
  rw [← eu] at hvu
  have hu8 := hvu.1
  have hu : sSc (cSt x.1 0) 0 = nI u := hc.1.2.2.1.trans hvu.2.1
  have e25 : aS a 25 = nI u := hvu.2.1
  refine pw_aload_n (tk tkX7_canSetOff 0 rfl) rfl ?_
  refine pw_iload_n (tk tkX7_canSetOff 1 rfl) rfl ?_
  refine pw_callV (ct0_X7_checkRule x u hu hu8 _ (by rw [← e25]; exact h1)) okX7_checkRule (tk tkX7_canSetOff 2 rfl) mkX7_89 imX7_checkRule seX7_checkRule (hp_ot _ 0) rfl rfl rfl (by decide) (by decide) (Nat.le_of_ble_eq_true rfl) (fun r h2 q => ?_) (fun E h2 q => by obtain ⟨k1, rfl, rfl⟩ := ck_r q; exact pt_out rfl rfl (CQ.thr hc rfl List.mem_cons_self (if_pos (show inR r 0 (aS a 25 - 1) = false from by rw [e25]; exact k1))))
  obtain ⟨k1, rfl, rfl⟩ := ck_l q
  refine pw_aload_n (tk tkX7_canSetOff 3 rfl) rfl ?_
  refine pw_iload_n (tk tkX7_canSetOff 4 rfl) rfl ?_
  refine pw_callV (ct0_X7_checkRule x u hu hu8 _ (by rw [← e25]; exact h2)) okX7_checkRule (tk tkX7_canSetOff 5 rfl) mkX7_89 imX7_checkRule seX7_checkRule (hp_ot _ 0) rfl rfl rfl (by decide) (by decide) (Nat.le_of_ble_eq_true rfl) (fun r h2 q => ?_) (fun E h2 q => by obtain ⟨k2, rfl, rfl⟩ := ck_r q; exact pt_out rfl rfl (CQ.thr hc rfl List.mem_cons_self ((if_neg (ne_f (show inR r 0 (aS a 25 - 1) = true from by rw [e25]; exact k1))).trans (if_pos (show inR w 0 (aS a 25 - 1) = false from by rw [e25]; exact k2)))))
  obtain ⟨k2, rfl, rfl⟩ := ck_l q
  obtain ⟨r1, hr, er, er2⟩ := inR_lt rfl (by omega) k1
  obtain ⟨w1, hw, ew, ew2⟩ := inR_lt rfl (by omega) k2
  refine pw_aload_n (tk tkX7_canSetOff 6 rfl) rfl ?_
  refine g7_now (tk tkX7_canSetOff 7 rfl) fkX7_10 ?_
  refine g4_rules (by first | assumption | decide | omega) (tk tkX7_canSetOff 8 rfl) fkX7_79 ?_
  refine pw_iload_n (tk tkX7_canSetOff 9 rfl) rfl ?_
  refine al_rules_e (e := r1) (by first | assumption | decide | omega) (tk tkX7_canSetOff 10 rfl) er (by first | decide | omega) ?_
  refine pw_aload_n (tk tkX7_canSetOff 11 rfl) rfl ?_
  refine g7_now (tk tkX7_canSetOff 12 rfl) fkX7_10 ?_
  refine g4_rules (by first | assumption | decide | omega) (tk tkX7_canSetOff 13 rfl) fkX7_79 ?_
  refine pw_iload_n (tk tkX7_canSetOff 14 rfl) rfl ?_
  refine al_rules_e (e := w1) (by first | assumption | decide | omega) (tk tkX7_canSetOff 15 rfl) ew (by first | decide | omega) ?_
  refine pw_cV (ct_X3_setsOff x 0 r1 0 w1 (by decide) (by omega) (by decide) (by omega)) okX3_setsOff (tk tkX7_canSetOff 16 rfl) mkX7_208 imX3_setsOff seX3_setsOff ((hp_st _ (by decide : 0 < 10) (by omega)).trans (stc_ru _ _ _ (by omega))) rfl rfl rfl (by decide) (by decide) (Nat.le_of_ble_eq_true rfl) ?_
  rw [so_st hc.1 (by omega) (by omega)]
  exact pw_ireturn (tk tkX7_canSetOff 17 rfl) rfl (by decide) (by first | rfl | exact nar_bI _) (CQ.ret hc rfl ((if_neg (ne_f (show inR r 0 (aS a 25 - 1) = true from by rw [e25]; exact k1))).trans ((if_neg (ne_f (show inR w 0 (aS a 25 - 1) = true from by rw [e25]; exact k2))).trans (by rw [er2, ew2]))))
end
section
theorem sh_bv : ∀ (k : Fin 8) (i : Fin 32), ((1 : Int32) <<< (nI k.val &&& 31)).toBitVec.getLsbD i.val = decide (i.val = k.val) := by decide +kernel
theorem m1_bv : ∀ (i : Fin 32), (-1 : Int32).toBitVec.getLsbD i.val = true := by decide +kernel
theorem z_bv : ∀ (i : Fin 32), (0 : Int32).toBitVec.getLsbD i.val = false := by decide +kernel
theorem mk_bv (p : Nat → Bool) : ∀ (u : Nat), u ≤ 8 → ∀ i, i < 32 → (mkM p u).toBitVec.getLsbD i = (decide (i < u) && p i)
  | 0, _, i, hi => by rw [show mkM p 0 = 0 from rfl, z_bv ⟨i, hi⟩, decide_eq_false (Nat.not_lt_zero i)]; rfl
  | u + 1, hu, i, hi => by
    rw [show mkM p (u + 1) = mkM p u ||| (if p u = true then (1 : Int32) <<< (nI u &&& 31) else 0) from rfl, Int32.toBitVec_or, BitVec.getLsbD_or, mk_bv p u (by omega) i hi]
    by_cases h : p u = true
    · rw [if_pos h, sh_bv ⟨u, by omega⟩ ⟨i, hi⟩]
      by_cases q : i = u
      · subst q
        rw [decide_eq_true (show i = i from rfl), decide_eq_true (show i < i + 1 by omega), h]; simp
      · rw [decide_eq_false q, show decide (i < u + 1) = decide (i < u) from by congr 1; exact propext (by omega)]; simp
    · rw [if_neg h, z_bv ⟨i, hi⟩]
      by_cases q : i = u
      · subst q; rw [Bool.eq_false_iff.mpr h]; simp
      · rw [show decide (i < u + 1) = decide (i < u) from by congr 1; exact propext (by omega)]; simp
theorem bv_ext {a b : Int32} (h : ∀ i, i < 32 → a.toBitVec.getLsbD i = b.toBitVec.getLsbD i) : a = b := Int32.toBitVec_inj.mp (BitVec.eq_of_getLsbD_eq h)
theorem mk_andn (p q : Nat → Bool) {u : Nat} (hu : u ≤ 8) : mkM p u &&& (mkM q u ^^^ (-1)) = mkM (fun j => p j && !q j) u := by
  refine bv_ext fun i hi => ?_
  rw [Int32.toBitVec_and, Int32.toBitVec_xor, BitVec.getLsbD_and, BitVec.getLsbD_xor, mk_bv _ u hu i hi, mk_bv _ u hu i hi, mk_bv _ u hu i hi, m1_bv ⟨i, hi⟩]
  cases decide (i < u) <;> cases p i <;> cases q i <;> rfl
/-- what r reaches, over places below u -/
def Cl (E : Nat → Nat → Bool) (u r j : Nat) : Prop := ∀ p : Nat → Bool, (∀ j, j < u → E r j = true → p j = true) → (∀ i j, i < u → j < u → p i = true → E i j = true → p j = true) → p j = true
theorem Cl.one {E : Nat → Nat → Bool} {u r j : Nat} (hj : j < u) (h : E r j = true) : Cl E u r j := fun _ h1 _ => h1 j hj h
theorem Cl.step {E : Nat → Nat → Bool} {u r i j : Nat} (hi : i < u) (hj : j < u) (h : Cl E u r i) (g : E i j = true) : Cl E u r j := fun p h1 h2 => h2 i j hi hj (h p h1 h2) g
theorem Cl.tr {E : Nat → Nat → Bool} {u r i j : Nat} (hi : i < u) (h : Cl E u r i) (g : Cl E u i j) : Cl E u r j := fun p h1 h2 => g p (fun j hj e => h2 i j hi hj (h p h1 h2) e) h2
/-- p is what r reaches -/
def IsCl (E : Nat → Nat → Bool) (u r : Nat) (p : Nat → Bool) : Prop := (∀ j, j < u → p j = true → Cl E u r j) ∧ (∀ j, j < u → E r j = true → p j = true) ∧ ∀ i j, i < u → j < u → p i = true → E i j = true → p j = true
theorem IsCl.eq {E : Nat → Nat → Bool} {u r : Nat} {p q : Nat → Bool} (h : IsCl E u r p) (g : IsCl E u r q) : ∀ j, j < u → p j = q j := by
  intro j hj
  rw [Bool.eq_iff_iff]
  exact ⟨fun e => h.1 j hj e q g.2.1 g.2.2, fun e => g.1 j hj e p h.2.1 h.2.2⟩
def cnt (p : Nat → Bool) : Nat → Nat
  | 0 => 0
  | k + 1 => cnt p k + (if p k = true then 1 else 0)
theorem cnt_le (p : Nat → Bool) : ∀ k, cnt p k ≤ k
  | 0 => Nat.le_refl _
  | k + 1 => by have := cnt_le p k; show cnt p k + (if _ then 1 else 0) ≤ _; split <;> omega
theorem cnt_mono {p q : Nat → Bool} : ∀ k, (∀ j, j < k → p j = true → q j = true) → cnt p k ≤ cnt q k
  | 0, _ => Nat.le_refl _
  | k + 1, h => by
    have := cnt_mono k (fun j hj => h j (by omega))
    show cnt p k + (if p k = true then 1 else 0) ≤ cnt q k + (if q k = true then 1 else 0)
    by_cases a : p k = true
    · rw [if_pos a, if_pos (h k (by omega) a)]; omega
    · rw [if_neg a]; omega
theorem cnt_lt {p q : Nat → Bool} : ∀ k, (∀ j, j < k → p j = true → q j = true) → (∃ j, j < k ∧ ¬ p j = true ∧ q j = true) → cnt p k + 1 ≤ cnt q k
  | 0, _, ⟨j, hj, _⟩ => absurd hj (Nat.not_lt_zero j)
  | k + 1, h, ⟨j, hj, h1, h2⟩ => by
    show cnt p k + (if p k = true then 1 else 0) + 1 ≤ cnt q k + (if q k = true then 1 else 0)
    by_cases e : j = k
    · subst e
      have := cnt_mono j (fun j hj => h j (by omega))
      rw [if_neg h1, if_pos h2]; omega
    · have := cnt_lt k (fun j hj => h j (by omega)) ⟨j, by omega, h1, h2⟩
      by_cases a : p k = true
      · rw [if_pos a, if_pos (h k (by omega) a)]; omega
      · rw [if_neg a]; omega
theorem cnt_all {p : Nat → Bool} : ∀ k, k ≤ cnt p k → ∀ j, j < k → p j = true
  | 0, _, j, hj => absurd hj (Nat.not_lt_zero j)
  | k + 1, h, j, hj => by
    have h1 : k + 1 ≤ cnt p k + (if p k = true then 1 else 0) := h
    have := cnt_le p k
    by_cases a : p k = true
    · rw [if_pos a] at h1
      by_cases e : j = k
      · rw [e]; exact a
      · exact cnt_all k (by omega) j (by omega)
    · rw [if_neg a] at h1; omega
theorem moN_iff (s : Nat → Int32) (p : Nat → Bool) (j : Nat) : ∀ k, moN s p k j = true ↔ p j = true ∨ ∃ i, i < k ∧ p i = true ∧ stO s i j = true
  | 0 => ⟨fun h => .inl h, fun h => h.elim id (fun ⟨i, hi, _⟩ => absurd hi (Nat.not_lt_zero i))⟩
  | k + 1 => by
    show (moN s p k j || (p k && stO s k j)) = true ↔ _
    rw [Bool.or_eq_true, moN_iff s p j k, Bool.and_eq_true]
    constructor
    · rintro ((h | ⟨i, hi, h⟩) | h)
      · exact .inl h
      · exact .inr ⟨i, by omega, h⟩
      · exact .inr ⟨k, by omega, h⟩
    · rintro (h | ⟨i, hi, h⟩)
      · exact .inl (.inl h)
      · by_cases e : i = k
        · subst e; exact .inr h
        · exact .inl (.inr ⟨i, by omega, h⟩)
theorem rcN_sound (s : Nat → Int32) (u r : Nat) : ∀ t j, j < u → rcN s u r t j = true → Cl (stO s) u r j
  | 0, j, hj, h => Cl.one hj h
  | t + 1, j, hj, h => by
    rcases (moN_iff s _ j u).mp h with h | ⟨i, hi, h1, h2⟩
    · exact rcN_sound s u r t j hj h
    · exact Cl.step hi hj (rcN_sound s u r t i hi h1) h2
theorem rcN_has (s : Nat → Int32) (u r : Nat) : ∀ t j, stO s r j = true → rcN s u r t j = true
  | 0, _, h => h
  | t + 1, j, h => (moN_iff s _ j u).mpr (.inl (rcN_has s u r t j h))
theorem rcN_cl (s : Nat → Int32) (u r : Nat) : ∀ t, (∀ i j, i < u → j < u → rcN s u r t i = true → stO s i j = true → rcN s u r t j = true) ∨ t ≤ cnt (rcN s u r t) u
  | 0 => .inr (Nat.zero_le _)
  | t + 1 => by
    have up : ∀ j, rcN s u r t j = true → rcN s u r (t + 1) j = true := fun j h => (moN_iff s _ j u).mpr (.inl h)
    by_cases c : ∀ i j, i < u → j < u → rcN s u r t i = true → stO s i j = true → rcN s u r t j = true
    · refine .inl fun i j hi hj h1 h2 => up j ?_
      have back : rcN s u r t i = true := by
        rcases (moN_iff s _ i u).mp h1 with h | ⟨k, hk, h3, h4⟩
        · exact h
        · exact c k i hk hi h3 h4
      exact c i j hi hj back h2
    · rcases rcN_cl s u r t with h | h
      · exact absurd h c
      · refine .inr (Nat.le_trans (Nat.succ_le_succ h) (cnt_lt u (fun j _ => up j) ?_))
        have : ∃ i j, i < u ∧ j < u ∧ rcN s u r t i = true ∧ stO s i j = true ∧ ¬ rcN s u r t j = true := by
          by_cases d : ∃ i j, i < u ∧ j < u ∧ rcN s u r t i = true ∧ stO s i j = true ∧ ¬ rcN s u r t j = true
          · exact d
          · exact absurd (fun i j hi hj h1 h2 => Classical.byContradiction fun h3 => d ⟨i, j, hi, hj, h1, h2, h3⟩) c
        obtain ⟨i, j, hi, hj, h1, h2, h3⟩ := this
        exact ⟨j, hj, h3, (moN_iff s _ j u).mpr (.inr ⟨i, hi, h1, h2⟩)⟩
theorem rcN_IsCl (s : Nat → Int32) {u : Nat} (r : Nat) (hu : u ≤ 8) : IsCl (stO s) u r (rcN s u r 8) := by
  refine ⟨rcN_sound s u r 8, fun j _ h => rcN_has s u r 8 j h, ?_⟩
  rcases rcN_cl s u r 8 with h | h
  · exact h
  · exact fun i j _ hj _ _ => cnt_all u (by omega) j hj
/-- the class's search: reached and fresh behind m rounds -/
def fuN (E : Nat → Nat → Bool) (f : Nat → Bool) : Nat → Nat → Bool
  | 0 => fun _ => false
  | k + 1 => fun j => fuN E f k j || (f k && E k j)
theorem fuN_iff (E : Nat → Nat → Bool) (f : Nat → Bool) (j : Nat) : ∀ k, fuN E f k j = true ↔ ∃ i, i < k ∧ f i = true ∧ E i j = true
  | 0 => ⟨(fun h => by cases h), fun ⟨i, hi, _⟩ => absurd hi (Nat.not_lt_zero i)⟩
  | k + 1 => by
    show (fuN E f k j || (f k && E k j)) = true ↔ _
    rw [Bool.or_eq_true, fuN_iff E f j k, Bool.and_eq_true]
    constructor
    · rintro (⟨i, hi, h⟩ | h)
      · exact ⟨i, by omega, h⟩
      · exact ⟨k, by omega, h⟩
    · rintro ⟨i, hi, h⟩
      by_cases e : i = k
      · subst e; exact .inr h
      · exact .inl ⟨i, by omega, h⟩
def SI (E : Nat → Nat → Bool) (u r m : Nat) (p f : Nat → Bool) : Prop := (∀ j, j < u → p j = true → Cl E u r j) ∧ (∀ j, j < u → f j = true → Cl E u r j) ∧ (∀ j, j < u → E r j = true → p j = true ∨ f j = true) ∧ (∀ i j, i < u → j < u → p i = true → E i j = true → p j = true ∨ f j = true) ∧ (∀ j, j < u → f j = true → ¬ p j = true) ∧ m ≤ cnt p u
theorem SI_0 (E : Nat → Nat → Bool) (u r : Nat) : SI E u r 0 (fun _ => false) (E r) := ⟨(fun _ _ h => by cases h), fun j hj h => Cl.one hj h, fun _ _ h => .inr h, (fun _ _ _ _ h => by cases h), (fun _ _ _ h => by cases h), Nat.zero_le _⟩
theorem SI_end {E : Nat → Nat → Bool} {u r m : Nat} {p f : Nat → Bool} (h : SI E u r m p f) (hf : ∀ j, j < u → f j = false) : IsCl E u r p := by
  obtain ⟨a, b, c, d, e, g⟩ := h
  refine ⟨a, fun j hj q => (c j hj q).resolve_right (by rw [hf j hj]; decide), fun i j hi hj q w => (d i j hi hj q w).resolve_right (by rw [hf j hj]; decide)⟩
theorem SI_8 {E : Nat → Nat → Bool} {u r : Nat} {p f : Nat → Bool} (h : SI E u r 8 p f) (hu : u ≤ 8) : IsCl E u r p := by
  obtain ⟨a, b, c, d, e, g⟩ := h
  have all : ∀ j, j < u → p j = true := cnt_all u (by omega)
  exact ⟨a, fun j hj _ => all j hj, fun i j _ hj _ _ => all j hj⟩
theorem SI_s {E : Nat → Nat → Bool} {u r m : Nat} {p f : Nat → Bool} (h : SI E u r m p f) (hf : ¬ mkM f u = 0) : SI E u r (m + 1) (fun j => p j || f j) (fun j => fuN E f u j && !(p j || f j)) := by
  obtain ⟨a, b, c, d, e, g⟩ := h
  have ex : ∃ j, j < u ∧ f j = true := by
    by_cases z : ∃ j, j < u ∧ f j = true
    · exact z
    · exact absurd (mk_0 f u (fun j hj => Bool.eq_false_iff.mpr (fun q => z ⟨j, hj, q⟩))) hf
  have pf : ∀ j, (p j || f j) = true ↔ p j = true ∨ f j = true := fun j => by rw [Bool.or_eq_true]
  have ab : ∀ j, j < u → (p j || f j) = true → Cl E u r j := fun j hj q => ((pf j).mp q).elim (a j hj) (b j hj)
  refine ⟨ab, fun j hj q => ?_, fun j hj q => .inl ((pf j).mpr (c j hj q)), fun i j hi hj q w => ?_, fun j hj q w => ?_, ?_⟩
  · obtain ⟨q1, _⟩ := Bool.and_eq_true_iff.mp q
    obtain ⟨i, hi, h1, h2⟩ := (fuN_iff E f j u).mp q1
    exact Cl.step hi hj (b i hi h1) h2
  · by_cases z : (p j || f j) = true
    · exact .inl z
    · refine .inr ?_
      rcases (pf i).mp q with q | q
      · exact absurd ((pf j).mpr (d i j hi hj q w)) z
      · show (fuN E f u j && !(p j || f j)) = true
        rw [(fuN_iff E f j u).mpr ⟨i, hi, q, w⟩, Bool.eq_false_iff.mpr z]; rfl
  · obtain ⟨_, q2⟩ := Bool.and_eq_true_iff.mp q
    rw [show (p j || f j) = true from w] at q2; cases q2
  · obtain ⟨j, hj, q⟩ := ex
    exact Nat.le_trans (Nat.succ_le_succ g) (cnt_lt u (fun j _ q => (pf j).mpr (.inl q)) ⟨j, hj, e j hj q, (pf j).mpr (.inr q)⟩)
/-- the class's table -/
def wN (E : Nat → Nat → Bool) : Nat → Nat → Nat → Bool
  | 0 => E
  | b + 1 => fun r j => wN E b r j || (wN E b r b && wN E b b j)
theorem wN_b (E : Nat → Nat → Bool) (b : Nat) : wN E (b + 1) b = wN E b b := by
  funext j
  show (wN E b b j || (wN E b b b && wN E b b j)) = _
  cases wN E b b j <;> cases wN E b b b <;> rfl
theorem wN_up (E : Nat → Nat → Bool) (r j : Nat) : ∀ b, E r j = true → wN E b r j = true
  | 0, h => h
  | b + 1, h => by show (_ || _) = true; rw [wN_up E r j b h]; rfl
theorem wN_sound (E : Nat → Nat → Bool) (u : Nat) : ∀ b, b ≤ u → ∀ r j, r < u → j < u → wN E b r j = true → Cl E u r j
  | 0, _, r, j, _, hj, h => Cl.one hj h
  | b + 1, hb, r, j, hr, hj, h => by
    rcases Bool.or_eq_true_iff.mp h with h | h
    · exact wN_sound E u b (by omega) r j hr hj h
    · obtain ⟨h1, h2⟩ := Bool.and_eq_true_iff.mp h
      exact Cl.tr (by omega) (wN_sound E u b (by omega) r b hr (by omega) h1) (wN_sound E u b (by omega) b j (by omega) hj h2)
theorem wN_tr (E : Nat → Nat → Bool) : ∀ b r i j, i < b → wN E b r i = true → wN E b i j = true → wN E b r j = true
  | 0, _, i, _, hi, _, _ => absurd hi (Nat.not_lt_zero i)
  | b + 1, r, i, j, hi, h1, h2 => by
    have T := wN_tr E b
    have mk : ∀ x y, wN E b x y = true ∨ (wN E b x b = true ∧ wN E b b y = true) ↔ wN E (b + 1) x y = true := fun x y => by
      show _ ↔ (wN E b x y || (wN E b x b && wN E b b y)) = true
      rw [Bool.or_eq_true, Bool.and_eq_true]
    rw [← mk] at h1 h2 ⊢
    by_cases e : i = b
    · subst e
      have a1 : wN E i r i = true := h1.elim id And.left
      have a2 : wN E i i j = true := h2.elim id And.right
      exact .inr ⟨a1, a2⟩
    · have hib : i < b := by omega
      rcases h1 with h1 | ⟨h1, h1'⟩
      · rcases h2 with h2 | ⟨h2, h2'⟩
        · exact .inl (T r i j hib h1 h2)
        · exact .inr ⟨T r i b hib h1 h2, h2'⟩
      · rcases h2 with h2 | ⟨h2, h2'⟩
        · exact .inr ⟨h1, T b i j hib h1' h2⟩
        · exact .inr ⟨h1, h2'⟩
theorem wN_IsCl (E : Nat → Nat → Bool) (u : Nat) {r : Nat} (hr : r < u) : IsCl E u r (wN E u r) := ⟨fun j hj h => wN_sound E u u (Nat.le_refl _) r j hr hj h, fun j _ h => wN_up E r j u h, fun i j hi _ h1 h2 => wN_tr E u r i j hi h1 (wN_up E i j u h2)⟩
end
section
set_option maxRecDepth 100000 in
set_option maxHeartbeats 4000000 in
theorem ct_X0_nextOf (x : XW) (s : Nat → Int32) (w0 : Int32) (u : Nat) (hs : RS1 (cSt x.1 0) s w0) (hv : VS u s) (r : Nat) (hr : r < u) : CT MX0_nextOf 1 0 [.ref (16 * 0), .int (nI r)] (hp x) (Det (.inl (some (.int (mkM (stO s r) u)))) (hp x)) := by
  refine ct_of (by decide +kernel) (by decide) rfl (k := 2) (ls := [some (.ref (16 * 0)), some (.int (nI r)), none, none]) rfl (Nat.le_of_ble_eq_true rfl) ?_
  have eu := hv.un
  have hu8 := hv.1
  have hu : sSc (cSt x.1 0) 0 = nI u := hs.2.2.1.trans hv.2.1
  have L : ∀ k i, i + k = u → PW MX0_nextOf 1 0 4 [some (.ref (16 * 0)), some (.int (nI r)), some (.int (mkM (stO s r) i)), some (.int (nI i))] [] (hp x) (Det (.inl (some (.int (mkM (stO s r) u)))) (hp x)) := by
    intro k
    induction k with
    | zero =>
      intro i hi
      obtain rfl : i = u := by omega
      refine pw_iload_n (tk tkX0_nextOf 4 rfl) rfl ?_
      refine pw_aload_n (tk tkX0_nextOf 5 rfl) rfl ?_
      refine g4_rulesUsed (by first | assumption | decide | omega) (tk tkX0_nextOf 6 rfl) fkX0_15 ?_
      rw [hu]
      refine pw_icmp_ge (tgt := 42) (tk tkX0_nextOf 7 rfl) (by decide) (fun c9 => ?_) (fun c9 => absurd (Int32.le_refl _) c9)
      refine pw_iload_n (tk tkX0_nextOf 26 rfl) rfl ?_
      exact pw_ireturn (tk tkX0_nextOf 27 rfl) rfl (by decide) rfl ⟨rfl, rfl⟩
    | succ k ih =>
      intro i hi
      refine pw_iload_n (tk tkX0_nextOf 4 rfl) rfl ?_
      refine pw_aload_n (tk tkX0_nextOf 5 rfl) rfl ?_
      refine g4_rulesUsed (by first | assumption | decide | omega) (tk tkX0_nextOf 6 rfl) fkX0_15 ?_
      rw [hu]
      refine pw_icmp_ge (tgt := 42) (tk tkX0_nextOf 7 rfl) (by decide) (fun c9 => absurd c9 (nI_ge (by omega) (by omega))) (fun c9 => ?_)
      refine pw_aload_n (tk tkX0_nextOf 8 rfl) rfl ?_
      refine g4_rules (by first | assumption | decide | omega) (tk tkX0_nextOf 9 rfl) fkX0_21 ?_
      refine pw_iload_n (tk tkX0_nextOf 10 rfl) rfl ?_
      refine al_rules_e (e := r) (by first | assumption | decide | omega) (tk tkX0_nextOf 11 rfl) rfl (by first | decide | omega) ?_
      refine pw_aload_n (tk tkX0_nextOf 12 rfl) rfl ?_
      refine g4_rules (by first | assumption | decide | omega) (tk tkX0_nextOf 13 rfl) fkX0_21 ?_
      refine pw_iload_n (tk tkX0_nextOf 14 rfl) rfl ?_
      refine al_rules_e (e := i) (by first | assumption | decide | omega) (tk tkX0_nextOf 15 rfl) rfl (by first | decide | omega) ?_
      refine pw_cV (ct_X3_setsOff x 0 r 0 i (by decide) (by omega) (by decide) (by omega)) okX3_setsOff (tk tkX0_nextOf 16 rfl) mkX0_25 imX3_setsOff seX3_setsOff ((hp_st _ (by decide : 0 < 10) (by omega)).trans (stc_ru _ _ _ (by omega))) rfl rfl rfl (by decide) (by decide) (Nat.le_of_ble_eq_true rfl) ?_
      rw [so_st hs (by omega) (by omega)]
      refine pw_ifb (tgt := 36) (tk tkX0_nextOf 17 rfl) (by decide) (fun c27 => ?_) (fun c27 => ?_)
      · refine pw_inc3 (tk tkX0_nextOf 24 rfl) rfl (by decide) (nI_1 i) ?_
        refine pw_goto (tgt := 4) (tk tkX0_nextOf 25 rfl) (by decide) ?_
        rw [mkM_f c27]
        exact ih (i + 1) (by omega)
      · refine pw_iload_n (tk tkX0_nextOf 18 rfl) rfl ?_
        refine pw_iconst (v := 1) (tk tkX0_nextOf 19 rfl) (by decide) ?_
        refine pw_iload_n (tk tkX0_nextOf 20 rfl) rfl ?_
        refine pw_ishl (tk tkX0_nextOf 21 rfl) ?_
        refine pw_ior (tk tkX0_nextOf 22 rfl) ?_
        refine pw_ist2 (tk tkX0_nextOf 23 rfl) rfl (by decide) ?_
        refine pw_inc3 (tk tkX0_nextOf 24 rfl) rfl (by decide) (nI_1 i) ?_
        refine pw_goto (tgt := 4) (tk tkX0_nextOf 25 rfl) (by decide) ?_
        rw [mkM_t c27]
        exact ih (i + 1) (by omega)
  refine pw_iconst (v := 0) (tk tkX0_nextOf 0 rfl) (by decide) ?_
  refine pw_ist2 (tk tkX0_nextOf 1 rfl) rfl (by decide) ?_
  refine pw_iconst (v := 0) (tk tkX0_nextOf 2 rfl) (by decide) ?_
  refine pw_ist3 (tk tkX0_nextOf 3 rfl) rfl (by decide) ?_
  exact L u 0 (by omega)
set_option maxRecDepth 100000 in
set_option maxHeartbeats 4000000 in
theorem ct_X0_search (x : XW) (s : Nat → Int32) (w0 : Int32) (u : Nat) (hs : RS1 (cSt x.1 0) s w0) (hv : VS u s) (r : Nat) (hr : r < u) : CT MX0_search 2 0 [.ref 162, .ref (16 * 0), .int (nI r)] (hp x) (Det (.inl (some (.int (mkM (rcN s u r 8) u)))) (hp x)) := by
  refine ct_of (by decide +kernel) (by decide) rfl (k := 5) (ls := [some (.ref 162), some (.ref (16 * 0)), some (.int (nI r)), none, none, none, none, none]) rfl (Nat.le_of_ble_eq_true rfl) ?_
  have eu := hv.un
  have hu8 := hv.1
  have hu : sSc (cSt x.1 0) 0 = nI u := hs.2.2.1.trans hv.2.1
  have fin : ∀ p, IsCl (stO s) u r p → mkM p u = mkM (rcN s u r 8) u := fun p h => mkM_cg u (h.eq (rcN_IsCl s r hu8))
  have J : ∀ (m : Nat) (p f : Nat → Bool), m < 8 → (∀ b6 b7, PW MX0_search 2 0 12 [some (.ref 162), some (.ref (16 * 0)), some (.int (nI r)), some (.int (mkM (fun j => p j || f j) u)), some (.int (mkM (fun j => fuN (stO s) f u j && !(p j || f j)) u)), some (.int (nI (m + 1))), b6, b7] [] (hp x) (Det (.inl (some (.int (mkM (rcN s u r 8) u)))) (hp x))) → ∀ k i, i + k = u → PW MX0_search 2 0 35 [some (.ref 162), some (.ref (16 * 0)), some (.int (nI r)), some (.int (mkM (fun j => p j || f j) u)), some (.int (mkM f u)), some (.int (nI m)), some (.int (mkM (fuN (stO s) f i) u)), some (.int (nI i))] [] (hp x) (Det (.inl (some (.int (mkM (rcN s u r 8) u)))) (hp x)) := by
    intro m p f hm H k
    induction k with
    | zero =>
      intro i hi
      obtain rfl : i = u := by omega
      refine pw_iload (tk tkX0_search 21 rfl) rfl ?_
      refine pw_aload_n (tk tkX0_search 22 rfl) rfl ?_
      refine g4_rulesUsed (by first | assumption | decide | omega) (tk tkX0_search 23 rfl) fkX0_15 ?_
      rw [hu]
      refine pw_icmp_ge (tgt := 71) (tk tkX0_search 24 rfl) (by decide) (fun c41 => ?_) (fun c41 => absurd (Int32.le_refl _) c41)
      refine pw_iload (tk tkX0_search 39 rfl) rfl ?_
      refine pw_iload_n (tk tkX0_search 40 rfl) rfl ?_
      refine pw_iconst (v := (-1)) (tk tkX0_search 41 rfl) (by decide) ?_
      refine pw_ixor (tk tkX0_search 42 rfl) ?_
      refine pw_iand (tk tkX0_search 43 rfl) ?_
      rw [mk_andn _ _ hu8]
      refine pw_ist4 (tk tkX0_search 44 rfl) rfl (by decide) ?_
      refine pw_inc5 (tk tkX0_search 45 rfl) rfl (by decide) (nI_1 m) ?_
      refine pw_goto (tgt := 12) (tk tkX0_search 46 rfl) (by decide) ?_
      exact H _ _
    | succ k ih =>
      intro i hi
      have e1 : f i = true → mkM (fuN (stO s) f i) u ||| mkM (stO s i) u = mkM (fuN (stO s) f (i + 1)) u := fun h => by rw [mk_or]; exact mkM_cg u (fun j _ => by show _ = (_ || (f i && _)); rw [h, Bool.true_and])
      have e0 : f i = false → mkM (fuN (stO s) f i) u = mkM (fuN (stO s) f (i + 1)) u := fun h => mkM_cg u (fun j _ => by show _ = (_ || (f i && _)); rw [h, Bool.false_and, Bool.or_false])
      refine pw_iload (tk tkX0_search 21 rfl) rfl ?_
      refine pw_aload_n (tk tkX0_search 22 rfl) rfl ?_
      refine g4_rulesUsed (by first | assumption | decide | omega) (tk tkX0_search 23 rfl) fkX0_15 ?_
      rw [hu]
      refine pw_icmp_ge (tgt := 71) (tk tkX0_search 24 rfl) (by decide) (fun c41 => absurd c41 (nI_ge (by omega) (by omega))) (fun c41 => ?_)
      refine pw_iload (tk tkX0_search 25 rfl) rfl ?_
      refine pw_iconst (v := 1) (tk tkX0_search 26 rfl) (by decide) ?_
      refine pw_iload (tk tkX0_search 27 rfl) rfl ?_
      refine pw_ishl (tk tkX0_search 28 rfl) ?_
      refine pw_iand (tk tkX0_search 29 rfl) ?_
      refine pw_if_eq (tgt := 65) (tk tkX0_search 30 rfl) (by decide) (fun c51 => ?_) (fun c51 => ?_)
      · refine pw_inc7 (tk tkX0_search 37 rfl) rfl (by decide) (nI_1 i) ?_
        refine pw_goto (tgt := 35) (tk tkX0_search 38 rfl) (by decide) ?_
        rw [e0 ((mk_and0 f hu8 (show i < u by omega)).mp c51)]
        exact ih (i + 1) (by omega)
      · refine pw_iload (tk tkX0_search 31 rfl) rfl ?_
        refine pw_aload_n (tk tkX0_search 32 rfl) rfl ?_
        refine pw_iload (tk tkX0_search 33 rfl) rfl ?_
        refine pw_cS (ct_X0_nextOf x s w0 u hs hv i (by omega)) okX0_nextOf (tk tkX0_search 34 rfl) mkX0_31 stX0_nextOf rfl rfl (by decide) (by decide) (Nat.le_of_ble_eq_true rfl) ?_
        refine pw_ior (tk tkX0_search 35 rfl) ?_
        refine pw_ist6 (tk tkX0_search 36 rfl) rfl (by decide) ?_
        refine pw_inc7 (tk tkX0_search 37 rfl) rfl (by decide) (nI_1 i) ?_
        refine pw_goto (tgt := 35) (tk tkX0_search 38 rfl) (by decide) ?_
        rw [e1 (by by_cases z : f i = true; exact z; exact absurd ((mk_and0 f hu8 (show i < u by omega)).mpr (Bool.eq_false_iff.mpr z)) c51)]
        exact ih (i + 1) (by omega)
  have L : ∀ k m, m + k = 8 → ∀ (p f : Nat → Bool) b6 b7, SI (stO s) u r m p f → PW MX0_search 2 0 12 [some (.ref 162), some (.ref (16 * 0)), some (.int (nI r)), some (.int (mkM p u)), some (.int (mkM f u)), some (.int (nI m)), b6, b7] [] (hp x) (Det (.inl (some (.int (mkM (rcN s u r 8) u)))) (hp x)) := by
    intro k
    induction k with
    | zero =>
      intro m hm p f b6 b7 hI
      obtain rfl : m = 8 := by omega
      refine pw_iload (tk tkX0_search 8 rfl) rfl ?_
      refine pw_bipush (v := 8) (tk tkX0_search 9 rfl) (by decide) ?_
      refine pw_icmp_ge (tgt := 85) (tk tkX0_search 10 rfl) (by decide) (fun c16 => ?_) (fun c16 => absurd (Int32.le_refl _) c16)
      refine pw_iload_n (tk tkX0_search 47 rfl) rfl ?_
      exact pw_ireturn (tk tkX0_search 48 rfl) rfl (by decide) rfl ⟨by rw [fin p (SI_8 hI hu8)], rfl⟩
    | succ k ih =>
      intro m hm p f b6 b7 hI
      refine pw_iload (tk tkX0_search 8 rfl) rfl ?_
      refine pw_bipush (v := 8) (tk tkX0_search 9 rfl) (by decide) ?_
      refine pw_icmp_ge (tgt := 85) (tk tkX0_search 10 rfl) (by decide) (fun c16 => absurd c16 (nI_ge (b := 8) (by omega) (by decide))) (fun c16 => ?_)
      refine pw_iload (tk tkX0_search 11 rfl) rfl ?_
      refine pw_if_eq (tgt := 85) (tk tkX0_search 12 rfl) (by decide) (fun c21 => ?_) (fun c21 => ?_)
      · refine pw_iload_n (tk tkX0_search 47 rfl) rfl ?_
        exact pw_ireturn (tk tkX0_search 48 rfl) rfl (by decide) rfl ⟨by rw [fin p (SI_end hI (fun j hj => by by_cases z : f j = true; exact absurd c21 (mk_ne f hu8 hj z); exact Bool.eq_false_iff.mpr z))], rfl⟩
      · refine pw_iload_n (tk tkX0_search 13 rfl) rfl ?_
        refine pw_iload (tk tkX0_search 14 rfl) rfl ?_
        refine pw_ior (tk tkX0_search 15 rfl) ?_
        rw [mk_or]
        refine pw_ist3 (tk tkX0_search 16 rfl) rfl (by decide) ?_
        refine pw_iconst (v := 0) (tk tkX0_search 17 rfl) (by decide) ?_
        refine pw_ist6 (tk tkX0_search 18 rfl) rfl (by decide) ?_
        refine pw_iconst (v := 0) (tk tkX0_search 19 rfl) (by decide) ?_
        refine pw_ist7 (tk tkX0_search 20 rfl) rfl (by decide) ?_
        have q := J m p f (by omega) (fun b6 b7 => ih (m + 1) (by omega) (fun j => p j || f j) (fun j => fuN (stO s) f u j && !(p j || f j)) b6 b7 (SI_s hI c21)) u 0 (by omega)
        rw [show mkM (fuN (stO s) f 0) u = 0 from mk_0 _ u (fun _ _ => rfl)] at q
        exact q
  refine pw_iconst (v := 0) (tk tkX0_search 0 rfl) (by decide) ?_
  refine pw_ist3 (tk tkX0_search 1 rfl) rfl (by decide) ?_
  refine pw_aload_n (tk tkX0_search 2 rfl) rfl ?_
  refine pw_iload_n (tk tkX0_search 3 rfl) rfl ?_
  refine pw_cS (ct_X0_nextOf x s w0 u hs hv r hr) okX0_nextOf (tk tkX0_search 4 rfl) mkX0_31 stX0_nextOf rfl rfl (by decide) (by decide) (Nat.le_of_ble_eq_true rfl) ?_
  refine pw_ist4 (tk tkX0_search 5 rfl) rfl (by decide) ?_
  refine pw_iconst (v := 0) (tk tkX0_search 6 rfl) (by decide) ?_
  refine pw_ist5 (tk tkX0_search 7 rfl) rfl (by decide) ?_
  have q := L 8 0 (by omega) (fun _ => false) (stO s r) none none (SI_0 _ _ _)
  rw [show mkM (fun _ => false) u = 0 from mk_0 _ u (fun _ _ => rfl)] at q
  exact q
def tW (E : Nat → Nat → Bool) (b r : Nat) : Nat → Nat → Bool := fun i => if i < r then wN E (b + 1) i else wN E b i
theorem tW_0 (E : Nat → Nat → Bool) (b : Nat) : tW E b 0 = wN E b := by funext i; unfold tW; rw [if_neg (by omega)]
/-- the table's rows below u -/
def TR (x : XW) (u : Nat) (T : Nat → Nat → Bool) : Prop := ∀ i, i < u → cCt x.1 i = mkM (T i) u
theorem TR.cg {x : XW} {u : Nat} {T S : Nat → Nat → Bool} (h : TR x u T) (e : ∀ i, i < u → T i = S i) : TR x u S := fun i hi => by rw [← e i hi]; exact h i hi
def FX (x y : XW) : Prop := ∃ f, y = uC3 x f
theorem FX.go {x y : XW} (h : FX x y) (f : Nat → Int32) : FX x (uC3 y f) := by obtain ⟨g, rfl⟩ := h; exact ⟨f, rfl⟩
theorem FX.st {x y : XW} (h : FX x y) : cSt y.1 = cSt x.1 := by obtain ⟨g, rfl⟩ := h; rfl
theorem FX.rc {a : AM} {x y : XW} (h : FX x y) (hc : RC a x.1) : RC a y.1 ∧ y.2 = x.2 := by obtain ⟨g, rfl⟩ := h; exact ⟨hc, rfl⟩
def ftQ (x : XW) (u : Nat) (E : Nat → Nat → Bool) : Out → Hp → Prop := fun o h2 => o = .inl none ∧ ∃ y, h2 = hp y ∧ FX x y ∧ TR y u (wN E u)
set_option maxRecDepth 100000 in
set_option maxHeartbeats 4000000 in
theorem ct_X0_fillTable (x : XW) (s : Nat → Int32) (w0 : Int32) (u : Nat) (hs : RS1 (cSt x.1 0) s w0) (hv : VS u s)  : CT MX0_fillTable 2 0 [.ref 162, .ref (16 * 0)] (hp x) (ftQ x u (stO s)) := by
  refine ct_of (by decide +kernel) (by decide) rfl (k := 2) (ls := [some (.ref 162), some (.ref (16 * 0)), none, none]) rfl (Nat.le_of_ble_eq_true rfl) ?_
  have eu := hv.un
  have hu8 := hv.1
  have hu : sSc (cSt x.1 0) 0 = nI u := hs.2.2.1.trans hv.2.1
  have huy : ∀ y, FX x y → sSc (cSt y.1 0) 0 = nI u := fun y h => by rw [h.st]; exact hu
  have hsy : ∀ y, FX x y → RS1 (cSt y.1 0) s w0 := fun y h => by rw [h.st]; exact hs
  have K3 : ∀ b, b < u → (∀ y b3, FX x y → TR y u (wN (stO s) (b + 1)) → PW MX0_fillTable 2 0 29 [some (.ref 162), some (.ref (16 * 0)), some (.int (nI (b + 1))), b3] [] (hp y) (ftQ x u (stO s))) → ∀ k i, i + k = u → ∀ y, FX x y → TR y u (tW (stO s) b i) → PW MX0_fillTable 2 0 39 [some (.ref 162), some (.ref (16 * 0)), some (.int (nI b)), some (.int (nI i))] [] (hp y) (ftQ x u (stO s)) := by
    intro b hb H k
    induction k with
    | zero =>
      intro i hi y fy ty
      obtain rfl : i = u := by omega
      refine pw_iload_n (tk tkX0_fillTable 23 rfl) rfl ?_
      refine pw_aload_n (tk tkX0_fillTable 24 rfl) rfl ?_
      refine g4_rulesUsed (by first | assumption | decide | omega) (tk tkX0_fillTable 25 rfl) fkX0_15 ?_
      rw [huy y fy]
      refine pw_icmp_ge (tgt := 81) (tk tkX0_fillTable 26 rfl) (by decide) (fun c44 => ?_) (fun c44 => absurd (Int32.le_refl _) c44)
      refine pw_inc2 (tk tkX0_fillTable 49 rfl) rfl (by decide) (nI_1 b) ?_
      refine pw_goto (tgt := 29) (tk tkX0_fillTable 50 rfl) (by decide) ?_
      exact H y _ fy (ty.cg (fun j hj => if_pos hj))
    | succ k ih =>
      intro i hi y fy ty
      have hiu : i < u := by omega
      have ti : cCt y.1 i = mkM (wN (stO s) b i) u := by rw [ty i hiu, show tW (stO s) b i i = wN (stO s) b i from if_neg (by omega)]
      have tb : cCt y.1 b = mkM (wN (stO s) b b) u := by
        rw [ty b hb]
        unfold tW
        by_cases q : b < i
        · rw [if_pos q, wN_b]
        · rw [if_neg q]
      have nt : ∀ v, v = mkM (wN (stO s) (b + 1) i) u → TR (uC3 y (upd (cCt y.1) i v)) u (tW (stO s) b (i + 1)) := fun v hv j hj => by
        show upd (cCt y.1) i v j = _
        unfold upd tW
        by_cases q : j = i
        · subst q; rw [if_pos rfl, if_pos (by omega)]; exact hv
        · rw [if_neg q]
          by_cases w : j < i
          · rw [if_pos (by omega), ty j hj, show tW (stO s) b i j = wN (stO s) (b + 1) j from if_pos w]
          · rw [if_neg (by omega), ty j hj, show tW (stO s) b i j = wN (stO s) b j from if_neg w]
      have sk : wN (stO s) b i b = false → TR y u (tW (stO s) b (i + 1)) := fun q => ty.cg (fun j hj => by
        unfold tW
        by_cases w : j < i
        · rw [if_pos w, if_pos (by omega)]
        · rw [if_neg w]
          by_cases z : j = i
          · rw [if_pos (by omega), z]
            funext c
            show _ = (wN (stO s) b i c || (wN (stO s) b i b && _))
            rw [q, Bool.false_and, Bool.or_false]
          · rw [if_neg (by omega)])
      have go : wN (stO s) b i b = true → mkM (wN (stO s) b i) u ||| mkM (wN (stO s) b b) u = mkM (wN (stO s) (b + 1) i) u := fun q => by
        rw [mk_or]; exact mkM_cg u (fun j _ => by show _ = (_ || (wN (stO s) b i b && _)); rw [q, Bool.true_and])
      refine pw_iload_n (tk tkX0_fillTable 23 rfl) rfl ?_
      refine pw_aload_n (tk tkX0_fillTable 24 rfl) rfl ?_
      refine g4_rulesUsed (by first | assumption | decide | omega) (tk tkX0_fillTable 25 rfl) fkX0_15 ?_
      rw [huy y fy]
      refine pw_icmp_ge (tgt := 81) (tk tkX0_fillTable 26 rfl) (by decide) (fun c44 => absurd c44 (nI_ge (by omega) (by omega))) (fun c44 => ?_)
      refine pw_aload_n (tk tkX0_fillTable 27 rfl) rfl ?_
      refine g0_table (tk tkX0_fillTable 28 rfl) fkX0_9 ?_
      refine pw_iload_n (tk tkX0_fillTable 29 rfl) rfl ?_
      refine al_table_e (e := i) (tk tkX0_fillTable 30 rfl) (by first | rfl | simp only [lit_nI, nI_add, pk_mul]) (by first | decide | omega) ?_
      rw [ti]
      refine pw_iconst (v := 1) (tk tkX0_fillTable 31 rfl) (by decide) ?_
      refine pw_iload_n (tk tkX0_fillTable 32 rfl) rfl ?_
      refine pw_ishl (tk tkX0_fillTable 33 rfl) ?_
      refine pw_iand (tk tkX0_fillTable 34 rfl) ?_
      refine pw_if_eq (tgt := 75) (tk tkX0_fillTable 35 rfl) (by decide) (fun c57 => ?_) (fun c57 => ?_)
      · refine pw_inc3 (tk tkX0_fillTable 47 rfl) rfl (by decide) (nI_1 i) ?_
        refine pw_goto (tgt := 39) (tk tkX0_fillTable 48 rfl) (by decide) ?_
        exact ih (i + 1) (by omega) y fy (sk ((mk_and0 _ hu8 hb).mp c57))
      · refine pw_aload_n (tk tkX0_fillTable 36 rfl) rfl ?_
        refine g0_table (tk tkX0_fillTable 37 rfl) fkX0_9 ?_
        refine pw_iload_n (tk tkX0_fillTable 38 rfl) rfl ?_
        refine pw_dup2 (tk tkX0_fillTable 39 rfl) rfl rfl ?_
        refine al_table_e (e := i) (tk tkX0_fillTable 40 rfl) (by first | rfl | simp only [lit_nI, nI_add, pk_mul]) (by first | decide | omega) ?_
        rw [ti]
        refine pw_aload_n (tk tkX0_fillTable 41 rfl) rfl ?_
        refine g0_table (tk tkX0_fillTable 42 rfl) fkX0_9 ?_
        refine pw_iload_n (tk tkX0_fillTable 43 rfl) rfl ?_
        refine al_table_e (e := b) (tk tkX0_fillTable 44 rfl) (by first | rfl | simp only [lit_nI, nI_add, pk_mul]) (by first | decide | omega) ?_
        rw [tb]
        refine pw_ior (tk tkX0_fillTable 45 rfl) ?_
        rw [go (by by_cases z : wN (stO s) b i b = true; exact z; exact absurd ((mk_and0 _ hu8 hb).mpr (Bool.eq_false_iff.mpr z)) c57)]
        refine as_table_e (e := i) (tk tkX0_fillTable 46 rfl) (by first | rfl | simp only [lit_nI, nI_add, pk_mul]) (by first | decide | omega) ?_
        refine pw_inc3 (tk tkX0_fillTable 47 rfl) rfl (by decide) (nI_1 i) ?_
        refine pw_goto (tgt := 39) (tk tkX0_fillTable 48 rfl) (by decide) ?_
        exact ih (i + 1) (by omega) _ (fy.go _) (nt _ rfl)
  have K2 : ∀ k b, b + k = u → ∀ y b3, FX x y → TR y u (wN (stO s) b) → PW MX0_fillTable 2 0 29 [some (.ref 162), some (.ref (16 * 0)), some (.int (nI b)), b3] [] (hp y) (ftQ x u (stO s)) := by
    intro k
    induction k with
    | zero =>
      intro b hb y b3 fy ty
      obtain rfl : b = u := by omega
      refine pw_iload_n (tk tkX0_fillTable 17 rfl) rfl ?_
      refine pw_aload_n (tk tkX0_fillTable 18 rfl) rfl ?_
      refine g4_rulesUsed (by first | assumption | decide | omega) (tk tkX0_fillTable 19 rfl) fkX0_15 ?_
      rw [huy y fy]
      refine pw_icmp_ge (tgt := 87) (tk tkX0_fillTable 20 rfl) (by decide) (fun c34 => ?_) (fun c34 => absurd (Int32.le_refl _) c34)
      exact pw_return (tk tkX0_fillTable 51 rfl) rfl (by decide) ⟨rfl, y, rfl, fy, ty⟩
    | succ k ih =>
      intro b hb y b3 fy ty
      refine pw_iload_n (tk tkX0_fillTable 17 rfl) rfl ?_
      refine pw_aload_n (tk tkX0_fillTable 18 rfl) rfl ?_
      refine g4_rulesUsed (by first | assumption | decide | omega) (tk tkX0_fillTable 19 rfl) fkX0_15 ?_
      rw [huy y fy]
      refine pw_icmp_ge (tgt := 87) (tk tkX0_fillTable 20 rfl) (by decide) (fun c34 => absurd c34 (nI_ge (by omega) (by omega))) (fun c34 => ?_)
      refine pw_iconst (v := 0) (tk tkX0_fillTable 21 rfl) (by decide) ?_
      refine pw_ist3 (tk tkX0_fillTable 22 rfl) rfl (by decide) ?_
      exact K3 b (by omega) (fun y b3 fy ty => ih (b + 1) (by omega) y b3 fy ty) u 0 (by omega) y fy (by rw [tW_0]; exact ty)
  have K1 : ∀ k i, i + k = u → ∀ y, FX x y → (∀ j, j < i → cCt y.1 j = mkM (stO s j) u) → PW MX0_fillTable 2 0 2 [some (.ref 162), some (.ref (16 * 0)), some (.int (nI i)), none] [] (hp y) (ftQ x u (stO s)) := by
    intro k
    induction k with
    | zero =>
      intro i hi y fy ty
      obtain rfl : i = u := by omega
      refine pw_iload_n (tk tkX0_fillTable 2 rfl) rfl ?_
      refine pw_aload_n (tk tkX0_fillTable 3 rfl) rfl ?_
      refine g4_rulesUsed (by first | assumption | decide | omega) (tk tkX0_fillTable 4 rfl) fkX0_15 ?_
      rw [huy y fy]
      refine pw_icmp_ge (tgt := 27) (tk tkX0_fillTable 5 rfl) (by decide) (fun c7 => ?_) (fun c7 => absurd (Int32.le_refl _) c7)
      refine pw_iconst (v := 0) (tk tkX0_fillTable 15 rfl) (by decide) ?_
      refine pw_ist2 (tk tkX0_fillTable 16 rfl) rfl (by decide) ?_
      exact K2 i 0 (by omega) y _ fy ty
    | succ k ih =>
      intro i hi y fy ty
      refine pw_iload_n (tk tkX0_fillTable 2 rfl) rfl ?_
      refine pw_aload_n (tk tkX0_fillTable 3 rfl) rfl ?_
      refine g4_rulesUsed (by first | assumption | decide | omega) (tk tkX0_fillTable 4 rfl) fkX0_15 ?_
      rw [huy y fy]
      refine pw_icmp_ge (tgt := 27) (tk tkX0_fillTable 5 rfl) (by decide) (fun c7 => absurd c7 (nI_ge (by omega) (by omega))) (fun c7 => ?_)
      refine pw_aload_n (tk tkX0_fillTable 6 rfl) rfl ?_
      refine g0_table (tk tkX0_fillTable 7 rfl) fkX0_9 ?_
      refine pw_iload_n (tk tkX0_fillTable 8 rfl) rfl ?_
      refine pw_aload_n (tk tkX0_fillTable 9 rfl) rfl ?_
      refine pw_iload_n (tk tkX0_fillTable 10 rfl) rfl ?_
      refine pw_cS (ct_X0_nextOf y s w0 u (hsy y fy) hv i (by omega)) okX0_nextOf (tk tkX0_fillTable 11 rfl) mkX0_31 stX0_nextOf rfl rfl (by decide) (by decide) (Nat.le_of_ble_eq_true rfl) ?_
      refine as_table_e (e := i) (tk tkX0_fillTable 12 rfl) (by first | rfl | simp only [lit_nI, nI_add, pk_mul]) (by first | decide | omega) ?_
      refine pw_inc2 (tk tkX0_fillTable 13 rfl) rfl (by decide) (nI_1 i) ?_
      refine pw_goto (tgt := 2) (tk tkX0_fillTable 14 rfl) (by decide) ?_
      refine ih (i + 1) (by omega) _ (fy.go _) (fun j hj => ?_)
      show upd (cCt y.1) i _ j = _
      unfold upd
      by_cases q : j = i
      · rw [if_pos q, q]
      · rw [if_neg q]; exact ty j (by omega)
  refine pw_iconst (v := 0) (tk tkX0_fillTable 0 rfl) (by decide) ?_
  refine pw_ist2 (tk tkX0_fillTable 1 rfl) rfl (by decide) ?_
  exact K1 u 0 (by omega) x ⟨_, rfl⟩ (fun j hj => absurd hj (Nat.not_lt_zero j))
set_option maxRecDepth 100000 in
set_option maxHeartbeats 4000000 in
theorem ct_X7_reachOf (x : XW) (a : AM) (hc : RC a x.1) (hv : VS (uN (aS a)) (aS a)) (r : Int32) (h1 : inR r 0 (aS a 25 - 1) = true) : CT MX7_reachOf 30 0 [.ref 160, .int r] (hp x) (CQ [(1, "java/lang/IndexOutOfBoundsException")] x (sreachOf a r)) := by
  refine ct_of (by decide +kernel) (by decide) rfl (k := 0) (ls := [some (.ref 160), some (.int r)]) rfl (Nat.le_of_ble_eq_true rfl) ?_
  obtain ⟨u, eu⟩ : ∃ u, u = uN (aS a) := ⟨_, rfl⟩
  have hvu := hv
  rw [← eu] at hvu
  have hu8 := hvu.1
  have hu : sSc (cSt x.1 0) 0 = nI u := hc.1.2.2.1.trans hvu.2.1
  have e25 : aS a 25 = nI u := hvu.2.1
  refine pw_aload_n (tk tkX7_reachOf 0 rfl) rfl ?_
  refine pw_iload_n (tk tkX7_reachOf 1 rfl) rfl ?_
  refine pw_callV (ct0_X7_checkRule x u hu hu8 _ (by rw [← e25]; exact h1)) okX7_checkRule (tk tkX7_reachOf 2 rfl) mkX7_89 imX7_checkRule seX7_checkRule (hp_ot _ 0) rfl rfl rfl (by decide) (by decide) (Nat.le_of_ble_eq_true rfl) (fun r h2 q => ?_) (fun E h2 q => by obtain ⟨k1, rfl, rfl⟩ := ck_r q; exact pt_out rfl rfl (CQ.thr hc rfl List.mem_cons_self (if_pos (show inR r 0 (aS a 25 - 1) = false from by rw [e25]; exact k1))))
  obtain ⟨k1, rfl, rfl⟩ := ck_l q
  obtain ⟨r1, hr, er, er2⟩ := inR_lt rfl (by omega) k1
  refine pw_aload_n (tk tkX7_reachOf 3 rfl) rfl ?_
  refine g7_chains (tk tkX7_reachOf 4 rfl) fkX7_26 ?_
  refine pw_aload_n (tk tkX7_reachOf 5 rfl) rfl ?_
  refine g7_now (tk tkX7_reachOf 6 rfl) fkX7_10 ?_
  refine pw_iload_n (tk tkX7_reachOf 7 rfl) rfl ?_
  refine pw_cV (show CT MX0_search 2 0 [.ref 162, .ref (16 * 0), .int r] (hp x) (Det (.inl (some (.int (mkM (rcN (aS a) u r1 8) u)))) (hp x)) from by rw [er]; exact ct_X0_search x (aS a) _ u hc.1 hvu r1 hr) okX0_search (tk tkX7_reachOf 8 rfl) mkX7_212 imX0_search seX0_search (hp_ot _ 2) rfl rfl rfl (by decide) (by decide) (Nat.le_of_ble_eq_true rfl) ?_
  exact pw_ireturn (tk tkX7_reachOf 9 rfl) rfl (by decide) rfl (CQ.ret hc rfl ((if_neg (ne_f (show inR r 0 (aS a 25 - 1) = true from by rw [e25]; exact k1))).trans (by rw [er2, ← eu])))
set_option maxRecDepth 100000 in
set_option maxHeartbeats 4000000 in
theorem ct_X7_reachByTable (x : XW) (a : AM) (hc : RC a x.1) (hv : VS (uN (aS a)) (aS a)) (r : Int32) (h1 : inR r 0 (aS a 25 - 1) = true) : CT MX7_reachByTable 30 0 [.ref 160, .int r] (hp x) (CQ [(1, "java/lang/IndexOutOfBoundsException")] x (sreachByTable a r)) := by
  refine ct_of (by decide +kernel) (by decide) rfl (k := 0) (ls := [some (.ref 160), some (.int r)]) rfl (Nat.le_of_ble_eq_true rfl) ?_
  obtain ⟨u, eu⟩ : ∃ u, u = uN (aS a) := ⟨_, rfl⟩
  have hvu := hv
  rw [← eu] at hvu
  have hu8 := hvu.1
  have hu : sSc (cSt x.1 0) 0 = nI u := hc.1.2.2.1.trans hvu.2.1
  have e25 : aS a 25 = nI u := hvu.2.1
  refine pw_aload_n (tk tkX7_reachByTable 0 rfl) rfl ?_
  refine pw_iload_n (tk tkX7_reachByTable 1 rfl) rfl ?_
  refine pw_callV (ct0_X7_checkRule x u hu hu8 _ (by rw [← e25]; exact h1)) okX7_checkRule (tk tkX7_reachByTable 2 rfl) mkX7_89 imX7_checkRule seX7_checkRule (hp_ot _ 0) rfl rfl rfl (by decide) (by decide) (Nat.le_of_ble_eq_true rfl) (fun r h2 q => ?_) (fun E h2 q => by obtain ⟨k1, rfl, rfl⟩ := ck_r q; exact pt_out rfl rfl (CQ.thr hc rfl List.mem_cons_self (if_pos (show inR r 0 (aS a 25 - 1) = false from by rw [e25]; exact k1))))
  obtain ⟨k1, rfl, rfl⟩ := ck_l q
  obtain ⟨r1, hr, er, er2⟩ := inR_lt rfl (by omega) k1
  refine pw_aload_n (tk tkX7_reachByTable 3 rfl) rfl ?_
  refine g7_chains (tk tkX7_reachByTable 4 rfl) fkX7_26 ?_
  refine pw_aload_n (tk tkX7_reachByTable 5 rfl) rfl ?_
  refine g7_now (tk tkX7_reachByTable 6 rfl) fkX7_10 ?_
  refine pw_callV (ct_X0_fillTable x (aS a) _ u hc.1 hvu) okX0_fillTable (tk tkX7_reachByTable 7 rfl) mkX7_216 imX0_fillTable seX0_fillTable (hp_ot _ 2) rfl rfl rfl (by decide) (by decide) (Nat.le_of_ble_eq_true rfl) (fun r h2 q => ?_) (fun E h2 q => by cases q.1)
  obtain ⟨ho, y, rfl, fy, ty⟩ := q
  cases ho
  obtain ⟨rc, ry⟩ := fy.rc hc
  refine pw_aload_n (tk tkX7_reachByTable 8 rfl) rfl ?_
  refine g7_chains (tk tkX7_reachByTable 9 rfl) fkX7_26 ?_
  refine g0_table (tk tkX7_reachByTable 10 rfl) fkX7_219 ?_
  refine pw_iload_n (tk tkX7_reachByTable 11 rfl) rfl ?_
  refine al_table_e (e := r1) (tk tkX7_reachByTable 12 rfl) er (by first | decide | omega) ?_
  rw [ty r1 hr, mkM_cg u ((wN_IsCl (stO (aS a)) u hr).eq (rcN_IsCl (aS a) r1 hu8))]
  exact pw_ireturn (tk tkX7_reachByTable 13 rfl) rfl (by decide) rfl (CQ.ret rc ry ((if_neg (ne_f (show inR r 0 (aS a 25 - 1) = true from by rw [e25]; exact k1))).trans (by rw [er2, ← eu])))
set_option maxRecDepth 100000 in
set_option maxHeartbeats 4000000 in
theorem ct_X7_circularRules (x : XW) (a : AM) (hc : RC a x.1) (hv : VS (uN (aS a)) (aS a))  : CT MX7_circularRules 30 0 [.ref 160] (hp x) (CQ [] x (scircularRules a )) := by
  refine ct_of (by decide +kernel) (by decide) rfl (k := 2) (ls := [some (.ref 160), none, none]) rfl (Nat.le_of_ble_eq_true rfl) ?_
  obtain ⟨u, eu⟩ : ∃ u, u = uN (aS a) := ⟨_, rfl⟩
  have hvu := hv
  rw [← eu] at hvu
  have hu8 := hvu.1
  have hu : sSc (cSt x.1 0) 0 = nI u := hc.1.2.2.1.trans hvu.2.1
  have e25 : aS a 25 = nI u := hvu.2.1
  have he : scircularRules a = (0, mkM (fun i => wN (stO (aS a)) u i i) u, a) := by
    rw [mkM_cg (q := fun i => rcN (aS a) u i 8 i) u (fun i hi => (wN_IsCl (stO (aS a)) u hi).eq (rcN_IsCl (aS a) i hu8) i hi), eu]; rfl
  have L : ∀ y, RC a y.1 → y.2 = x.2 → TR y u (wN (stO (aS a)) u) → ∀ k i, i + k = u → PW MX7_circularRules 30 0 15 [some (.ref 160), some (.int (mkM (fun i => wN (stO (aS a)) u i i) i)), some (.int (nI i))] [] (hp y) (CQ [] x (scircularRules a)) := by
    intro y rc ry ty k
    induction k with
    | zero =>
      intro i hi
      obtain rfl : i = u := by omega
      refine pw_iload_n (tk tkX7_circularRules 9 rfl) rfl ?_
      refine pw_aload_n (tk tkX7_circularRules 10 rfl) rfl ?_
      refine g7_now (tk tkX7_circularRules 11 rfl) fkX7_10 ?_
      refine g4_rulesUsed (by first | assumption | decide | omega) (tk tkX7_circularRules 12 rfl) fkX7_66 ?_
      rw [show sSc (cSt y.1 0) 0 = nI i from rc.1.2.2.1.trans e25]
      refine pw_icmp_ge (tgt := 48) (tk tkX7_circularRules 13 rfl) (by decide) (fun c23 => ?_) (fun c23 => absurd (Int32.le_refl _) c23)
      refine pw_iload_n (tk tkX7_circularRules 28 rfl) rfl ?_
      exact pw_ireturn (tk tkX7_circularRules 29 rfl) rfl (by decide) rfl (CQ.ret rc ry he)
    | succ k ih =>
      intro i hi
      refine pw_iload_n (tk tkX7_circularRules 9 rfl) rfl ?_
      refine pw_aload_n (tk tkX7_circularRules 10 rfl) rfl ?_
      refine g7_now (tk tkX7_circularRules 11 rfl) fkX7_10 ?_
      refine g4_rulesUsed (by first | assumption | decide | omega) (tk tkX7_circularRules 12 rfl) fkX7_66 ?_
      rw [show sSc (cSt y.1 0) 0 = nI u from rc.1.2.2.1.trans e25]
      refine pw_icmp_ge (tgt := 48) (tk tkX7_circularRules 13 rfl) (by decide) (fun c23 => absurd c23 (nI_ge (by omega) (by omega))) (fun c23 => ?_)
      refine pw_iload_n (tk tkX7_circularRules 14 rfl) rfl ?_
      refine pw_aload_n (tk tkX7_circularRules 15 rfl) rfl ?_
      refine g7_chains (tk tkX7_circularRules 16 rfl) fkX7_26 ?_
      refine g0_table (tk tkX7_circularRules 17 rfl) fkX7_219 ?_
      refine pw_iload_n (tk tkX7_circularRules 18 rfl) rfl ?_
      refine al_table_e (e := i) (tk tkX7_circularRules 19 rfl) (by first | rfl | simp only [lit_nI, nI_add, pk_mul]) (by first | decide | omega) ?_
      rw [ty i (by omega)]
      refine pw_iconst (v := 1) (tk tkX7_circularRules 20 rfl) (by decide) ?_
      refine pw_iload_n (tk tkX7_circularRules 21 rfl) rfl ?_
      refine pw_ishl (tk tkX7_circularRules 22 rfl) ?_
      refine pw_iand (tk tkX7_circularRules 23 rfl) ?_
      rw [mk_and _ hu8 (show i < u by omega)]
      refine pw_ior (tk tkX7_circularRules 24 rfl) ?_
      refine pw_ist1 (tk tkX7_circularRules 25 rfl) rfl (by decide) ?_
      refine pw_inc2 (tk tkX7_circularRules 26 rfl) rfl (by decide) (nI_1 i) ?_
      refine pw_goto (tgt := 15) (tk tkX7_circularRules 27 rfl) (by decide) ?_
      exact ih (i + 1) (by omega)
  refine pw_aload_n (tk tkX7_circularRules 0 rfl) rfl ?_
  refine g7_chains (tk tkX7_circularRules 1 rfl) fkX7_26 ?_
  refine pw_aload_n (tk tkX7_circularRules 2 rfl) rfl ?_
  refine g7_now (tk tkX7_circularRules 3 rfl) fkX7_10 ?_
  refine pw_callV (ct_X0_fillTable x (aS a) _ u hc.1 hvu) okX0_fillTable (tk tkX7_circularRules 4 rfl) mkX7_216 imX0_fillTable seX0_fillTable (hp_ot _ 2) rfl rfl rfl (by decide) (by decide) (Nat.le_of_ble_eq_true rfl) (fun r h2 q => ?_) (fun E h2 q => by cases q.1)
  obtain ⟨ho, y, rfl, fy, ty⟩ := q
  cases ho
  obtain ⟨rc, ry⟩ := fy.rc hc
  refine pw_iconst (v := 0) (tk tkX7_circularRules 5 rfl) (by decide) ?_
  refine pw_ist1 (tk tkX7_circularRules 6 rfl) rfl (by decide) ?_
  refine pw_iconst (v := 0) (tk tkX7_circularRules 7 rfl) (by decide) ?_
  refine pw_ist2 (tk tkX7_circularRules 8 rfl) rfl (by decide) ?_
  exact L y rc ry ty u 0 (by omega)
end
section
/-! ===== THE OTHER OBJECT: a contract that speaks of the one is told for the other ===== -/
def rn_o : Out → Out
  | .inl r => .inl (r.map rn_v)
  | .inr E => .inr E
theorem rn_vv (v : Value) : rn_v (rn_v v) = v := by
  cases v with
  | ref k => exact congrArg Value.ref (swp_swp k)
  | int x => rfl
  | long x => rfl
  | float x => rfl
  | double x => rfl
  | null => rfl
  | retAddr x => rfl
theorem rn_cc (c : Cel) : rn_c (rn_c c) = c := by
  cases c with
  | inl x =>
    show (Sum.inl (x.1, x.2.1, fun j => rn_v (rn_v (x.2.2 j))) : Cel) = Sum.inl x
    rw [show (fun j => rn_v (rn_v (x.2.2 j))) = x.2.2 from funext fun j => rn_vv _]
  | inr o =>
    show (Sum.inr (o.1, fun j => rn_v (rn_v (o.2 j))) : Cel) = Sum.inr o
    rw [show (fun j => rn_v (rn_v (o.2 j))) = o.2 from funext fun j => rn_vv _]
def swG (G : PG) (b : Nat) : PG := (G.1, G.2.1, G.2.2.1, fun k => if k < 1000 then G.2.2.2 (swp k) else if k = 5000 then b else G.2.2.2 k)
theorem swG_lo (G : PG) (b : Nat) {k : Nat} (h : k < 1000) : (swG G b).2.2.2 k = G.2.2.2 (swp k) := if_pos h
theorem swG_5 (G : PG) (b : Nat) : (swG G b).2.2.2 5000 = b := by
  show (if (5000 : Nat) < 1000 then G.2.2.2 (swp 5000) else if (5000 : Nat) = 5000 then b else G.2.2.2 5000) = b
  rw [if_neg (by decide), if_pos rfl]
theorem swG_s (G : PG) (b : Nat) : (swG G b).2.2.2 1020 = G.2.2.2 1020 := by
  show (if (1020 : Nat) < 1000 then G.2.2.2 (swp 1020) else if (1020 : Nat) = 5000 then b else G.2.2.2 1020) = _
  rw [if_neg (by decide), if_neg (by decide)]
theorem swG_ad (G : PG) (b k : Nat) : ad (swG G b) k = ad G (swp k) := by
  by_cases h : k < 1000
  · rw [ad_lo h, ad_lo (swp_lt h), swG_lo G b h]
    rfl
  · rw [ad_hi (by omega), show swp k = k from by unfold swp; rw [if_neg (by omega), if_neg (by omega)], ad_hi (by omega), swG_s]
theorem swG_cv (G : PG) (b : Nat) (v : Value) : cv (swG G b) v = cv G (rn_v v) := by
  cases v with
  | ref k => exact congrArg Value.ref (swG_ad G b k)
  | int x => rfl
  | long x => rfl
  | float x => rfl
  | double x => rfl
  | null => rfl
  | retAddr x => rfl
theorem swG_at {G : PG} {b a : Nat} {c : Cel} {H : Heap} : at_c (swG G b) a c H ↔ at_c G a (rn_c c) H := by
  cases c with
  | inl x =>
    show H[a]? = some (arrV (G.2.1 x.1) x.2.1 (fun j => cv (swG G b) (x.2.2 j))) ↔ H[a]? = some (arrV (G.2.1 x.1) x.2.1 (fun j => cv G (rn_v (x.2.2 j))))
    rw [show (fun j => cv (swG G b) (x.2.2 j)) = fun j => cv G (rn_v (x.2.2 j)) from funext fun j => swG_cv G b _]
  | inr o =>
    show (∃ r : vw_C, vwCl[o.1]? = some r ∧ t_OB a (G.1.1 o.1) r.2.2 (G.1.2 o.1) H (fun k => cv (swG G b) (o.2 k))) ↔ ∃ r : vw_C, vwCl[o.1]? = some r ∧ t_OB a (G.1.1 o.1) r.2.2 (G.1.2 o.1) H (fun k => cv G (rn_v (o.2 k)))
    rw [show (fun k => cv (swG G b) (o.2 k)) = fun k => cv G (rn_v (o.2 k)) from funext fun j => swG_cv G b _]
def swF (f : Nat → Option Cel) : Nat → Option Cel := fun k => (f (swp k)).map rn_c
theorem swF_swF (f : Nat → Option Cel) : swF (swF f) = f := by
  funext k
  show ((f (swp (swp k))).map rn_c).map rn_c = f k
  rw [swp_swp]
  cases f k with
  | none => rfl
  | some c => exact congrArg some (rn_cc c)
theorem swG_cells {G : PG} {b : Nat} {f : Nat → Option Cel} {H : Heap} (h : ∀ k c, swF f k = some c → k < 1000 ∧ at_c G (ad G k) c H) : ∀ k c, f k = some c → k < 1000 ∧ at_c (swG G b) (ad (swG G b) k) c H := by
  intro k c hk
  have h1 : swF f (swp k) = some (rn_c c) := by
    show (f (swp (swp k))).map rn_c = _
    rw [swp_swp, hk]; rfl
  obtain ⟨l1, l2⟩ := h _ _ h1
  refine ⟨by have q := swp_lt l1; rw [swp_swp] at q; exact q, ?_⟩
  rw [swG_ad, swG_at]
  exact l2
theorem swG_cells2 {G : PG} {b : Nat} {f : Nat → Option Cel} {H : Heap} (h : ∀ k c, f k = some c → k < 1000 ∧ at_c (swG G b) (ad (swG G b) k) c H) : ∀ k c, swF f k = some c → k < 1000 ∧ at_c G (ad G k) c H := by
  intro k c hk
  have hk2 : (f (swp k)).map rn_c = some c := hk
  obtain ⟨c0, h0, e0⟩ := Option.map_eq_some_iff.mp hk2
  obtain ⟨l1, l2⟩ := h _ _ h0
  subst e0
  refine ⟨by have q := swp_lt l1; rw [swp_swp] at q; exact q, ?_⟩
  rw [swG_ad, swp_swp, swG_at] at l2
  exact l2
theorem swG_inj {G : PG} {b : Nat} (h : ∀ i j, i < 1000 → j < 1000 → G.2.2.2 i = G.2.2.2 j → i = j) : ∀ i j, i < 1000 → j < 1000 → (swG G b).2.2.2 i = (swG G b).2.2.2 j → i = j := by
  intro i j hi hj q
  rw [swG_lo G b hi, swG_lo G b hj] at q
  have e := h _ _ (swp_lt hi) (swp_lt hj) q
  rw [← swp_swp i, e, swp_swp]
theorem swG_inj2 {G : PG} {b : Nat} (h : ∀ i j, i < 1000 → j < 1000 → (swG G b).2.2.2 i = (swG G b).2.2.2 j → i = j) : ∀ i j, i < 1000 → j < 1000 → G.2.2.2 i = G.2.2.2 j → i = j := by
  intro i j hi hj q
  have e := h (swp i) (swp j) (swp_lt hi) (swp_lt hj) (by rw [swG_lo G b (swp_lt hi), swG_lo G b (swp_lt hj), swp_swp, swp_swp]; exact q)
  rw [← swp_swp i, e, swp_swp]
theorem swG_Rp {G : PG} {b : Nat} {z : Option Nat} {f : Nat → Option Cel} {H : Heap} (R : Rp G (z, swF f) H) : Rp (swG G b) (none, f) H :=
  ⟨fun _ q => (nomatch q), R.2.1, swG_cells R.2.2.1, swG_inj R.2.2.2⟩
theorem swG_Rp2 {G : PG} {b : Nat} {z : Option Nat} {f : Nat → Option Cel} {H : Heap} (R : Rp (swG G b) (z, f) H) : Rp G (none, swF f) H :=
  ⟨fun _ q => (nomatch q), R.2.1, swG_cells2 R.2.2.1, swG_inj2 R.2.2.2⟩
theorem swG_OW {G : PG} {b : Nat} {U : State} (h : OW G U) : OW (swG G b) U := by
  obtain ⟨h1, h2, h3, h4, ⟨xn, xs, x1, x2, x3, x4⟩, h6, h7⟩ := h
  refine ⟨h1, h2, h3, h4, ⟨xn, xs, ?_, x2, ?_, ?_⟩, h6, h7⟩
  · rw [swG_s]; exact x1
  · rw [swG_s]; exact x3
  · rw [swG_s]; exact x4
theorem map_swG (G : PG) (b : Nat) (args : List Value) : (args.map rn_v).map (cv G) = args.map (cv (swG G b)) := by
  rw [List.map_map]
  exact List.map_congr_left fun v _ => (swG_cv G b v).symm
section CTM
variable {M : Mth} {d n : Nat} {args : List Value} {Q : Out → Hp → Prop}
theorem met_mono {l : Launch} {y : MethodName} {ws : List Cond} {rm : Room} {P P' : Array Value → State → Prop} {Qa Qb : Array Value → State → Outcome → State → Prop} {mc ms : Nat} {fr1 : Addr → Prop} (h : Met l y ws rm P Qa mc ms fr1) (hP : ∀ a s, P' a s → P a s) (hQ : ∀ a s o t, Qa a s o t → Qb a s o t) : Met l y ws rm P' Qb mc ms fr1 :=
  MetFree.mono h hP (fun _ _ _ _ _ q => q) (fun a s o t _ q => ⟨hQ a s o t q.1, q.2⟩)
theorem vx_mono {l : Launch} {y : MethodName} {ws : List Cond} {rm : Room} {P P' : Array Value → State → Prop} {Qa Qb : Array Value → State → Outcome → State → Prop} {Xa Xb : String → State → State → Prop} {mc ms : Nat} {fr1 : Addr → Prop} (h : vx_Met l y ws rm P Qa Xa mc ms fr1) (hP : ∀ a s, P' a s → P a s) (hQ : ∀ a s o t, Qa a s o t → Qb a s o t) (hX : ∀ E s t, Xa E s t → Xb E s t) : vx_Met l y ws rm P' Qb Xb mc ms fr1 := by
  refine MetFree.mono h hP (fun _ _ _ _ _ q => q) (fun a s o t _ q => ?_)
  rcases q with ⟨q1, q2⟩ | ⟨q, e, E, ce, L, q1, q2⟩
  · exact Or.inl ⟨hQ a s o t q1, q2⟩
  · exact Or.inr ⟨q, e, E, ce, L, hX E s t q1, q2⟩
theorem CT.imp {h : Hp} {Q' : Out → Hp → Prop} (ct : CT M d n args h Q) (hQ : ∀ o h2, Q o h2 → Q' o h2) : CT M d n args h Q' := by
  intro l hl G
  have h9 := ct l hl G
  have pq : ∀ a s o t, PQ G Q a s o t → PQ G Q' a s o t := fun a s o t ⟨⟨r, h', e1, q1, q2⟩, hF⟩ => ⟨⟨r, h', e1, hQ _ _ q1, q2⟩, hF⟩
  by_cases m0 : mK M = 0
  · rw [if_pos m0] at h9 ⊢
    exact met_mono h9 (fun _ _ q => q) pq
  · rw [if_neg m0] at h9 ⊢
    exact vx_mono h9 (fun _ _ q => q) pq (fun E s t ⟨⟨h', q1, q2⟩, hF⟩ => ⟨⟨h', hQ _ _ q1, q2⟩, hF⟩)
theorem CT.sw {f : Nat → Option Cel} (ct : CT M d n args (none, f) Q) : CT M d n (args.map rn_v) (none, swF f) (fun o h2 => ∃ o0 h0, o = rn_o o0 ∧ h2 = (none, swF h0.2) ∧ Q o0 h0) := by
  intro l hl G
  have h9 := ct l hl (swG G 0)
  have hP : ∀ a U, PP G (args.map rn_v) (none, swF f) a U → PP (swG G 0) args (none, f) a U := by
    intro a U q
    obtain ⟨q1, q2, q3, q4, q5⟩ := q
    refine ⟨?_, swG_Rp q2, q3, swG_OW q4, q5⟩
    rw [q1, map_swG G 0]
  have hQ : ∀ a s o t, PQ (swG G 0) Q a s o t → PQ G (fun o h2 => ∃ o0 h0, o = rn_o o0 ∧ h2 = (none, swF h0.2) ∧ Q o0 h0) a s o t := by
    intro a s o t ⟨⟨r, h', e1, q1, q2⟩, hF⟩
    refine ⟨⟨r.map rn_v, (none, swF h'.2), ?_, ⟨.inl r, h', rfl, rfl, q1⟩, swG_Rp2 (z := h'.1) q2⟩, hF⟩
    rw [e1]
    cases r with
    | none => rfl
    | some v => exact congrArg (fun w => Outcome.returned (some w)) (swG_cv G 0 v)
  have hX : ∀ E s t, PX (swG G 0) Q E s t → PX G (fun o h2 => ∃ o0 h0, o = rn_o o0 ∧ h2 = (none, swF h0.2) ∧ Q o0 h0) E s t := by
    intro E s t ⟨⟨h', q1, q2⟩, hF⟩
    exact ⟨⟨(none, swF h'.2), ⟨.inr E, h', rfl, rfl, q1⟩, swG_Rp2 (z := h'.1) q2⟩, hF⟩
  by_cases m0 : mK M = 0
  · rw [if_pos m0] at h9 ⊢
    exact met_mono h9 hP hQ
  · rw [if_neg m0] at h9 ⊢
    exact vx_mono h9 hP hQ hX
end CTM
theorem otc_oc (x : XW) {o : Nat} (h : o < 11) : otc o x = ocw o x.1 := by
  match o, h with
  | 0, _ => rfl
  | 1, _ => rfl
  | 2, _ => rfl
  | 3, _ => rfl
  | 4, _ => rfl
  | 5, _ => rfl
  | 6, _ => rfl
  | 7, _ => rfl
  | 8, _ => rfl
  | 9, _ => rfl
  | 10, _ => rfl
  | o + 11, h => exact absurd h (by omega)
theorem otc_hi (x : XW) {o : Nat} (h : 12 ≤ o) : otc o x = if 96 ≤ o ∧ o < 267 then (clw x.2.1 (o - 96)).map rn_c else none := by
  unfold otc
  rw [if_neg (by omega), if_neg (by omega), if_neg (by omega), if_neg (by omega), if_neg (by omega), if_neg (by omega), if_neg (by omega), if_neg (by omega), if_neg (by omega), if_neg (by omega), if_neg (by omega), if_neg (by omega)]
theorem hp_1 (x : XW) {k : Nat} (h : k < 171) : (hp x).2 k = clw x.1 k := by
  show (if k < 160 then stc (k / 16) (k % 16) (cSt x.1 (k / 16)) else otc (k - 160) x) = if k < 160 then stc (k / 16) (k % 16) (cSt x.1 (k / 16)) else ocw (k - 160) x.1
  by_cases e : k < 160
  · rw [if_pos e, if_pos e]
  · rw [if_neg e, if_neg e, otc_oc x (by omega)]
theorem hp_2 (x : XW) {k : Nat} (h : 256 ≤ k) (h2 : k < 427) : (hp x).2 k = (clw x.2.1 (k - 256)).map rn_c := by
  show (if k < 160 then _ else otc (k - 160) x) = _
  rw [if_neg (by omega), otc_hi x (by omega), if_pos ⟨by omega, by omega⟩, show k - 160 - 96 = k - 256 by omega]
theorem hp_3 (x : XW) : (hp x).2 171 = some (.inl (.int, 1, iA x.2.2)) := rfl
theorem hp_4 (x : XW) {k : Nat} (h : ¬ k < 172) (h2 : ¬ (256 ≤ k ∧ k < 427)) : (hp x).2 k = none := by
  show (if k < 160 then _ else otc (k - 160) x) = _
  rw [if_neg (by omega), otc_hi x (by omega), if_neg (by omega)]
/-- the world with the other object in hand -/
abbrev sx (x : XW) : XW := (x.2.1, x.1, x.2.2)
theorem hp_sx (x : XW) : hp (sx x) = (none, swF (hp x).2) := by
  refine Prod.ext rfl (funext fun k => ?_)
  show (hp (sx x)).2 k = ((hp x).2 (swp k)).map rn_c
  by_cases h : k < 171
  · rw [hp_1 (sx x) h, show swp k = k + 256 from if_pos h, hp_2 x (by omega) (by omega), Nat.add_sub_cancel]
    show clw x.2.1 k = _
    cases clw x.2.1 k with
    | none => rfl
    | some c => exact congrArg some (rn_cc c).symm
  · by_cases h2 : 256 ≤ k ∧ k < 427
    · rw [hp_2 (sx x) h2.1 h2.2, show swp k = k - 256 from (if_neg h).trans (if_pos h2), hp_1 x (by omega)]
    · rw [show swp k = k from (if_neg h).trans (if_neg h2)]
      by_cases h3 : k = 171
      · subst h3
        rw [hp_3, hp_3]
        rfl
      · rw [hp_4 (sx x) (by omega) h2, hp_4 x (by omega) h2]
        rfl
theorem sx_sx (x : XW) : sx (sx x) = x := rfl
/-- the end of a call of the class on the other object -/
def CQp (exs : List (Int32 × String)) (x : XW) (R : RS3) : Out → Hp → Prop := fun o h2 => ∃ y, h2 = hp y ∧ y.1 = x.1 ∧ y.2.2 = x.2.2 ∧ RC R.2.2 y.2.1 ∧ ((R.1 = 0 ∧ o = .inl (some (.int R.2.1))) ∨ ∃ k E, (k, E) ∈ exs ∧ R.1 = k ∧ o = .inr E)
theorem ctp {M : Mth} {d n : Nat} {as : List Value} {exs : List (Int32 × String)} {x : XW} {R : RS3} (ct : CT M d n (.ref 160 :: as) (hp (sx x)) (CQ exs (sx x) R)) (has : as.map rn_v = as) : CT M d n (.ref 416 :: as) (hp x) (CQp exs x R) := by
  have h := CT.sw (f := (hp (sx x)).2) ct
  rw [List.map_cons, has, show rn_v (.ref 160) = .ref 416 from rfl, show ((none, swF (hp (sx x)).2) : Hp) = hp x from (hp_sx (sx x)).symm] at h
  refine h.imp fun o h2 q => ?_
  obtain ⟨o0, h0, rfl, rfl, y, rfl, hy, hc, q⟩ := q
  refine ⟨sx y, (hp_sx y).symm, show y.2.1 = (sx x).2.1 from congrArg Prod.fst hy, show y.2.2 = (sx x).2.2 from congrArg Prod.snd hy, hc, ?_⟩
  rcases q with ⟨q1, rfl⟩ | ⟨k, E, q1, q2, rfl⟩
  · exact Or.inl ⟨q1, rfl⟩
  · exact Or.inr ⟨k, E, q1, q2, rfl⟩
end
section
/-! ===== WHAT HOLDS OF THE NUMBERS: values, the log and the acts; what a statement comes to ===== -/
def cnL (i : Nat) : LL → Nat
  | [] => 0
  | p :: t => cnL i t + (if p.1 = nI i then 1 else 0)
theorem cnL_take (i : Nat) : ∀ (n : Nat) (l : LL), cnL i (l.take n) ≤ cnL i l
  | 0, l => by rw [List.take_zero]; exact Nat.zero_le _
  | n + 1, [] => Nat.le_refl _
  | n + 1, p :: t => by
    rw [List.take_succ_cons]
    show cnL i (t.take n) + _ ≤ cnL i t + _
    exact Nat.add_le_add_right (cnL_take i n t) _
theorem mem_take {α : Type} {a : α} {n : Nat} {l : List α} (h : a ∈ l.take n) : a ∈ l := List.mem_of_mem_take h
/-- a row's values are in range -/
def VR (s : Nat → Int32) (r : Nat) : Prop := ∀ c, c < 3 → ∃ k, k < 1000 ∧ s (6 + 3 * r + c) = nI k
/-- of the log: its acts are of rules, their depths below 6; no rule is logged more often than it acted -/
def LI (B u : Nat) (s : Nat → Int32) (l : LL) : Prop := LM s l ∧ (∀ p ∈ l, (∃ i, i < u ∧ p.1 = nI i) ∧ ∃ d, d < 6 ∧ p.2 = nI d) ∧ ∀ i, i < u → ∃ m, m ≤ B ∧ rN s i 8 = nI m ∧ cnL i l ≤ m
def TI (B u : Nat) (s : Nat → Int32) : Prop := VS u s ∧ (∀ r, r < 6 → s r = 1 → VR s r) ∧ ∃ l, LI B u s l
theorem TI.up {B C u : Nat} {s : Nat → Int32} (h : TI B u s) (hB : B ≤ C) : TI C u s := by
  obtain ⟨h1, h2, l, h3, h4, h5⟩ := h
  exact ⟨h1, h2, l, h3, h4, fun i hi => by obtain ⟨m, a, b⟩ := h5 i hi; exact ⟨m, Nat.le_trans a hB, b⟩⟩
/-- numbers that differ in what doesn't count here alone -/
theorem TI.eq {B u : Nat} {s t : Nat → Int32} (h : TI B u s) (hv : VS u t) (h1 : ∀ j, j < 24 → t j = s j) (h2 : ∀ i, i < u → rN t i 8 = rN s i 8) (h3 : ∀ j, 99 ≤ j → j < 132 → t j = s j) : TI B u t := by
  obtain ⟨a, b, l, ⟨c1, c2, c3⟩, d, e⟩ := h
  refine ⟨hv, fun r hr q c hc => ?_, l, ⟨c1, by rw [h3 99 (by omega) (by omega)]; exact c2, fun k p hk => ?_⟩, d, fun i hi => ?_⟩
  · rw [h1 _ (by omega)] at q ⊢; exact b r hr q c hc
  · have := qlt hk
    rw [h3 _ (by omega) (by omega), h3 _ (by omega) (by omega)]; exact c3 k p hk
  · rw [h2 i hi]; exact e i hi
theorem TI.log {B u : Nat} {s : Nat → Int32} (h : TI B u s) {i d : Nat} (hi : i < u) (hd : d < 6) : TI (B + 1) u (lgS s i (nI d)) := by
  obtain ⟨a, b, l, c, g, e⟩ := h
  have hu8 := a.1
  refine ⟨lgS_VS a _ hi, fun r hr q w hw => ?_, _, LM_note c (by omega) _, fun p hp => ?_, fun k hk => ?_⟩
  · rw [lgS_nt _ _ _ (by omega) (by omega)] at q ⊢; exact b r hr q w hw
  · rcases List.mem_cons.mp (mem_take hp) with q | q
    · subst q; exact ⟨⟨i, hi, rfl⟩, d, hd, rfl⟩
    · exact g p q
  · obtain ⟨m, m1, m2, m3⟩ := e k hk
    have q := cnL_take k 16 ((nI i, nI d) :: l)
    have q2 : cnL k ((nI i, nI d) :: l) = cnL k l + (if nI i = nI k then 1 else 0) := rfl
    by_cases ek : k = i
    · subst ek
      rw [if_pos rfl] at q2
      refine ⟨m + 1, by omega, ?_, by omega⟩
      show lgS s k (nI d) (26 + 9 * k + 8) = _
      unfold lgS; rw [upd_at, ← nI_1]; exact congrArg (· + 1) m2
    · rw [if_neg (fun z => ek ((nI_eq (by omega) (by omega)).mp z).symm)] at q2
      refine ⟨m, by omega, ?_, by omega⟩
      show lgS s i (nI d) (26 + 9 * k + 8) = _
      rw [lgS_nt _ _ _ (by omega) (by omega)]; exact m2
/-- a change that may be made -/
def EV (ev : Int32) (r : Nat) (v : Int32) (s : Nat → Int32) : Prop := (ev = 1 → ∃ k, k < 1000 ∧ v = nI k) ∧ (ev = 0 → VR s r)
theorem TI.altr {B u : Nat} {s : Nat → Int32} (h : TI B u s) {ev : Int32} {r c : Nat} {v : Int32} (hr : r < 6) (hc : c < 3) (he : EV ev r v s) : TI B u (alt s ev r c v) := by
  obtain ⟨a, b, l, ⟨c1, c2, c3⟩, g, e⟩ := h
  have nt : ∀ j, 24 ≤ j → alt s ev r c v j = s j := fun j hj => alt_nt s ev v hr hc hj
  refine ⟨alt_VS a ev v hr hc, fun r1 hr1 q w hw => ?_, l, ⟨c1, by rw [nt 99 (by omega)]; exact c2, fun k p hk => by rw [nt _ (by omega), nt _ (by omega)]; exact c3 k p hk⟩, g, fun i hi => ?_⟩
  · by_cases e1 : ev = 1
    · have e2 : alt s ev r c v = upd s (6 + 3 * r + c) v := if_pos e1
      rw [e2] at q ⊢
      rw [upd_nt _ _ (by omega)] at q
      unfold upd
      by_cases z : 6 + 3 * r1 + w = 6 + 3 * r + c
      · rw [if_pos z]; exact he.1 e1
      · rw [if_neg z]; exact b r1 hr1 q w hw
    · have e2 : alt s ev r c v = upd s r (if ev = 0 then 1 else 0) := if_neg e1
      rw [e2] at q ⊢
      rw [upd_nt _ _ (by omega)]
      unfold upd at q
      by_cases z : r1 = r
      · rw [if_pos z] at q
        by_cases e0 : ev = 0
        · rw [z]; exact he.2 e0 w hw
        · rw [if_neg e0] at q; exact absurd q (by decide)
      · rw [if_neg z] at q; exact b r1 hr1 q w hw
  · rw [show rN (alt s ev r c v) i 8 = rN s i 8 from nt _ (by omega)]; exact e i hi
/-- of a statement under way, begun at s0: numbers as they should be; the count of events; the log doesn't shrink -/
def SI2 (B u : Nat) (s0 : Nat → Int32) (t : TT) : Prop := TI B u t.1 ∧ t.1 98 = s0 98 ∧ ∃ a b, a ≤ b ∧ b ≤ 16 ∧ s0 99 = nI a ∧ t.1 99 = nI b
theorem SI2.up {B C u : Nat} {s0 : Nat → Int32} {t : TT} (h : SI2 B u s0 t) (hB : B ≤ C) : SI2 C u s0 t := ⟨h.1.up hB, h.2⟩
theorem SI2.t1 {B u : Nat} {s0 : Nat → Int32} {t t' : TT} (h : SI2 B u s0 t) (e : t'.1 = t.1) : SI2 B u s0 t' := by
  unfold SI2; rw [e]; exact h
theorem SI2.log {B u : Nat} {s0 : Nat → Int32} {t : TT} (h : SI2 B u s0 t) {i d : Nat} (hi : i < u) (hd : d < 6) (w : Int32 × Int32 × Int32) : SI2 (B + 1) u s0 (lgS t.1 i (nI d), w) := by
  obtain ⟨h1, h2, a, b, h3, h4, h5, h6⟩ := h
  have hu8 := h1.1.1
  have hl := lgL_le h1.1
  refine ⟨h1.log hi hd, by show lgS t.1 i (nI d) 98 = _; rw [lgS_nt _ _ _ (by omega) (by omega)]; exact h2, a, lgL t.1 + 1, ?_, by omega, h5, lgS_99 _ _ (by omega)⟩
  unfold lgL
  by_cases c : t.1 99 = 16
  · rw [if_pos c]; omega
  · rw [if_neg c, h6, nI_clamp (by omega)]; omega
theorem SI2.bg {B u : Nat} {s0 : Nat → Int32} {t : TT} (h : SI2 B u s0 t) {ev : Int32} {r c : Nat} {v : Int32} (its : Nat) (hr : r < 6) (hc : c < 3) (he : EV ev r v t.1) : SI2 B u s0 (bgT u t ev r c v its) := by
  unfold bgT
  split
  · obtain ⟨h1, h2, a, b, h3, h4, h5, h6⟩ := h
    exact ⟨h1.altr hr hc he, by show alt t.1 ev r c v 98 = _; rw [alt_nt _ _ _ hr hc (by omega)]; exact h2, a, b, h3, h4, h5, by show alt t.1 ev r c v 99 = _; rw [alt_nt _ _ _ hr hc (by omega)]; exact h6⟩
  · exact h
def bdN : Nat → Nat
  | 0 => 0
  | f + 1 => 8 * (1 + bdN f)
theorem lpT_SI {u K : Nat} {s0 : Nat → Int32} {F : Nat → TT → TT} (hF : ∀ B i t, i < u → SI2 B u s0 t → SI2 (B + K) u s0 (F i t)) (p : Nat → Bool) : ∀ (k i B : Nat) (t : TT), i + k = u → SI2 B u s0 t → SI2 (B + k * K) u s0 (lpT F p k i t)
  | 0, _, B, t, _, h => by rw [Nat.zero_mul]; exact h
  | k + 1, i, B, t, e, h => by
    show SI2 _ u s0 (lpT F p k (i + 1) (if _ then _ else _))
    have e2 : (k + 1) * K = K + k * K := by rw [Nat.succ_mul, Nat.add_comm]
    rw [e2, ← Nat.add_assoc]
    refine lpT_SI hF p k (i + 1) (B + K) _ (by omega) ?_
    by_cases q : p i = true ∧ t.2.2.2 = 0
    · rw [if_pos q]; exact hF B i t (by omega) h
    · rw [if_neg q]; exact h.up (by omega)
theorem inR_va {v : Int32} (h : inR v 0 999 = true) : ∃ k, k < 1000 ∧ v = nI k := by
  obtain ⟨r, h1, h2⟩ := inR_nI (n := 999) (by decide) h
  exact ⟨r, by omega, h2⟩
theorem bnf {b : Bool} (h : ¬ b = false) : b = true := by cases b <;> first | rfl | exact absurd rfl h
theorem acT_SI {u K d : Nat} {s0 : Nat → Int32} {H : TT → Int32 → Nat → Nat → Int32 → Nat → TT} (hd : d < 6) (hH : ∀ B t ev r c v, r < 6 → c < 3 → EV ev r v t.1 → SI2 B u s0 t → SI2 (B + K) u s0 (H t ev r c v (d + 1))) (B i : Nat) (t : TT) (hi : i < u) (h : SI2 B u s0 t) : SI2 (B + (1 + K)) u s0 (acT H d i t) := by
  obtain ⟨er, hr⟩ := ro_e h.1.1 hi
  obtain ⟨ec, hc⟩ := co_e h.1.1 hi
  rw [← Nat.add_assoc]
  have h1 : ∀ w, SI2 (B + 1) u s0 (lgS t.1 i (nI d), w) := fun w => h.log hi hd w
  have h2 : ∀ w, SI2 (B + 1 + K) u s0 (lgS t.1 i (nI d), w) := fun w => (h1 w).up (by omega)
  unfold acT
  split
  · exact h2 _
  · split
    · exact hH _ _ _ _ _ _ hr (by decide) ⟨fun q => absurd q (by decide), fun q => absurd q (by decide)⟩ (h1 _)
    · split
      · exact h2 _
      · rename_i q1 q2 q3
        split
        · exact h2 _
        · exact hH _ _ _ _ _ _ hr hc ⟨fun _ => inR_va (bnf q3), fun q => absurd q (by decide)⟩ (h1 _)
theorem hapT_SI {u : Nat} {s0 : Nat → Int32} : ∀ (f B : Nat) (t : TT) (ev : Int32) (r c : Nat) (v : Int32) (d : Nat), d + f = 6 → r < 6 → c < 3 → EV ev r v t.1 → SI2 B u s0 t → SI2 (B + bdN f) u s0 (hapT u f t ev r c v d)
  | 0, B, t, ev, r, c, v, d, hd, hr, hc, he, h => h.bg d hr hc he
  | f + 1, B, t, ev, r, c, v, d, hd, hr, hc, he, h => by
    show SI2 _ u s0 (if _ then _ else _)
    split
    · have w := lpT_SI (K := 1 + bdN f) (fun B i t hi ht => acT_SI (K := bdN f) (show d < 6 by omega) (fun B t ev r c v hr hc he ht => hapT_SI f B t ev r c v (d + 1) (by omega) hr hc he ht) B i t hi ht) (mtC t.1 ev r (nI c) v false) u 0 B _ (by omega) (h.bg d hr hc he)
      refine w.up ?_
      have hu8 := h.1.1.1
      show B + u * (1 + bdN f) ≤ B + 8 * (1 + bdN f)
      exact Nat.add_le_add_left (Nat.mul_le_mul_right _ hu8) _
    · exact (h.bg d hr hc he).up (Nat.le_add_right _ _)
/-- of a statement that has begun: how often, how deep, why not -/
def HD (t : TT) : Prop := (∃ k, 1 ≤ k ∧ k ≤ 100 ∧ t.2.1 = nI k) ∧ (∃ d, d ≤ 5 ∧ t.2.2.1 = nI d) ∧ (t.2.2.2 = 0 ∨ t.2.2.2 = 2 ∨ t.2.2.2 = 3 ∨ t.2.2.2 = 4 ∨ t.2.2.2 = 5)
theorem mx_nI {a b : Nat} (ha : a < 2 ^ 31) (hb : b < 2 ^ 31) : ∃ d, (d = a ∨ d = b) ∧ mx (nI a) (nI b) = nI d := by
  unfold mx
  split
  · exact ⟨b, .inr rfl, rfl⟩
  · exact ⟨a, .inl rfl, rfl⟩
theorem bgC_0 {s : Nat → Int32} {u : Nat} {hp ev : Int32} {r c : Nat} {v its : Int32} (h : bgC s u hp ev r c v its = 0) : its ≤ s 24 ∧ ¬ hp = 100 := by
  unfold bgC at h
  by_cases a : ¬ its ≤ s 24
  · rw [if_pos a] at h; exact absurd h (by decide)
  · rw [if_neg a] at h
    by_cases b : hp = 100
    · rw [if_pos b] at h; exact absurd h (by decide)
    · exact ⟨Classical.not_not.mp a, b⟩
theorem bgT_HD {u : Nat} {t : TT} (hv : VS u t.1) (h : HD t) (ev : Int32) (r c : Nat) (v : Int32) {its : Nat} (hi : its ≤ 6) : HD (bgT u t ev r c v its) := by
  obtain ⟨⟨k, k1, k2, k3⟩, ⟨d, d1, d2⟩, h3⟩ := h
  unfold bgT
  by_cases e : bgC t.1 u t.2.1 ev r c v (nI its) = 0
  · rw [if_pos e]
    obtain ⟨e1, e2⟩ := bgC_0 e
    obtain ⟨dp, p1, p2⟩ := hv.2.2.1
    rw [p2, nI_leI (by omega) (by omega)] at e1
    have hk : k ≠ 100 := fun q => e2 (by rw [k3, q]; rfl)
    refine ⟨⟨k + 1, by omega, by omega, by show t.2.1 + 1 = _; rw [k3, nI_1]⟩, ?_, .inl rfl⟩
    obtain ⟨w, hw, ew⟩ := mx_nI (a := its) (b := d) (by omega) (by omega)
    exact ⟨w, by omega, by show mx (nI its) t.2.2.1 = _; rw [d2, ew]⟩
  · rw [if_neg e]
    refine ⟨⟨k, k1, k2, k3⟩, ⟨d, d1, d2⟩, ?_⟩
    show bgC _ _ _ _ _ _ _ _ = 0 ∨ _
    rcases bgC_cs t.1 u t.2.1 ev r c v (nI its) with q | q | q | ⟨q, _⟩
    · exact .inr (.inr (.inl q))
    · exact .inr (.inr (.inr (.inl q)))
    · exact .inr (.inr (.inr (.inr q)))
    · exact .inl q
def HV (u : Nat) (t : TT) : Prop := VS u t.1 ∧ HD t
theorem lpT_HV {u : Nat} {F : Nat → TT → TT} (hF : ∀ i t, i < u → HV u t → HV u (F i t)) (p : Nat → Bool) : ∀ (k i : Nat) (t : TT), i + k = u → HV u t → HV u (lpT F p k i t)
  | 0, _, _, _, h => h
  | k + 1, i, t, e, h => by
    refine lpT_HV hF p k (i + 1) _ (by omega) ?_
    by_cases q : p i = true ∧ t.2.2.2 = 0
    · rw [if_pos q]; exact hF i t (by omega) h
    · rw [if_neg q]; exact h
theorem acT_HV {u d : Nat} {H : TT → Int32 → Nat → Nat → Int32 → Nat → TT} (hH : ∀ t ev r c v, r < 6 → c < 3 → HV u t → HV u (H t ev r c v (d + 1))) (i : Nat) (t : TT) (hi : i < u) (h : HV u t) : HV u (acT H d i t) := by
  obtain ⟨er, hr⟩ := ro_e h.1 hi
  obtain ⟨ec, hc⟩ := co_e h.1 hi
  have hv : VS u (lgS t.1 i (nI d)) := lgS_VS h.1 _ hi
  have h1 : HV u (lgS t.1 i (nI d), t.2) := ⟨hv, h.2⟩
  unfold acT
  split
  · exact h1
  · split
    · exact hH _ _ _ _ _ hr (by decide) h1
    · split
      · exact ⟨hv, h.2.1, h.2.2.1, .inr (.inl rfl)⟩
      · split
        · exact h1
        · exact hH _ _ _ _ _ hr hc h1
theorem hapT_HV {u : Nat} : ∀ (f : Nat) (t : TT) (ev : Int32) (r c : Nat) (v : Int32) (d : Nat), d + f = 6 → r < 6 → c < 3 → HV u t → HV u (hapT u f t ev r c v d)
  | 0, t, ev, r, c, v, d, hd, hr, hc, h => ⟨(bgT_KV (s := t.1) ⟨h.1, SR.rf _⟩ ev v d hr hc).1, bgT_HD h.1 h.2 ev r c v (by omega)⟩
  | f + 1, t, ev, r, c, v, d, hd, hr, hc, h => by
    have hb : HV u (bgT u t ev r c v d) := ⟨(bgT_KV (s := t.1) ⟨h.1, SR.rf _⟩ ev v d hr hc).1, bgT_HD h.1 h.2 ev r c v (by omega)⟩
    show HV u (if _ then _ else _)
    split
    · exact lpT_HV (fun i t hi ht => acT_HV (fun t ev r c v hr hc ht => hapT_HV f t ev r c v (d + 1) (by omega) hr hc ht) i t hi ht) _ u 0 _ (by omega) hb
    · exact hb
/-- a statement from its beginning: it has begun, or it could not -/
theorem hapT_top {u : Nat} {s : Nat → Int32} (hv : VS u s) {ev : Int32} {r c : Nat} {v : Int32} (hr : r < 6) (hc : c < 3) : HV u (hapT u 6 (s, 0, -1, 0) ev r c v 0) ∨ (hapT u 6 (s, 0, -1, 0) ev r c v 0).2.2.2 = 3 ∨ (hapT u 6 (s, 0, -1, 0) ev r c v 0).2.2.2 = 4 ∨ (hapT u 6 (s, 0, -1, 0) ev r c v 0).2.2.2 = 5 := by
  by_cases e : bgC s u 0 ev r c v (nI 0) = 0
  · have eb : bgT u (s, 0, -1, 0) ev r c v 0 = (alt s ev r c v, 0 + 1, mx (nI 0) (-1), 0) := if_pos e
    have hb : HV u (bgT u (s, 0, -1, 0) ev r c v 0) := by
      rw [eb]
      exact ⟨alt_VS hv ev v hr hc, ⟨1, by omega, by omega, show (0 : Int32) + 1 = nI 1 by decide⟩, ⟨0, by omega, show mx (nI 0) (-1) = nI 0 by decide⟩, .inl rfl⟩
    have eh : hapT u 6 (s, 0, -1, 0) ev r c v 0 = lpT (acT (hapT u 5) 0) (mtC s ev r (nI c) v false) u 0 (bgT u (s, 0, -1, 0) ev r c v 0) := if_pos e
    rw [eh]
    exact .inl (lpT_HV (fun i t hi ht => acT_HV (fun t ev r c v hr hc ht => hapT_HV 5 t ev r c v 1 (by omega) hr hc ht) i t hi ht) _ u 0 _ (by omega) hb)
  · have eh : hapT u 6 (s, 0, -1, 0) ev r c v 0 = (s, 0, -1, bgC s u 0 ev r c v (nI 0)) := (hapT_bad u 6 (s, 0, -1, 0) ev r c v 0 e).trans (if_neg e)
    rw [eh]
    rcases bgC_cs s u 0 ev r c v (nI 0) with q | q | q | ⟨q, _⟩
    · exact .inr (.inl q)
    · exact .inr (.inr (.inl q))
    · exact .inr (.inr (.inr q))
    · exact absurd q e
/-- without rules there is one event -/
theorem hapT_u0 {s : Nat → Int32} {ev : Int32} {r c : Nat} {v : Int32} (h : (hapT 0 6 (s, 0, -1, 0) ev r c v 0).2.2.2 = 0) : (hapT 0 6 (s, 0, -1, 0) ev r c v 0).2.1 = 1 := by
  by_cases e : bgC s 0 0 ev r c v (nI 0) = 0
  · have eh : hapT 0 6 (s, 0, -1, 0) ev r c v 0 = bgT 0 (s, 0, -1, 0) ev r c v 0 := if_pos e
    have eb : bgT 0 (s, 0, -1, 0) ev r c v 0 = (alt s ev r c v, 0 + 1, mx (nI 0) (-1), 0) := if_pos e
    rw [eh, eb]
    show (0 : Int32) + 1 = 1
    decide
  · have eh : hapT 0 6 (s, 0, -1, 0) ev r c v 0 = (s, 0, -1, bgC s 0 0 ev r c v (nI 0)) := (hapT_bad 0 6 (s, 0, -1, 0) ev r c v 0 e).trans (if_neg e)
    rw [eh] at h
    exact absurd h e
end
section
/-! ===== WHAT EACH CALL MAKES OF THE NUMBERS ===== -/
abbrev ST : Type := Nat → Int32
/-- as it should be between calls; no rule has acted more than B times -/
def IV (B : Nat) (s : ST) : Prop := TI B (uN s) s
theorem IV.up {B C : Nat} {s : ST} (h : IV B s) (hB : B ≤ C) : IV C s := TI.up h hB
theorem IV.of {B u : Nat} {s : ST} (h : TI B u s) : IV B s := by unfold IV; rw [h.1.un]; exact h
theorem IV.vs {B : Nat} {s : ST} (h : IV B s) : VS (uN s) s := h.1
theorem cnL_0 {u : Nat} (hu : u ≤ 8) : ∀ (l : LL), (∀ p ∈ l, ∃ i, i < u ∧ p.1 = nI i) → cnL u l = 0
  | [], _ => rfl
  | p :: t, h => by
    obtain ⟨i, hi, e⟩ := h p List.mem_cons_self
    show cnL u t + (if p.1 = nI u then 1 else 0) = 0
    rw [cnL_0 hu t (fun q hq => h q (List.mem_cons_of_mem _ hq)), e, if_neg (fun z => by have := (nI_eq (by omega) (by omega)).mp z; omega)]
theorem iv_add {B : Nat} {s : ST} (h : IV B s) {e c l : Int32} (hc : inR c 0 2 = true) (h8 : ¬ s 25 = 8) : IV B (newR s (uN s) e c l) := by
  obtain ⟨u, eu⟩ : ∃ u, u = uN s := ⟨_, rfl⟩
  unfold IV at h
  rw [← eu] at h ⊢
  obtain ⟨⟨v1, v2, v3, v4, v5, v6⟩, b, l0, ⟨c1, c2, c3⟩, g, w⟩ := h
  obtain ⟨cc, hcc, ec, _⟩ := inR_col hc
  have hu : u < 8 := by
    rcases Nat.lt_or_ge u 8 with q | q
    · exact q
    · exact absurd (by rw [v2, show u = 8 by omega]; rfl) h8
  have nt : ∀ j, j ≠ 25 → (j < 26 + 9 * u ∨ 26 + 9 * u + 9 ≤ j) → newR s u e c l j = s j := fun j h1 h2 => newR_nt s u e c l h1 h2
  have ru : ∀ i k, i < u → k < 9 → rN (newR s u e c l) i k = rN s i k := fun i k hi hk => nt _ (by omega) (by omega)
  have z : ∀ k, 3 ≤ k → k < 9 → rN (newR s u e c l) u k = 0 := fun k h1 h2 => newR_z s u e c l h1 h2
  have n1 : rN (newR s u e c l) u 1 = c := by
    show newR s u e c l (26 + 9 * u + 1) = c
    unfold newR; rw [upd_nt _ _ (by omega), upd_nt _ _ (by omega), upd_at]
  refine IV.of (u := u + 1) ⟨⟨by omega, by unfold newR; exact upd_at _ _ _, by rw [nt 24 (by omega) (by omega)]; exact v3, by rw [nt 99 (by omega) (by omega)]; exact v4, fun j hj => by rw [nt j (by omega) (by omega)]; exact v5 j hj, fun i hi => ?_⟩, fun r hr q k hk => ?_, l0, ⟨c1, by rw [nt 99 (by omega) (by omega)]; exact c2, fun k p hk => ?_⟩, fun p hp => ?_, fun i hi => ?_⟩
  · rcases Nat.lt_or_ge i u with q | q
    · rw [ru i 1 q (by omega), ru i 4 q (by omega), ru i 5 q (by omega), ru i 7 q (by omega), ru i 3 q (by omega)]; exact v6 i q
    · obtain rfl : i = u := by omega
      rw [n1, z 4 (by omega) (by omega), z 5 (by omega) (by omega), z 7 (by omega) (by omega), z 3 (by omega) (by omega)]
      exact ⟨⟨cc, hcc, ec⟩, ⟨0, by omega, rfl⟩, ⟨0, by omega, rfl⟩, .inl rfl, .inl rfl⟩
  · rw [nt _ (by omega) (by omega)] at q ⊢; exact b r hr q k hk
  · have := qlt hk
    rw [nt _ (by omega) (by omega), nt _ (by omega) (by omega)]; exact c3 k p hk
  · obtain ⟨⟨i, h1, h2⟩, h3⟩ := g p hp
    exact ⟨⟨i, by omega, h2⟩, h3⟩
  · rcases Nat.lt_or_ge i u with q | q
    · rw [ru i 8 q (by omega)]; exact w i q
    · obtain rfl : i = u := by omega
      exact ⟨0, Nat.zero_le _, z 8 (by omega) (by omega), by rw [cnL_0 v1 l0 (fun p hp => (g p hp).1)]; exact Nat.le_refl _⟩
/-- a change of one rule's numbers from 3 to 7 -/
theorem iv_ru {B u : Nat} {s t : ST} (h : TI B u s) {i : Nat} (hi : i < u) (nt : ∀ j, (j < 26 + 9 * i + 3 ∨ 26 + 9 * i + 8 ≤ j) → t j = s j) (a4 : ∃ r, r < 6 ∧ rN t i 4 = nI r) (a5 : ∃ c, c < 3 ∧ rN t i 5 = nI c) (a7 : rN t i 7 = 0 ∨ rN t i 7 = 1) (a3 : rN t i 3 = 0 ∨ rN t i 3 = 1 ∨ rN t i 3 = 2 ∨ rN t i 3 = 3) : TI B u t := by
  have hv := h.1
  obtain ⟨v1, v2, v3, v4, v5, v6⟩ := hv
  refine h.eq ⟨v1, by rw [nt 25 (by omega)]; exact v2, by rw [nt 24 (by omega)]; exact v3, by rw [nt 99 (by omega)]; exact v4, fun j hj => by rw [nt j (by omega)]; exact v5 j hj, fun k hk => ?_⟩ (fun j hj => nt j (by omega)) (fun k hk => ?_) (fun j h1 h2 => nt j (by omega))
  · by_cases q : k = i
    · subst q
      refine ⟨?_, a4, a5, a7, a3⟩
      rw [show rN t k 1 = rN s k 1 from nt _ (by omega)]; exact (v6 k hk).1
    · have e : ∀ w, w < 9 → rN t k w = rN s k w := fun w hw => nt _ (by omega)
      rw [e 1 (by omega), e 4 (by omega), e 5 (by omega), e 7 (by omega), e 3 (by omega)]; exact v6 k hk
  · exact nt _ (by omega)
theorem iv_mute {B : Nat} {s : ST} (h : IV B s) {r : Int32} (hr : inR r 0 (s 25 - 1) = true) : IV B (upd s (26 + 9 * r.toNatClampNeg + 7) (1 - rN s r.toNatClampNeg 7)) := by
  have hv := h.1
  obtain ⟨i, hi, _, er⟩ := inR_lt hv.2.1 (by have := hv.1; omega) hr
  rw [er]
  have h6 := hv.2.2.2.2.2 i hi
  have e : ∀ k, k ≠ 7 → rN (upd s (26 + 9 * i + 7) (1 - rN s i 7)) i k = rN s i k := fun k hk => upd_nt _ _ (by omega)
  refine IV.of (iv_ru h hi (fun j hj => upd_nt _ _ (by omega)) (by rw [e 4 (by omega)]; exact h6.2.1) (by rw [e 5 (by omega)]; exact h6.2.2.1) ?_ (by rw [e 3 (by omega)]; exact h6.2.2.2.2))
  rw [show rN (upd s (26 + 9 * i + 7) (1 - rN s i 7)) i 7 = 1 - rN s i 7 from upd_at _ _ _]
  rcases h6.2.2.2.1 with q | q <;> rw [q]
  · exact .inr rfl
  · exact .inl rfl
theorem iv_action {B : Nat} {s : ST} (h : IV B s) {r k ro c m : Int32} (hr : inR r 0 (s 25 - 1) = true) (hk : inR k 0 3 = true) (hro : inR ro 0 5 = true) (hc : inR c 0 2 = true) : IV B (upd (upd (upd (upd s (26 + 9 * r.toNatClampNeg + 3) k) (26 + 9 * r.toNatClampNeg + 4) ro) (26 + 9 * r.toNatClampNeg + 5) c) (26 + 9 * r.toNatClampNeg + 6) m) := by
  have hv := h.1
  obtain ⟨i, hi, _, er⟩ := inR_lt hv.2.1 (by have := hv.1; omega) hr
  rw [er]
  have h6 := hv.2.2.2.2.2 i hi
  obtain ⟨r1, h1, e1, _⟩ := inR_row hro
  obtain ⟨c1, h2, e2, _⟩ := inR_col hc
  obtain ⟨k1, h3, e3⟩ := inR_nI (n := 3) (by decide) hk
  obtain ⟨t, et⟩ : ∃ t, t = upd (upd (upd (upd s (26 + 9 * i + 3) k) (26 + 9 * i + 4) ro) (26 + 9 * i + 5) c) (26 + 9 * i + 6) m := ⟨_, rfl⟩
  rw [← et]
  have nt : ∀ j, j ≠ 26 + 9 * i + 3 → j ≠ 26 + 9 * i + 4 → j ≠ 26 + 9 * i + 5 → j ≠ 26 + 9 * i + 6 → t j = s j := fun j a b c d => by rw [et, upd_nt _ _ d, upd_nt _ _ c, upd_nt _ _ b, upd_nt _ _ a]
  have t3 : rN t i 3 = k := by show t (26 + 9 * i + 3) = k; rw [et, upd_nt _ _ (by omega), upd_nt _ _ (by omega), upd_nt _ _ (by omega), upd_at]
  have t4 : rN t i 4 = ro := by show t (26 + 9 * i + 4) = ro; rw [et, upd_nt _ _ (by omega), upd_nt _ _ (by omega), upd_at]
  have t5 : rN t i 5 = c := by show t (26 + 9 * i + 5) = c; rw [et, upd_nt _ _ (by omega), upd_at]
  refine IV.of (iv_ru h hi (fun j hj => nt j (by omega) (by omega) (by omega) (by omega)) ⟨r1, h1, t4.trans e1⟩ ⟨c1, h2, t5.trans e2⟩ ?_ ?_)
  · rw [show rN t i 7 = rN s i 7 from nt _ (by omega) (by omega) (by omega) (by omega)]; exact h6.2.2.2.1
  · rw [t3, e3]
    match k1, h3 with
    | 0, _ => exact .inl rfl
    | 1, _ => exact .inr (.inl rfl)
    | 2, _ => exact .inr (.inr (.inl rfl))
    | 3, _ => exact .inr (.inr (.inr rfl))
    | k1 + 4, h => exact absurd h (by omega)
theorem iv_depth {B : Nat} {s : ST} (h : IV B s) {v : Int32} (hv5 : inR v 0 5 = true) : IV B (upd s 24 v) := by
  obtain ⟨v1, v2, v3, v4, v5, v6⟩ := h.1
  obtain ⟨d, hd, ed⟩ := inR_nI (n := 5) (by decide) hv5
  have nt : ∀ j, j ≠ 24 → upd s 24 v j = s j := fun j hj => upd_nt _ _ hj
  have ru : ∀ i k, rN (upd s 24 v) i k = rN s i k := fun i k => nt _ (by omega)
  refine IV.of (TI.eq (u := uN s) h ⟨v1, by rw [nt 25 (by omega)]; exact v2, ⟨d, hd, by rw [upd_at]; exact ed⟩, by rw [nt 99 (by omega)]; exact v4, fun j hj => by rw [nt j (by omega)]; exact v5 j hj, fun i hi => ?_⟩ (fun j hj => nt j (by omega)) (fun i _ => ru i 8) (fun j h1 _ => nt j (by omega)))
  rw [ru, ru, ru, ru, ru]; exact v6 i hi
theorem LM_drop {s : ST} {u rl : Nat} {l : LL} (hv : VS u s) (hr : rl < u) (hm : LM s l) : LM (drS s u rl l.length) (fg rl l) := by
  have hu8 := hv.1
  obtain ⟨m1, m2, m3⟩ := hm
  obtain ⟨q1, q2, _⟩ := drL_l (rl := rl) (t := drB s u rl) m1 (fun k p hk => by have := qlt hk; rw [drB_hi s hr hu8 (by omega) (by omega), drB_hi s hr hu8 (by omega) (by omega)]; exact m3 k p hk) l.length (Nat.le_refl _)
  rw [List.take_length] at q1 q2
  have := fg_len rl l
  refine ⟨by omega, ?_, fun k p hk => ?_⟩
  · unfold drS; rw [upd_at, q1]
  · have := qlt hk
    unfold drS; rw [upd_nt _ _ (by omega), upd_nt _ _ (by omega)]
    exact q2 k p hk
theorem rnm_nI {rl i : Nat} (hi : i < 9) (hr : rl < 9) (h : i ≠ rl) : rnm rl (nI i) = nI (if i < rl then i else i - 1) := by
  unfold rnm
  by_cases q : i < rl
  · rw [if_pos ((nI_leI (by omega) (by omega)).mpr (by omega)), if_pos q]
  · rw [if_neg (fun z => by have := (nI_leI (by omega) (by omega)).mp z; omega), if_neg q]
    exact pk_sub (b := 1) (by omega)
theorem fg_mem {rl : Nat} {q : Int32 × Int32} : ∀ {l : LL}, q ∈ fg rl l → ∃ p ∈ l, ¬ p.1 = nI rl ∧ q = (rnm rl p.1, p.2)
  | [], h => nomatch h
  | p :: t, h => by
    have h2 : q ∈ (if p.1 = nI rl then fg rl t else (rnm rl p.1, p.2) :: fg rl t) := h
    by_cases c : p.1 = nI rl
    · rw [if_pos c] at h2
      obtain ⟨p', h3, h4⟩ := fg_mem h2
      exact ⟨p', List.mem_cons_of_mem _ h3, h4⟩
    · rw [if_neg c] at h2
      rcases List.mem_cons.mp h2 with h5 | h5
      · exact ⟨p, List.mem_cons_self, c, h5⟩
      · obtain ⟨p', h3, h4⟩ := fg_mem h5
        exact ⟨p', List.mem_cons_of_mem _ h3, h4⟩
theorem cnL_fg {u rl k : Nat} (hu : u ≤ 8) (hr : rl < u) (hk : k < u - 1) : ∀ (l : LL), (∀ p ∈ l, ∃ i, i < u ∧ p.1 = nI i) → cnL k (fg rl l) = cnL (if k < rl then k else k + 1) l
  | [], _ => rfl
  | p :: t, h => by
    obtain ⟨i, hi, e⟩ := h p List.mem_cons_self
    have ih := cnL_fg hu hr hk t (fun q hq => h q (List.mem_cons_of_mem _ hq))
    show cnL k (if p.1 = nI rl then fg rl t else (rnm rl p.1, p.2) :: fg rl t) = cnL (if k < rl then k else k + 1) t + (if p.1 = nI (if k < rl then k else k + 1) then 1 else 0)
    by_cases c : p.1 = nI rl
    · have hne : ¬ p.1 = nI (if k < rl then k else k + 1) := fun z => by
        rw [c] at z
        have := (nI_eq (by omega) (by split <;> omega)).mp z
        split at this <;> omega
      rw [if_pos c, ih, if_neg hne]
    · rw [if_neg c]
      have ci : i ≠ rl := fun z => c (by rw [e, z])
      show cnL k (fg rl t) + (if rnm rl p.1 = nI k then 1 else 0) = _
      rw [ih, e, rnm_nI (by omega) (by omega) ci]
      congr 1
      by_cases w : nI (if i < rl then i else i - 1) = nI k
      · have := (nI_eq (by split <;> omega) (by omega)).mp w
        rw [if_pos w, if_pos (congrArg nI (by split at this <;> split <;> omega))]
      · have hne : ¬ nI i = nI (if k < rl then k else k + 1) := fun z => by
          have := (nI_eq (by omega) (by split <;> omega)).mp z
          exact w (congrArg nI (by split at this <;> split <;> omega))
        rw [if_neg w, if_neg hne]
theorem iv_drop {B : Nat} {s : ST} (h : IV B s) {r : Int32} (hr : inR r 0 (s 25 - 1) = true) : IV B (drS s (uN s) r.toNatClampNeg (s 99).toNatClampNeg) := by
  obtain ⟨u, eu⟩ : ∃ u, u = uN s := ⟨_, rfl⟩
  unfold IV at h
  rw [← eu] at h ⊢
  obtain ⟨hv, b, l, lm, g, w⟩ := h
  have hu8 := hv.1
  obtain ⟨rl, hrl, _, er⟩ := inR_lt hv.2.1 (by omega) hr
  have m1 := lm.1
  rw [er, lm.2.1, nI_clamp (by omega)]
  have ld := LM_drop hv hrl lm
  obtain ⟨t, et⟩ : ∃ t, t = drS s u rl l.length := ⟨_, rfl⟩
  rw [← et] at ld ⊢
  have nt : ∀ j, j < 99 → t j = drB s u rl j := fun j hj => by rw [et]; unfold drS; rw [upd_nt _ _ (by omega), drL_nt _ _ (by omega)]
  have hi : ∀ j, j < 25 → t j = s j := fun j hj => by rw [nt j (by omega), drB_hi s hrl hu8 (by omega) (by omega)]
  have e25 : t 25 = nI (u - 1) := by rw [nt 25 (by omega)]; unfold drB shR; rw [if_neg (by omega), upd_at]
  have ru : ∀ i k, i < u - 1 → k < 9 → rN t i k = rN s (if i < rl then i else i + 1) k := fun i k h1 h2 => by
    rw [show rN t i k = rN (drB s u rl) i k from nt _ (by omega), drB_ru s hrl h1 h2]
  obtain ⟨v1, v2, v3, v4, v5, v6⟩ := hv
  refine IV.of (u := u - 1) ⟨⟨by omega, e25, by rw [hi 24 (by omega)]; exact v3, ⟨_, ld.1, ld.2.1⟩, fun j hj => by rw [hi j (by omega)]; exact v5 j hj, fun i h1 => ?_⟩, fun r1 hr1 q k hk => ?_, fg rl l, ld, fun q hq => ?_, fun i h1 => ?_⟩
  · rw [ru i 1 h1 (by omega), ru i 4 h1 (by omega), ru i 5 h1 (by omega), ru i 7 h1 (by omega), ru i 3 h1 (by omega)]
    exact v6 _ (by split <;> omega)
  · rw [hi _ (by omega)] at q ⊢; exact b r1 hr1 q k hk
  · obtain ⟨p, h1, h2, rfl⟩ := fg_mem hq
    obtain ⟨⟨i, h3, h4⟩, h5⟩ := g p h1
    have ci : i ≠ rl := fun z => h2 (by rw [h4, z])
    exact ⟨⟨if i < rl then i else i - 1, by split <;> omega, by rw [h4]; exact rnm_nI (by omega) (by omega) ci⟩, h5⟩
  · obtain ⟨m, a1, a2, a3⟩ := w (if i < rl then i else i + 1) (by split <;> omega)
    exact ⟨m, a1, by rw [ru i 8 h1 (by omega)]; exact a2, by rw [cnL_fg hu8 hrl h1 l (fun p hp => (g p hp).1)]; exact a3⟩
/-- one statement adds no more acts than this to a rule -/
abbrev BD : Nat := bdN 6
theorem si_0 {B u : Nat} {s : ST} (h : TI B u s) (a b c : Int32) : SI2 B u s (s, a, b, c) := by
  obtain ⟨l, hl, e⟩ := h.1.2.2.2.1
  exact ⟨h, rfl, l, l, Nat.le_refl _, hl, e, e⟩
theorem iv_fin {B u : Nat} {s : ST} {R : TT} (h : SI2 B u s R) (h0 : R.2.2.2 = 0) : IV B (fin R s) := by
  unfold fin
  rw [if_pos h0]
  have nt : ∀ j v, j ≠ 98 → upd R.1 98 v j = R.1 j := fun j v hj => upd_nt _ _ hj
  have hv := h.1.1
  have hu8 := hv.1
  obtain ⟨v1, v2, v3, v4, v5, v6⟩ := hv
  have ru : ∀ i k v, i < u → k < 9 → rN (upd R.1 98 v) i k = rN R.1 i k := fun i k v h1 h2 => nt _ _ (by omega)
  refine IV.of (u := u) (h.1.eq ⟨v1, by rw [nt 25 _ (by omega)]; exact v2, by rw [nt 24 _ (by omega)]; exact v3, by rw [nt 99 _ (by omega)]; exact v4, fun j hj => by rw [nt j _ (by omega)]; exact v5 j hj, fun i hi => ?_⟩ (fun j hj => nt j _ (by omega)) (fun i hi => ru i 8 _ hi (by omega)) (fun j h1 _ => nt j _ (by omega)))
  rw [ru i 1 _ hi (by omega), ru i 4 _ hi (by omega), ru i 5 _ hi (by omega), ru i 7 _ hi (by omega), ru i 3 _ hi (by omega)]; exact v6 i hi
theorem upd_SI {B u : Nat} {s : ST} (h : TI B u s) {r c : Nat} {v : Int32} (hr : r < 6) (hc : c < 3) (hv : inR v 0 999 = true) : SI2 (B + BD) u s (updR u s r c v) := by
  have h1 := fun a b c => (si_0 h a b c).up (Nat.le_add_right B BD)
  unfold updR
  split
  · exact h1 _ _ _
  · split
    · exact h1 _ _ _
    · exact hapT_SI 6 B _ 1 r c v 0 rfl hr hc ⟨fun _ => inR_va hv, fun q => absurd q (by decide)⟩ (si_0 h _ _ _)
theorem rem_SI {B u : Nat} {s : ST} (h : TI B u s) {r : Nat} (hr : r < 6) : SI2 (B + BD) u s (remR u s r) := by
  unfold remR
  split
  · exact hapT_SI 6 B _ 2 r 0 0 0 rfl hr (by decide) ⟨fun q => absurd q (by decide), fun q => absurd q (by decide)⟩ (si_0 h _ _ _)
  · exact (si_0 h _ _ _).up (Nat.le_add_right B BD)
theorem ins_SI {B u : Nat} {s : ST} (h : TI B u s) {r : Nat} {a b c : Int32} (hr : r < 6) (ha : inR a 0 999 = true) (hb : inR b 0 999 = true) (hc : inR c 0 999 = true) : SI2 (B + BD) u s (insR u s r a b c) := by
  unfold insR
  by_cases q : s r = 1
  · rw [if_pos q]; exact (si_0 h _ _ _).up (Nat.le_add_right B BD)
  · rw [if_neg q]
    obtain ⟨t, et⟩ : ∃ t, t = upd (upd (upd s (6 + 3 * r + 0) a) (6 + 3 * r + 1) b) (6 + 3 * r + 2) c := ⟨_, rfl⟩
    rw [← et]
    have nt : ∀ j, j ≠ 6 + 3 * r + 0 → j ≠ 6 + 3 * r + 1 → j ≠ 6 + 3 * r + 2 → t j = s j := fun j h1 h2 h3 => by rw [et, upd_nt _ _ h3, upd_nt _ _ h2, upd_nt _ _ h1]
    have hvt : VS u t := by rw [et]; exact VS_val (VS_val (VS_val h.1 a (by omega) (by omega)) b (by omega) (by omega)) c (by omega) (by omega)
    have hti : TI B u t := by
      obtain ⟨hv, g, l, ⟨c1, c2, c3⟩, e, w⟩ := h
      have hu8 := hv.1
      refine ⟨hvt, fun r1 hr1 z k hk => ?_, l, ⟨c1, by rw [nt 99 (by omega) (by omega) (by omega)]; exact c2, fun k p hk => ?_⟩, e, fun i hi => ?_⟩
      · have z2 : s r1 = 1 := by rw [← nt r1 (by omega) (by omega) (by omega)]; exact z
        have hne : r1 ≠ r := fun w => q (by rw [← w]; exact z2)
        rw [nt _ (by omega) (by omega) (by omega)]; exact g r1 hr1 z2 k hk
      · have := qlt hk
        rw [nt _ (by omega) (by omega) (by omega), nt _ (by omega) (by omega) (by omega)]; exact c3 k p hk
      · rw [show rN t i 8 = rN s i 8 from nt _ (by omega) (by omega) (by omega)]; exact w i hi
    have ht : SI2 B u s (t, 0, -1, 0) := by
      obtain ⟨l, hl, e⟩ := h.1.2.2.2.1
      exact ⟨hti, nt 98 (by omega) (by omega) (by omega), l, l, Nat.le_refl _, hl, e, (nt 99 (by omega) (by omega) (by omega)).trans e⟩
    have hVR : VR t r := fun k hk => match k, hk with
      | 0, _ => by rw [et, upd_nt _ _ (by omega), upd_nt _ _ (by omega), upd_at]; exact inR_va ha
      | 1, _ => by rw [et, upd_nt _ _ (by omega), upd_at]; exact inR_va hb
      | 2, _ => by rw [et, upd_at]; exact inR_va hc
      | k + 3, h => absurd h (by omega)
    exact hapT_SI 6 B (t, 0, -1, 0) 0 r 0 0 0 rfl hr (by decide) ⟨fun q => absurd q (by decide), fun _ => hVR⟩ ht
end
section
/-! ===== THE CONSTRUCTORS ===== -/
/-- two cells that the machine cannot tell apart -/
def cEq : Cel → Cel → Prop
  | .inl x, .inl y => x.1 = y.1 ∧ x.2.1 = y.2.1 ∧ ∀ j, j < x.2.1 → x.2.2 j = y.2.2 j
  | .inr x, .inr y => x.1 = y.1 ∧ ∀ r, vwCl[x.1]? = some r → ∀ j, j < r.2.2 → x.2 j = y.2 j
  | _, _ => False
theorem cEq.rf (c : Cel) : cEq c c := by
  cases c with
  | inl x => exact ⟨rfl, rfl, fun _ _ => rfl⟩
  | inr x => exact ⟨rfl, fun _ _ _ _ => rfl⟩
theorem arrV_to {c : ClassId} {N : Nat} {f g : Nat → Value} (h : ∀ j, j < N → f j = g j) : arrV c N f = arrV c N g := by
  unfold arrV
  rw [show (fun j : Fin N => f j.val) = (fun j : Fin N => g j.val) from funext fun j => h j.val j.isLt]
theorem at_c.eq {G : PG} {a : Nat} {c c' : Cel} {H : Heap} (e : cEq c c') (h : at_c G a c H) : at_c G a c' H := by
  cases c with
  | inl x =>
    cases c' with
    | inl y =>
      obtain ⟨e1, e2, e3⟩ := e
      show H[a]? = some (arrV (G.2.1 y.1) y.2.1 (fun j => cv G (y.2.2 j)))
      rw [← e1, ← e2, ← arrV_to (fun j hj => congrArg (cv G) (e3 j hj))]
      exact h
    | inr y => exact e.elim
  | inr x =>
    cases c' with
    | inl y => exact e.elim
    | inr y =>
      obtain ⟨e1, e3⟩ := e
      obtain ⟨r, h1, h2⟩ := h
      refine ⟨r, by rw [← e1]; exact h1, ?_⟩
      rw [← e1]
      exact h2.to (fun k hk => congrArg (cv G) (e3 r h1 k hk))
theorem pw_weak {M : Mth} {d n pc : Nat} {ls : List (Option Value)} {st : List Value} {h h' : Hp} {Q : Out → Hp → Prop} (hz : h'.1 = none ∨ h'.1 = h.1) (hc : ∀ k c', h'.2 k = some c' → ∃ c, h.2 k = some c ∧ cEq c c') (kk : PW M d n pc ls st h' Q) : PW M d n pc ls st h Q := by
  intro p l e R s m args below meth c G N H locs cells slots lsA C hc9 hs hR hS hl
  refine kk p l e R s m args below meth c G N H locs cells slots lsA C hc9 hs ⟨fun z ez => ?_, hR.2.1, fun k c' hk => ?_, hR.2.2.2⟩ hS hl
  · rcases hz with q | q
    · rw [q] at ez; cases ez
    · rw [q] at ez; exact hR.1 z ez
  · obtain ⟨c, q1, q2⟩ := hc k c' hk
    obtain ⟨q3, q4⟩ := hR.2.2.1 k c q1
    exact ⟨q3, q4.eq q2⟩
theorem cq_o {ci N : Nat} {C : String} {T : u_T} {ty : Nat → FieldType} {fs gs : Nat → Value} (hcl : Cls ci C T N ty) (h : ∀ k, k < N → fs k = gs k) : cEq (.inr (ci, fs)) (.inr (ci, gs)) :=
  ⟨rfl, fun r hr k hk => h k (by have e := hr.symm.trans hcl.1; cases e; exact hk)⟩
theorem cq_a {t : FieldType} {N : Nat} {f g : Nat → Value} (h : ∀ k, k < N → f k = g k) : cEq (.inl (t, N, f)) (.inl (t, N, g)) := ⟨rfl, rfl, h⟩
abbrev FM : Type := Nat → Option Cel
def ud (f : FM) (k : Nat) (c : Cel) : FM := fun j => if j = k then some c else f j
/-- block b is l -/
def hLf (b : Nat) (l f : FM) : FM := fun k => if 16 * b ≤ k ∧ k < 16 * b + 15 then l (k - 16 * b) else f k
theorem hLf_at (b : Nat) (l f : FM) {o : Nat} (ho : o < 15) : hLf b l f (16 * b + o) = l o := by
  unfold hLf
  rw [if_pos ⟨by omega, by omega⟩, Nat.add_sub_cancel_left]
theorem hLf_ud {b : Nat} {l f : FM} {o : Nat} {c : Cel} (ho : o < 15) : ud (hLf b l f) (16 * b + o) c = hLf b (ud l o c) f := by
  funext k
  show (if k = 16 * b + o then some c else hLf b l f k) = (if 16 * b ≤ k ∧ k < 16 * b + 15 then (if k - 16 * b = o then some c else l (k - 16 * b)) else f k)
  by_cases e : 16 * b ≤ k ∧ k < 16 * b + 15
  · rw [if_pos e]
    by_cases e2 : k = 16 * b + o
    · rw [if_pos e2, if_pos (by omega)]
    · rw [if_neg e2, if_neg (by omega)]; exact if_pos e
  · rw [if_neg e, if_neg (by omega)]; exact if_neg e
theorem hLf_ud0 {b : Nat} {l f : FM} {c : Cel} : ud (hLf b l f) (16 * b) c = hLf b (ud l 0 c) f := hLf_ud (o := 0) (by decide)
theorem lyb : ∀ b, b < 10 → ∀ o, o < 15 → lay (16 * b + o) = lay (16 * b) + o := by decide +kernel
theorem v_int (v : Int32) (G : PG) : narrow .int (cv G (.int v)) = cv G (.int v) ∧ fits .int (cv G (.int v)) = true := ⟨rfl, rfl⟩
section PWF
variable {M : Mth} {d n pc z : Nat} {ls : List (Option Value)} {st : List Value} {f : FM} {Q : Out → Hp → Prop}
theorem pF_new {idx ci k N z' : Nat} {C : String} {T : u_T} {ty : Nat → FieldType} (fs : Nat → Value) (hcl : Cls ci C T N ty) (hd : decode (mC M) pc = .ok (.new idx, 3)) (hk : k < 171) (hz : z = lay k) (hz' : z' = z + 1) (hlk : Cond.classLink (mY M).cls idx C ∈ UU) (hins : Cond.instantiable C N ∈ UU) (hini : Cond.initialized C ∈ UU) (hfs : ∀ j, j < N → ∀ G : PG, defaultValue (ty j) = cv G (fs j)) (hn : 1 ≤ n) (hN : N ≤ 1000) (kk : PW M d (n - 1) (pc + 3) ls (.ref k :: st) (some z', ud f k (.inr (ci, fs))) Q) : PW M d n pc ls st (some z, f) Q := by
  subst hz'; subst hz
  exact pw_new hcl hd (by omega) rfl (fun G _ q => q k hk) hlk hins hini hfs hn hN kk
theorem pF_newarray {atype : ArrayType} {t0 k N z' : Nat} {ty : FieldType} {x : Int32} {v0 : Value} (hd : decode (mC M) pc = .ok (.newarray atype, 2)) (hty : newarray.typeOf atype = ty) (ht : tyl[t0]? = some ty) (hra : ∀ (U : State) (cA : ClassId), va_RA U cA ty → U.vm.findClass ("[" ++ ty.toString) = some cA) (hk : k < 171) (hz : z = lay k) (hz' : z' = z + 1) (harr : Cond.arrayClass ty ∈ UU) (hx : ¬ x < 0) (hN : x.toNatClampNeg = N) (hN9 : N ≤ 1000) (hb : N * componentBytes ty ≤ 536870912) (hv0 : ∀ G : PG, defaultValue ty = cv G v0) (hn : 1 ≤ n) (kk : PW M d (n - 1) (pc + 2) ls (.ref k :: st) (some z', ud f k (.inl (ty, N, fun _ => v0))) Q) : PW M d n pc ls (.int x :: st) (some z, f) Q := by
  subst hz'; subst hz
  exact pw_newarray hd hty ht hra (by omega) rfl (fun G _ q => q k hk) harr hx hN hN9 hb hv0 hn kk
theorem pF_anewarray {idx t0 k N z' : Nat} {E : String} {x : Int32} (hd : decode (mC M) pc = .ok (.anewarray idx, 3)) (ht : tyl[t0]? = some (.object E)) (hk : k < 171) (hz : z = lay k) (hz' : z' = z + 1) (hlk : Cond.classLink (mY M).cls idx E ∈ UU) (hover : ∀ (G : PG) (U : State), OW G U → va_AO E U) (hx : ¬ x < 0) (hN : x.toNatClampNeg = N) (hN9 : N ≤ 1000) (hn : 1 ≤ n) (kk : PW M d (n - 1) (pc + 3) ls (.ref k :: st) (some z', ud f k (.inl (.object E, N, fun _ => .null))) Q) : PW M d n pc ls (.int x :: st) (some z, f) Q := by
  subst hz'; subst hz
  exact pw_anewarray hd ht (by omega) rfl (fun G _ q => q k hk) hlk hover hx hN hN9 hn kk
theorem pF_put {idx a ci k N : Nat} {C : String} {T : u_T} {ty : Nat → FieldType} {fs : Nat → Value} {v : Value} (hcl : Cls ci C T N ty) (hd : decode (mC M) pc = .ok (.putfield idx, 3)) (hc : f a = some (.inr (ci, fs))) (hk : k < N) (hlk : Cond.fieldLink (mY M).cls idx (T k).1 (T k).2.1 (T k).2.2.1 ∈ UU) (hfin : (T k).2.2.2 = false) (hv : ∀ G : PG, narrow (ty k) (cv G v) = cv G v ∧ fits (ty k) (cv G v) = true) (kk : PW M d n (pc + 3) ls st (some z, ud f a (.inr (ci, stF fs k v))) Q) : PW M d n pc ls (v :: .ref a :: st) (some z, f) Q :=
  pw_putfield hcl hd hc hk hlk hfin hv kk
theorem pF_putF {idx a ci k N : Nat} {C : String} {T : u_T} {ty : Nat → FieldType} {fs : Nat → Value} {v : Value} (hcl : Cls ci C T N ty) (hd : decode (mC M) pc = .ok (.putfield idx, 3)) (hc : f a = some (.inr (ci, fs))) (hk : k < N) (hlk : Cond.fieldLink (mY M).cls idx (T k).1 (T k).2.1 (T k).2.2.1 ∈ UU) (hfin : (T k).2.2.2 = true) (hin : (mY M).name = "<init>") (hdecl : (T k).1 = (mY M).cls) (hv : ∀ G : PG, narrow (ty k) (cv G v) = cv G v ∧ fits (ty k) (cv G v) = true) (kk : PW M d n (pc + 3) ls st (some z, ud f a (.inr (ci, stF fs k v))) Q) : PW M d n pc ls (v :: .ref a :: st) (some z, f) Q :=
  pw_putfinal hcl hd hc hk hlk hfin hin hdecl hv kk
theorem pF_get {idx a ci k N : Nat} {C : String} {T : u_T} {ty : Nat → FieldType} {fs : Nat → Value} {v : Value} (hcl : Cls ci C T N ty) (hd : decode (mC M) pc = .ok (.getfield idx, 3)) (hc : f a = some (.inr (ci, fs))) (hk : k < N) (hlk : Cond.fieldLink (mY M).cls idx (T k).1 (T k).2.1 (T k).2.2.1 ∈ UU) (hv : fs k = v) (kk : PW M d n (pc + 3) ls (v :: st) (some z, f) Q) : PW M d n pc ls (.ref a :: st) (some z, f) Q := by
  subst hv
  exact pw_getfield (h := (some z, f)) hcl hd hc hk hlk kk
theorem pF_aast {a n0 t0 b ci j : Nat} {E : String} {g fs : Nat → Value} {T : u_T} {N1 : Nat} {i : Int32} (hd : decode (mC M) pc = .ok (.aastore, 1)) (hc : f a = some (.inl (.object E, n0, g))) (ht : tyl[t0]? = some (.object E)) (hb : f b = some (.inr (ci, fs))) (hcl : vwCl[ci]? = some (E, T, N1)) (hin : vp_in i n0) (hj : i.toNatClampNeg = j) (kk : PW M d n (pc + 1) ls st (some z, ud f a (.inl (.object E, n0, stF g j (.ref b)))) Q) : PW M d n pc ls (.ref b :: .int i :: .ref a :: st) (some z, f) Q := by
  subst hj
  exact pw_aast (h := (some z, f)) hd hc ht hb hcl hin kk
theorem pF_iast {a n0 j : Nat} {g : Nat → Value} {i : Int32} {x : Int32} (hd : decode (mC M) pc = .ok (.iastore, 1)) (hc : f a = some (.inl (.int, n0, g))) (hin : vp_in i n0) (hj : i.toNatClampNeg = j) (kk : PW M d n (pc + 1) ls st (some z, ud f a (.inl (.int, n0, stF g j (.int x)))) Q) : PW M d n pc ls (.int x :: .int i :: .ref a :: st) (some z, f) Q := by
  subst hj
  exact pw_iast (h := (some z, f)) hd hc hin kk
end PWF
theorem ov_R (G : PG) (U : State) (h : OW G U) : va_AO "RowTriggers$Rule" U := h.2.2.2.2.2.1
theorem ov_S (G : PG) (U : State) (h : OW G U) : va_AO "RowTriggers$State" U := h.2.2.2.2.2.2
theorem ra_int : ∀ (U : State) (cA : ClassId), va_RA U cA .int → U.vm.findClass ("[" ++ FieldType.int.toString) = some cA := fun _ _ q => q
theorem ra_boolean : ∀ (U : State) (cA : ClassId), va_RA U cA .boolean → U.vm.findClass ("[" ++ FieldType.boolean.toString) = some cA := fun _ _ q => q
theorem ra_char : ∀ (U : State) (cA : ClassId), va_RA U cA .char → U.vm.findClass ("[" ++ FieldType.char.toString) = some cA := fun _ _ q => q
theorem ra_long : ∀ (U : State) (cA : ClassId), va_RA U cA .long → U.vm.findClass ("[" ++ FieldType.long.toString) = some cA := fun _ _ q => q
/-- the state of the start -/
def σ0 : SS := (fun _ => 0, fun _ => 0, fun _ _ => 0, fun _ => 0, fun _ => 0, fun _ => 0, fun k => if k = 1 then 3 else 0)
def blk (b : Nat) (f : FM) : FM := hLf b (fun o => stc b o σ0) f
def dF0 : Nat → Value := fun _ => .null
theorem dF0_ok : ∀ j, j < 1 → ∀ G : PG, defaultValue (tyX0 j) = cv G (dF0 j) := fun j hj G => match j, hj with
  | 0, _ => rfl
  | k + 1, h => absurd h (by omega)
def dF1 : Nat → Value := fun k => if k = 0 then .null else .int 0
theorem dF1_ok : ∀ j, j < 3 → ∀ G : PG, defaultValue (tyX1 j) = cv G (dF1 j) := fun j hj G => match j, hj with
  | 0, _ => rfl
  | 1, _ => rfl
  | 2, _ => rfl
  | k + 3, h => absurd h (by omega)
def dF2 : Nat → Value := fun k => if k = 0 then .null else if k = 1 then .null else .int 0
theorem dF2_ok : ∀ j, j < 4 → ∀ G : PG, defaultValue (tyX2 j) = cv G (dF2 j) := fun j hj G => match j, hj with
  | 0, _ => rfl
  | 1, _ => rfl
  | 2, _ => rfl
  | 3, _ => rfl
  | k + 4, h => absurd h (by omega)
def dF3 : Nat → Value := fun _ => .int 0
theorem dF3_ok : ∀ j, j < 9 → ∀ G : PG, defaultValue (tyX3 j) = cv G (dF3 j) := fun j hj G => match j, hj with
  | 0, _ => rfl
  | 1, _ => rfl
  | 2, _ => rfl
  | 3, _ => rfl
  | 4, _ => rfl
  | 5, _ => rfl
  | 6, _ => rfl
  | 7, _ => rfl
  | 8, _ => rfl
  | k + 9, h => absurd h (by omega)
def dF4 : Nat → Value := fun k => if k = 0 then .null else if k = 1 then .null else if k = 2 then .null else if k = 3 then .null else .int 0
theorem dF4_ok : ∀ j, j < 7 → ∀ G : PG, defaultValue (tyX4 j) = cv G (dF4 j) := fun j hj G => match j, hj with
  | 0, _ => rfl
  | 1, _ => rfl
  | 2, _ => rfl
  | 3, _ => rfl
  | 4, _ => rfl
  | 5, _ => rfl
  | 6, _ => rfl
  | k + 7, h => absurd h (by omega)
def dF5 : Nat → Value := fun k => if k = 0 then .null else .int 0
theorem dF5_ok : ∀ j, j < 4 → ∀ G : PG, defaultValue (tyX5 j) = cv G (dF5 j) := fun j hj G => match j, hj with
  | 0, _ => rfl
  | 1, _ => rfl
  | 2, _ => rfl
  | 3, _ => rfl
  | k + 4, h => absurd h (by omega)
def dF6 : Nat → Value := fun k => if k = 0 then .null else if k = 4 then .null else .int 0
theorem dF6_ok : ∀ j, j < 5 → ∀ G : PG, defaultValue (tyX6 j) = cv G (dF6 j) := fun j hj G => match j, hj with
  | 0, _ => rfl
  | 1, _ => rfl
  | 2, _ => rfl
  | 3, _ => rfl
  | 4, _ => rfl
  | k + 5, h => absurd h (by omega)
def dF7 : Nat → Value := fun _ => .null
theorem dF7_ok : ∀ j, j < 7 → ∀ G : PG, defaultValue (tyX7 j) = cv G (dF7 j) := fun j hj G => match j, hj with
  | 0, _ => rfl
  | 1, _ => rfl
  | 2, _ => rfl
  | 3, _ => rfl
  | 4, _ => rfl
  | 5, _ => rfl
  | 6, _ => rfl
  | k + 7, h => absurd h (by omega)
set_option maxRecDepth 100000 in
set_option maxHeartbeats 4000000 in
theorem ct_X3_init (k : Nat) (h : Hp) : CT MX3_init 1 0 [.ref k] h (Det (.inl none) h) := by
  refine ct_of (by decide +kernel) (by decide) rfl (k := 0) (ls := [some (.ref k)]) rfl (Nat.le_of_ble_eq_true rfl) ?_
  refine pw_aload_n (tk tkX3_init 0 rfl) rfl ?_
  refine pw_objInit (tk tkX3_init 1 rfl) mkX3_3 okObj coObj (by decide) (Nat.le_of_ble_eq_true rfl) ?_
  exact pw_return (tk tkX3_init 2 rfl) rfl (by decide) ⟨rfl, rfl⟩
set_option maxRecDepth 100000 in
set_option maxHeartbeats 4000000 in
theorem ct_X2_init (b : Nat) (hb : b < 10) (l f : FM) (hl : l 4 = some (.inr (2, dF2))) : CT MX2_init 1 2 [.ref (16 * b + 4)] (some (lay (16 * b) + 5), hLf b l f) (Det (.inl none) (some (lay (16 * b) + 7), hLf b (ud (ud (ud (ud l 5 (.inl (.int, 16, fun _ => .int 0))) 4 (.inr (2, (stF dF2 0 (.ref (16 * b + 5)))))) 6 (.inl (.int, 16, fun _ => .int 0))) 4 (.inr (2, (stF (stF dF2 0 (.ref (16 * b + 5))) 1 (.ref (16 * b + 6)))))) f)) := by
  refine ct_of (by decide +kernel) (by decide) rfl (k := 0) (ls := [some (.ref (16 * b + 4))]) rfl (Nat.le_of_ble_eq_true rfl) ?_
  refine pw_aload_n (tk tkX2_init 0 rfl) rfl ?_
  refine pw_objInit (tk tkX2_init 1 rfl) mkX2_3 okObj coObj (by decide) (Nat.le_of_ble_eq_true rfl) ?_
  refine pw_aload_n (tk tkX2_init 2 rfl) rfl ?_
  refine pw_bipush (v := 16) (tk tkX2_init 3 rfl) (by decide) ?_
  refine pF_newarray (t0 := 0) (k := (16 * b + 5)) (z' := (lay (16 * b) + 6)) (N := 16) (v0 := .int 0) (tk tkX2_init 4 rfl) rfl rfl ra_int (by omega) (lyb b hb 5 (by decide)).symm rfl ac_int (by decide) (by decide) (by decide) (by decide) (fun _ => rfl) (by decide) ?_
  rw [hLf_ud (o := 5) (by decide)]
  refine pF_putF (k := 0) clX2 (tk tkX2_init 5 rfl) (hLf_at b _ f (o := 4) (by decide) |>.trans hl) (by decide) fkX2_9 rfl rfl rfl (fun _ => ⟨rfl, rfl⟩) ?_
  rw [hLf_ud (o := 4) (by decide)]
  refine pw_aload_n (tk tkX2_init 6 rfl) rfl ?_
  refine pw_bipush (v := 16) (tk tkX2_init 7 rfl) (by decide) ?_
  refine pF_newarray (t0 := 0) (k := (16 * b + 6)) (z' := (lay (16 * b) + 7)) (N := 16) (v0 := .int 0) (tk tkX2_init 8 rfl) rfl rfl ra_int (by omega) (lyb b hb 6 (by decide)).symm rfl ac_int (by decide) (by decide) (by decide) (by decide) (fun _ => rfl) (by decide) ?_
  rw [hLf_ud (o := 6) (by decide)]
  refine pF_putF (k := 1) clX2 (tk tkX2_init 9 rfl) (hLf_at b _ f (o := 4) (by decide)) (by decide) fkX2_15 rfl rfl rfl (fun _ => ⟨rfl, rfl⟩) ?_
  rw [hLf_ud (o := 4) (by decide)]
  exact pw_return (tk tkX2_init 10 rfl) rfl (by decide) ⟨rfl, rfl⟩
theorem blk_weak {b : Nat} {l l' f : FM} (h : ∀ o, o < 15 → ∃ c c', l o = some c ∧ l' o = some c' ∧ cEq c c') {k : Nat} {c' : Cel} (hk : hLf b l' f k = some c') : ∃ c, hLf b l f k = some c ∧ cEq c c' := by
  unfold hLf at hk ⊢
  by_cases e : 16 * b ≤ k ∧ k < 16 * b + 15
  · rw [if_pos e] at hk ⊢
    obtain ⟨c, c9, h1, h2, h3⟩ := h (k - 16 * b) (by omega)
    rw [h2] at hk
    cases hk
    exact ⟨c, h1, h3⟩
  · rw [if_neg e] at hk ⊢
    exact ⟨c', hk, cEq.rf c'⟩
theorem st_in {b : Nat} {f : FM} {c0 : Cel} {k : Nat} {c' : Cel} (hk : hLf b (ud (fun _ => none) 0 c0) f k = some c') : ∃ c, ud f (16 * b) c0 k = some c ∧ cEq c c' := by
  unfold hLf at hk
  by_cases e : 16 * b ≤ k ∧ k < 16 * b + 15
  · rw [if_pos e] at hk
    unfold ud at hk ⊢
    by_cases e2 : k = 16 * b
    · rw [if_pos (show k - 16 * b = 0 by omega)] at hk
      rw [if_pos e2]
      cases hk
      exact ⟨_, rfl, cEq.rf _⟩
    · rw [if_neg (show ¬ k - 16 * b = 0 by omega)] at hk
      cases hk
  · rw [if_neg e] at hk
    unfold ud
    rw [if_neg (show ¬ k = 16 * b by omega)]
    exact ⟨c', hk, cEq.rf c'⟩
set_option maxRecDepth 100000 in
set_option maxHeartbeats 4000000 in
theorem ct_X4_init (b : Nat) (hb : b < 10) (f : FM) (z : Nat) (hz : z = lay (16 * b) + 1) : CT MX4_init 2 14 [.ref (16 * b)] (some z, ud f (16 * b) (.inr (4, dF4))) (Det (.inl none) (some (z + 14), blk b f)) := by
  subst hz
  refine ct_of (by decide +kernel) (by decide) rfl (k := 1) (ls := [some (.ref (16 * b)), none]) rfl (Nat.le_of_ble_eq_true rfl) ?_
  refine pw_weak (h' := (some (lay (16 * b) + 1), hLf b (ud (fun _ => none) 0 (.inr (4, dF4))) f)) (Or.inr rfl) (fun k c' hk => st_in hk) ?_
  refine pw_aload_n (tk tkX4_init 0 rfl) rfl ?_
  refine pw_objInit (tk tkX4_init 1 rfl) mkX4_3 okObj coObj (by decide) (Nat.le_of_ble_eq_true rfl) ?_
  refine pw_aload_n (tk tkX4_init 2 rfl) rfl ?_
  refine pw_bipush (v := 6) (tk tkX4_init 3 rfl) (by decide) ?_
  refine pF_newarray (t0 := 1) (k := (16 * b + 1)) (z' := (lay (16 * b) + 2)) (N := 6) (v0 := .int 0) (tk tkX4_init 4 rfl) rfl rfl ra_boolean (by omega) (lyb b hb 1 (by decide)).symm rfl ac_boolean (by decide) (by decide) (by decide) (by decide) (fun _ => rfl) (by decide) ?_
  rw [hLf_ud (o := 1) (by decide)]
  refine pF_putF (k := 0) clX4 (tk tkX4_init 5 rfl) (hLf_at b _ f (o := 0) (by decide)) (by decide) fkX4_9 rfl rfl rfl (fun _ => ⟨rfl, rfl⟩) ?_
  rw [hLf_ud0]
  refine pw_aload_n (tk tkX4_init 6 rfl) rfl ?_
  refine pw_bipush (v := 18) (tk tkX4_init 7 rfl) (by decide) ?_
  refine pF_newarray (t0 := 0) (k := (16 * b + 2)) (z' := (lay (16 * b) + 3)) (N := 18) (v0 := .int 0) (tk tkX4_init 8 rfl) rfl rfl ra_int (by omega) (lyb b hb 2 (by decide)).symm rfl ac_int (by decide) (by decide) (by decide) (by decide) (fun _ => rfl) (by decide) ?_
  rw [hLf_ud (o := 2) (by decide)]
  refine pF_putF (k := 1) clX4 (tk tkX4_init 9 rfl) (hLf_at b _ f (o := 0) (by decide)) (by decide) fkX4_15 rfl rfl rfl (fun _ => ⟨rfl, rfl⟩) ?_
  rw [hLf_ud0]
  refine pw_aload_n (tk tkX4_init 10 rfl) rfl ?_
  refine pw_bipush (v := 8) (tk tkX4_init 11 rfl) (by decide) ?_
  refine pF_anewarray (t0 := 4) (k := (16 * b + 3)) (z' := (lay (16 * b) + 4)) (N := 8) (tk tkX4_init 12 rfl) rfl (by omega) (lyb b hb 3 (by decide)).symm rfl ckX4_19 ov_R (by decide) (by decide) (by decide) (by decide) ?_
  rw [hLf_ud (o := 3) (by decide)]
  refine pF_putF (k := 2) clX4 (tk tkX4_init 13 rfl) (hLf_at b _ f (o := 0) (by decide)) (by decide) fkX4_21 rfl rfl rfl (fun _ => ⟨rfl, rfl⟩) ?_
  rw [hLf_ud0]
  refine pw_aload_n (tk tkX4_init 14 rfl) rfl ?_
  refine pF_new (k := (16 * b + 4)) (z' := (lay (16 * b) + 5)) dF2 clX2 (tk tkX4_init 15 rfl) (by omega) (lyb b hb 4 (by decide)).symm rfl ckX4_25 itX2 iiX2 dF2_ok (by decide) (by decide) ?_
  rw [hLf_ud (o := 4) (by decide)]
  refine pw_dup (tk tkX4_init 16 rfl) rfl ?_
  refine pw_cIN0 (ct_X2_init b hb _ f rfl) rfl okX2_init rfl rfl (tk tkX4_init 17 rfl) mkX4_27 imX2_init rfl rfl (by decide) (by decide) (Nat.le_of_ble_eq_true rfl) ?_
  refine pF_putF (k := 3) clX4 (tk tkX4_init 18 rfl) (hLf_at b _ f (o := 0) (by decide)) (by decide) fkX4_28 rfl rfl rfl (fun _ => ⟨rfl, rfl⟩) ?_
  rw [hLf_ud0]
  refine pw_aload_n (tk tkX4_init 19 rfl) rfl ?_
  refine pw_iconst (v := 3) (tk tkX4_init 20 rfl) (by decide) ?_
  refine pF_put (k := 5) clX4 (tk tkX4_init 21 rfl) (hLf_at b _ f (o := 0) (by decide)) (by decide) fkX4_32 rfl (fun _ => ⟨rfl, rfl⟩) ?_
  rw [hLf_ud0]
  refine pw_iconst (v := 0) (tk tkX4_init 22 rfl) (by decide) ?_
  refine pw_ist1 (tk tkX4_init 23 rfl) rfl (by decide) ?_
  refine pw_iload_n (tk tkX4_init 24 rfl) rfl ?_
  refine pw_bipush (v := 8) (tk tkX4_init 25 rfl) (by decide) ?_
  refine pw_icmp_ge (tgt := 72) (tk tkX4_init 26 rfl) (by decide) (fun c => absurd c (by decide)) (fun _ => ?_)
  refine pw_aload_n (tk tkX4_init 27 rfl) rfl ?_
  refine pF_get (k := 2) (v := .ref (16 * b + 3)) clX4 (tk tkX4_init 28 rfl) (hLf_at b _ f (o := 0) (by decide)) (by decide) fkX4_21 rfl ?_
  refine pw_iload_n (tk tkX4_init 29 rfl) rfl ?_
  refine pF_new (k := (16 * b + 7)) (z' := (lay (16 * b) + 8)) dF3 clX3 (tk tkX4_init 30 rfl) (by omega) (lyb b hb 7 (by decide)).symm rfl ckX4_19 itX3 iiX3 dF3_ok (by decide) (by decide) ?_
  rw [hLf_ud (o := 7) (by decide)]
  refine pw_dup (tk tkX4_init 31 rfl) rfl ?_
  refine pw_cIN0 (ct_X3_init (16 * b + 7) _) rfl okX3_init rfl rfl (tk tkX4_init 32 rfl) mkX4_36 imX3_init rfl rfl (by decide) (by decide) (Nat.le_of_ble_eq_true rfl) ?_
  refine pF_aast (t0 := 4) (j := 0) (tk tkX4_init 33 rfl) (hLf_at b _ f (o := 3) (by decide)) rfl (hLf_at b _ f (o := 7) (by decide)) rfl (by unfold vp_in; decide) (by decide) ?_
  rw [hLf_ud (o := 3) (by decide)]
  refine pw_inc1 (tk tkX4_init 34 rfl) rfl (by decide) (show (0 : Int32) + Int32.ofInt (1) = 1 from by decide) ?_
  refine pw_goto (tgt := 47) (tk tkX4_init 35 rfl) (by decide) ?_
  refine pw_iload_n (tk tkX4_init 24 rfl) rfl ?_
  refine pw_bipush (v := 8) (tk tkX4_init 25 rfl) (by decide) ?_
  refine pw_icmp_ge (tgt := 72) (tk tkX4_init 26 rfl) (by decide) (fun c => absurd c (by decide)) (fun _ => ?_)
  refine pw_aload_n (tk tkX4_init 27 rfl) rfl ?_
  refine pF_get (k := 2) (v := .ref (16 * b + 3)) clX4 (tk tkX4_init 28 rfl) (hLf_at b _ f (o := 0) (by decide)) (by decide) fkX4_21 rfl ?_
  refine pw_iload_n (tk tkX4_init 29 rfl) rfl ?_
  refine pF_new (k := (16 * b + 8)) (z' := (lay (16 * b) + 9)) dF3 clX3 (tk tkX4_init 30 rfl) (by omega) (lyb b hb 8 (by decide)).symm rfl ckX4_19 itX3 iiX3 dF3_ok (by decide) (by decide) ?_
  rw [hLf_ud (o := 8) (by decide)]
  refine pw_dup (tk tkX4_init 31 rfl) rfl ?_
  refine pw_cIN0 (ct_X3_init (16 * b + 8) _) rfl okX3_init rfl rfl (tk tkX4_init 32 rfl) mkX4_36 imX3_init rfl rfl (by decide) (by decide) (Nat.le_of_ble_eq_true rfl) ?_
  refine pF_aast (t0 := 4) (j := 1) (tk tkX4_init 33 rfl) (hLf_at b _ f (o := 3) (by decide)) rfl (hLf_at b _ f (o := 8) (by decide)) rfl (by unfold vp_in; decide) (by decide) ?_
  rw [hLf_ud (o := 3) (by decide)]
  refine pw_inc1 (tk tkX4_init 34 rfl) rfl (by decide) (show (1 : Int32) + Int32.ofInt (1) = 2 from by decide) ?_
  refine pw_goto (tgt := 47) (tk tkX4_init 35 rfl) (by decide) ?_
  refine pw_iload_n (tk tkX4_init 24 rfl) rfl ?_
  refine pw_bipush (v := 8) (tk tkX4_init 25 rfl) (by decide) ?_
  refine pw_icmp_ge (tgt := 72) (tk tkX4_init 26 rfl) (by decide) (fun c => absurd c (by decide)) (fun _ => ?_)
  refine pw_aload_n (tk tkX4_init 27 rfl) rfl ?_
  refine pF_get (k := 2) (v := .ref (16 * b + 3)) clX4 (tk tkX4_init 28 rfl) (hLf_at b _ f (o := 0) (by decide)) (by decide) fkX4_21 rfl ?_
  refine pw_iload_n (tk tkX4_init 29 rfl) rfl ?_
  refine pF_new (k := (16 * b + 9)) (z' := (lay (16 * b) + 10)) dF3 clX3 (tk tkX4_init 30 rfl) (by omega) (lyb b hb 9 (by decide)).symm rfl ckX4_19 itX3 iiX3 dF3_ok (by decide) (by decide) ?_
  rw [hLf_ud (o := 9) (by decide)]
  refine pw_dup (tk tkX4_init 31 rfl) rfl ?_
  refine pw_cIN0 (ct_X3_init (16 * b + 9) _) rfl okX3_init rfl rfl (tk tkX4_init 32 rfl) mkX4_36 imX3_init rfl rfl (by decide) (by decide) (Nat.le_of_ble_eq_true rfl) ?_
  refine pF_aast (t0 := 4) (j := 2) (tk tkX4_init 33 rfl) (hLf_at b _ f (o := 3) (by decide)) rfl (hLf_at b _ f (o := 9) (by decide)) rfl (by unfold vp_in; decide) (by decide) ?_
  rw [hLf_ud (o := 3) (by decide)]
  refine pw_inc1 (tk tkX4_init 34 rfl) rfl (by decide) (show (2 : Int32) + Int32.ofInt (1) = 3 from by decide) ?_
  refine pw_goto (tgt := 47) (tk tkX4_init 35 rfl) (by decide) ?_
  refine pw_iload_n (tk tkX4_init 24 rfl) rfl ?_
  refine pw_bipush (v := 8) (tk tkX4_init 25 rfl) (by decide) ?_
  refine pw_icmp_ge (tgt := 72) (tk tkX4_init 26 rfl) (by decide) (fun c => absurd c (by decide)) (fun _ => ?_)
  refine pw_aload_n (tk tkX4_init 27 rfl) rfl ?_
  refine pF_get (k := 2) (v := .ref (16 * b + 3)) clX4 (tk tkX4_init 28 rfl) (hLf_at b _ f (o := 0) (by decide)) (by decide) fkX4_21 rfl ?_
  refine pw_iload_n (tk tkX4_init 29 rfl) rfl ?_
  refine pF_new (k := (16 * b + 10)) (z' := (lay (16 * b) + 11)) dF3 clX3 (tk tkX4_init 30 rfl) (by omega) (lyb b hb 10 (by decide)).symm rfl ckX4_19 itX3 iiX3 dF3_ok (by decide) (by decide) ?_
  rw [hLf_ud (o := 10) (by decide)]
  refine pw_dup (tk tkX4_init 31 rfl) rfl ?_
  refine pw_cIN0 (ct_X3_init (16 * b + 10) _) rfl okX3_init rfl rfl (tk tkX4_init 32 rfl) mkX4_36 imX3_init rfl rfl (by decide) (by decide) (Nat.le_of_ble_eq_true rfl) ?_
  refine pF_aast (t0 := 4) (j := 3) (tk tkX4_init 33 rfl) (hLf_at b _ f (o := 3) (by decide)) rfl (hLf_at b _ f (o := 10) (by decide)) rfl (by unfold vp_in; decide) (by decide) ?_
  rw [hLf_ud (o := 3) (by decide)]
  refine pw_inc1 (tk tkX4_init 34 rfl) rfl (by decide) (show (3 : Int32) + Int32.ofInt (1) = 4 from by decide) ?_
  refine pw_goto (tgt := 47) (tk tkX4_init 35 rfl) (by decide) ?_
  refine pw_iload_n (tk tkX4_init 24 rfl) rfl ?_
  refine pw_bipush (v := 8) (tk tkX4_init 25 rfl) (by decide) ?_
  refine pw_icmp_ge (tgt := 72) (tk tkX4_init 26 rfl) (by decide) (fun c => absurd c (by decide)) (fun _ => ?_)
  refine pw_aload_n (tk tkX4_init 27 rfl) rfl ?_
  refine pF_get (k := 2) (v := .ref (16 * b + 3)) clX4 (tk tkX4_init 28 rfl) (hLf_at b _ f (o := 0) (by decide)) (by decide) fkX4_21 rfl ?_
  refine pw_iload_n (tk tkX4_init 29 rfl) rfl ?_
  refine pF_new (k := (16 * b + 11)) (z' := (lay (16 * b) + 12)) dF3 clX3 (tk tkX4_init 30 rfl) (by omega) (lyb b hb 11 (by decide)).symm rfl ckX4_19 itX3 iiX3 dF3_ok (by decide) (by decide) ?_
  rw [hLf_ud (o := 11) (by decide)]
  refine pw_dup (tk tkX4_init 31 rfl) rfl ?_
  refine pw_cIN0 (ct_X3_init (16 * b + 11) _) rfl okX3_init rfl rfl (tk tkX4_init 32 rfl) mkX4_36 imX3_init rfl rfl (by decide) (by decide) (Nat.le_of_ble_eq_true rfl) ?_
  refine pF_aast (t0 := 4) (j := 4) (tk tkX4_init 33 rfl) (hLf_at b _ f (o := 3) (by decide)) rfl (hLf_at b _ f (o := 11) (by decide)) rfl (by unfold vp_in; decide) (by decide) ?_
  rw [hLf_ud (o := 3) (by decide)]
  refine pw_inc1 (tk tkX4_init 34 rfl) rfl (by decide) (show (4 : Int32) + Int32.ofInt (1) = 5 from by decide) ?_
  refine pw_goto (tgt := 47) (tk tkX4_init 35 rfl) (by decide) ?_
  refine pw_iload_n (tk tkX4_init 24 rfl) rfl ?_
  refine pw_bipush (v := 8) (tk tkX4_init 25 rfl) (by decide) ?_
  refine pw_icmp_ge (tgt := 72) (tk tkX4_init 26 rfl) (by decide) (fun c => absurd c (by decide)) (fun _ => ?_)
  refine pw_aload_n (tk tkX4_init 27 rfl) rfl ?_
  refine pF_get (k := 2) (v := .ref (16 * b + 3)) clX4 (tk tkX4_init 28 rfl) (hLf_at b _ f (o := 0) (by decide)) (by decide) fkX4_21 rfl ?_
  refine pw_iload_n (tk tkX4_init 29 rfl) rfl ?_
  refine pF_new (k := (16 * b + 12)) (z' := (lay (16 * b) + 13)) dF3 clX3 (tk tkX4_init 30 rfl) (by omega) (lyb b hb 12 (by decide)).symm rfl ckX4_19 itX3 iiX3 dF3_ok (by decide) (by decide) ?_
  rw [hLf_ud (o := 12) (by decide)]
  refine pw_dup (tk tkX4_init 31 rfl) rfl ?_
  refine pw_cIN0 (ct_X3_init (16 * b + 12) _) rfl okX3_init rfl rfl (tk tkX4_init 32 rfl) mkX4_36 imX3_init rfl rfl (by decide) (by decide) (Nat.le_of_ble_eq_true rfl) ?_
  refine pF_aast (t0 := 4) (j := 5) (tk tkX4_init 33 rfl) (hLf_at b _ f (o := 3) (by decide)) rfl (hLf_at b _ f (o := 12) (by decide)) rfl (by unfold vp_in; decide) (by decide) ?_
  rw [hLf_ud (o := 3) (by decide)]
  refine pw_inc1 (tk tkX4_init 34 rfl) rfl (by decide) (show (5 : Int32) + Int32.ofInt (1) = 6 from by decide) ?_
  refine pw_goto (tgt := 47) (tk tkX4_init 35 rfl) (by decide) ?_
  refine pw_iload_n (tk tkX4_init 24 rfl) rfl ?_
  refine pw_bipush (v := 8) (tk tkX4_init 25 rfl) (by decide) ?_
  refine pw_icmp_ge (tgt := 72) (tk tkX4_init 26 rfl) (by decide) (fun c => absurd c (by decide)) (fun _ => ?_)
  refine pw_aload_n (tk tkX4_init 27 rfl) rfl ?_
  refine pF_get (k := 2) (v := .ref (16 * b + 3)) clX4 (tk tkX4_init 28 rfl) (hLf_at b _ f (o := 0) (by decide)) (by decide) fkX4_21 rfl ?_
  refine pw_iload_n (tk tkX4_init 29 rfl) rfl ?_
  refine pF_new (k := (16 * b + 13)) (z' := (lay (16 * b) + 14)) dF3 clX3 (tk tkX4_init 30 rfl) (by omega) (lyb b hb 13 (by decide)).symm rfl ckX4_19 itX3 iiX3 dF3_ok (by decide) (by decide) ?_
  rw [hLf_ud (o := 13) (by decide)]
  refine pw_dup (tk tkX4_init 31 rfl) rfl ?_
  refine pw_cIN0 (ct_X3_init (16 * b + 13) _) rfl okX3_init rfl rfl (tk tkX4_init 32 rfl) mkX4_36 imX3_init rfl rfl (by decide) (by decide) (Nat.le_of_ble_eq_true rfl) ?_
  refine pF_aast (t0 := 4) (j := 6) (tk tkX4_init 33 rfl) (hLf_at b _ f (o := 3) (by decide)) rfl (hLf_at b _ f (o := 13) (by decide)) rfl (by unfold vp_in; decide) (by decide) ?_
  rw [hLf_ud (o := 3) (by decide)]
  refine pw_inc1 (tk tkX4_init 34 rfl) rfl (by decide) (show (6 : Int32) + Int32.ofInt (1) = 7 from by decide) ?_
  refine pw_goto (tgt := 47) (tk tkX4_init 35 rfl) (by decide) ?_
  refine pw_iload_n (tk tkX4_init 24 rfl) rfl ?_
  refine pw_bipush (v := 8) (tk tkX4_init 25 rfl) (by decide) ?_
  refine pw_icmp_ge (tgt := 72) (tk tkX4_init 26 rfl) (by decide) (fun c => absurd c (by decide)) (fun _ => ?_)
  refine pw_aload_n (tk tkX4_init 27 rfl) rfl ?_
  refine pF_get (k := 2) (v := .ref (16 * b + 3)) clX4 (tk tkX4_init 28 rfl) (hLf_at b _ f (o := 0) (by decide)) (by decide) fkX4_21 rfl ?_
  refine pw_iload_n (tk tkX4_init 29 rfl) rfl ?_
  refine pF_new (k := (16 * b + 14)) (z' := (lay (16 * b) + 15)) dF3 clX3 (tk tkX4_init 30 rfl) (by omega) (lyb b hb 14 (by decide)).symm rfl ckX4_19 itX3 iiX3 dF3_ok (by decide) (by decide) ?_
  rw [hLf_ud (o := 14) (by decide)]
  refine pw_dup (tk tkX4_init 31 rfl) rfl ?_
  refine pw_cIN0 (ct_X3_init (16 * b + 14) _) rfl okX3_init rfl rfl (tk tkX4_init 32 rfl) mkX4_36 imX3_init rfl rfl (by decide) (by decide) (Nat.le_of_ble_eq_true rfl) ?_
  refine pF_aast (t0 := 4) (j := 7) (tk tkX4_init 33 rfl) (hLf_at b _ f (o := 3) (by decide)) rfl (hLf_at b _ f (o := 14) (by decide)) rfl (by unfold vp_in; decide) (by decide) ?_
  rw [hLf_ud (o := 3) (by decide)]
  refine pw_inc1 (tk tkX4_init 34 rfl) rfl (by decide) (show (7 : Int32) + Int32.ofInt (1) = 8 from by decide) ?_
  refine pw_goto (tgt := 47) (tk tkX4_init 35 rfl) (by decide) ?_
  refine pw_iload_n (tk tkX4_init 24 rfl) rfl ?_
  refine pw_bipush (v := 8) (tk tkX4_init 25 rfl) (by decide) ?_
  refine pw_icmp_ge (tgt := 72) (tk tkX4_init 26 rfl) (by decide) (fun _ => ?_) (fun c => absurd (show (8 : Int32) ≥ 8 by decide) c)
  refine pw_weak (h' := (some (lay (16 * b) + 15), hLf b (fun o => stc b o σ0) f)) (Or.inr rfl) (fun k c' hk => ?_) ?_
  · exact blk_weak (l' := fun o => stc b o σ0) (f := f) (fun o ho => match o, ho with
      | 0, _ => ⟨_, _, rfl, rfl, cq_o clX4 (fun k hk => match k, hk with
        | 0, _ => rfl
        | 1, _ => rfl
        | 2, _ => rfl
        | 3, _ => rfl
        | 4, _ => rfl
        | 5, _ => rfl
        | 6, _ => rfl
        | k + 7, h => absurd h (by omega))⟩
      | 1, _ => ⟨_, _, rfl, rfl, cq_a (fun _ _ => rfl)⟩
      | 2, _ => ⟨_, _, rfl, rfl, cq_a (fun _ _ => rfl)⟩
      | 3, _ => ⟨_, _, rfl, rfl, cq_a (fun k hk => match k, hk with
        | 0, _ => rfl
        | 1, _ => rfl
        | 2, _ => rfl
        | 3, _ => rfl
        | 4, _ => rfl
        | 5, _ => rfl
        | 6, _ => rfl
        | 7, _ => rfl
        | k + 8, h => absurd h (by omega))⟩
      | 4, _ => ⟨_, _, rfl, rfl, cq_o clX2 (fun k hk => match k, hk with
        | 0, _ => rfl
        | 1, _ => rfl
        | 2, _ => rfl
        | 3, _ => rfl
        | k + 4, h => absurd h (by omega))⟩
      | 5, _ => ⟨_, _, rfl, rfl, cq_a (fun _ _ => rfl)⟩
      | 6, _ => ⟨_, _, rfl, rfl, cq_a (fun _ _ => rfl)⟩
      | 7, _ => ⟨_, _, rfl, rfl, cq_o clX3 (fun _ _ => rfl)⟩
      | 8, _ => ⟨_, _, rfl, rfl, cq_o clX3 (fun _ _ => rfl)⟩
      | 9, _ => ⟨_, _, rfl, rfl, cq_o clX3 (fun _ _ => rfl)⟩
      | 10, _ => ⟨_, _, rfl, rfl, cq_o clX3 (fun _ _ => rfl)⟩
      | 11, _ => ⟨_, _, rfl, rfl, cq_o clX3 (fun _ _ => rfl)⟩
      | 12, _ => ⟨_, _, rfl, rfl, cq_o clX3 (fun _ _ => rfl)⟩
      | 13, _ => ⟨_, _, rfl, rfl, cq_o clX3 (fun _ _ => rfl)⟩
      | 14, _ => ⟨_, _, rfl, rfl, cq_o clX3 (fun _ _ => rfl)⟩
      | k + 15, h => absurd h (by omega)) hk
  exact pw_return (tk tkX4_init 36 rfl) rfl (by decide) ⟨rfl, rfl⟩
end
section
set_option maxRecDepth 100000 in
set_option maxHeartbeats 4000000 in
theorem ct_X5_init (f : FM) : CT MX5_init 3 15 [.ref 161] (some 17, (ud f 161 (.inr (5, dF5)))) (Det (.inl none) (some 32, (ud (blk 1 (ud f 161 (.inr (5, dF5)))) 161 (.inr (5, (stF dF5 0 (.ref 16))))))) := by
  refine ct_of (by decide +kernel) (by decide) rfl (k := 0) (ls := [some (.ref 161)]) rfl (Nat.le_of_ble_eq_true rfl) ?_
  refine pw_aload_n (tk tkX5_init 0 rfl) rfl ?_
  refine pw_objInit (tk tkX5_init 1 rfl) mkX5_3 okObj coObj (by decide) (Nat.le_of_ble_eq_true rfl) ?_
  refine pw_aload_n (tk tkX5_init 2 rfl) rfl ?_
  refine pF_new (k := 16) (z' := 18) dF4 clX4 (tk tkX5_init 3 rfl) (by omega) (by decide +kernel) rfl ckX5_9 itX4 iiX4 dF4_ok (by decide) (by decide) ?_
  refine pw_dup (tk tkX5_init 4 rfl) rfl ?_
  refine pw_cI0 (ct_X4_init 1 (by decide) _ _ (by decide +kernel)) rfl okX4_init rfl rfl (tk tkX5_init 5 rfl) mkX5_11 imX4_init rfl rfl (by decide) (by decide) (Nat.le_of_ble_eq_true rfl) ?_
  refine pF_putF (k := 0) clX5 (tk tkX5_init 6 rfl) rfl (by decide) fkX5_12 rfl rfl rfl (fun _ => ⟨rfl, rfl⟩) ?_
  exact pw_return (tk tkX5_init 7 rfl) rfl (by decide) ⟨rfl, rfl⟩
set_option maxRecDepth 100000 in
set_option maxHeartbeats 4000000 in
theorem ct_X0_init (f : FM) : CT MX0_init 1 1 [.ref 162] (some 33, (ud f 162 (.inr (0, dF0)))) (Det (.inl none) (some 34, (ud (ud (ud f 162 (.inr (0, dF0))) 163 (.inl (.int, 8, fun _ => .int 0))) 162 (.inr (0, (stF dF0 0 (.ref 163))))))) := by
  refine ct_of (by decide +kernel) (by decide) rfl (k := 0) (ls := [some (.ref 162)]) rfl (Nat.le_of_ble_eq_true rfl) ?_
  refine pw_aload_n (tk tkX0_init 0 rfl) rfl ?_
  refine pw_objInit (tk tkX0_init 1 rfl) mkX0_3 okObj coObj (by decide) (Nat.le_of_ble_eq_true rfl) ?_
  refine pw_aload_n (tk tkX0_init 2 rfl) rfl ?_
  refine pw_bipush (v := 8) (tk tkX0_init 3 rfl) (by decide) ?_
  refine pF_newarray (t0 := 0) (k := 163) (z' := 34) (N := 8) (v0 := .int 0) (tk tkX0_init 4 rfl) rfl rfl ra_int (by omega) (by decide +kernel) rfl ac_int (by decide) (by decide) (by decide) (by decide) (fun _ => rfl) (by decide) ?_
  refine pF_putF (k := 0) clX0 (tk tkX0_init 5 rfl) rfl (by decide) fkX0_9 rfl rfl rfl (fun _ => ⟨rfl, rfl⟩) ?_
  exact pw_return (tk tkX0_init 6 rfl) rfl (by decide) ⟨rfl, rfl⟩
set_option maxRecDepth 100000 in
set_option maxHeartbeats 4000000 in
theorem ct_X6_init (f : FM) : CT MX6_init 1 2 [.ref 164] (some 35, (ud f 164 (.inr (6, dF6)))) (Det (.inl none) (some 37, (ud (ud (ud (ud (ud f 164 (.inr (6, dF6))) 165 (.inl (.char, 80, fun _ => .int 0))) 164 (.inr (6, (stF dF6 0 (.ref 165))))) 166 (.inl (.int, 4, fun _ => .int 0))) 164 (.inr (6, (stF (stF dF6 0 (.ref 165)) 4 (.ref 166))))))) := by
  refine ct_of (by decide +kernel) (by decide) rfl (k := 0) (ls := [some (.ref 164)]) rfl (Nat.le_of_ble_eq_true rfl) ?_
  refine pw_aload_n (tk tkX6_init 0 rfl) rfl ?_
  refine pw_objInit (tk tkX6_init 1 rfl) mkX6_3 okObj coObj (by decide) (Nat.le_of_ble_eq_true rfl) ?_
  refine pw_aload_n (tk tkX6_init 2 rfl) rfl ?_
  refine pw_bipush (v := 80) (tk tkX6_init 3 rfl) (by decide) ?_
  refine pF_newarray (t0 := 2) (k := 165) (z' := 36) (N := 80) (v0 := .int 0) (tk tkX6_init 4 rfl) rfl rfl ra_char (by omega) (by decide +kernel) rfl ac_char (by decide) (by decide) (by decide) (by decide) (fun _ => rfl) (by decide) ?_
  refine pF_putF (k := 0) clX6 (tk tkX6_init 5 rfl) rfl (by decide) fkX6_9 rfl rfl rfl (fun _ => ⟨rfl, rfl⟩) ?_
  refine pw_aload_n (tk tkX6_init 6 rfl) rfl ?_
  refine pw_iconst (v := 4) (tk tkX6_init 7 rfl) (by decide) ?_
  refine pF_newarray (t0 := 0) (k := 166) (z' := 37) (N := 4) (v0 := .int 0) (tk tkX6_init 8 rfl) rfl rfl ra_int (by omega) (by decide +kernel) rfl ac_int (by decide) (by decide) (by decide) (by decide) (fun _ => rfl) (by decide) ?_
  refine pF_putF (k := 4) clX6 (tk tkX6_init 9 rfl) rfl (by decide) fkX6_15 rfl rfl rfl (fun _ => ⟨rfl, rfl⟩) ?_
  exact pw_return (tk tkX6_init 10 rfl) rfl (by decide) ⟨rfl, rfl⟩
set_option maxRecDepth 100000 in
set_option maxHeartbeats 4000000 in
theorem ct_X1_init (f : FM) : CT MX1_init 3 91 [.ref 167] (some 38, (ud f 167 (.inr (1, dF1)))) (Det (.inl none) (some 129, (ud (blk 7 (ud (blk 6 (ud (blk 5 (ud (blk 4 (ud (blk 3 (ud (blk 2 (ud (ud (ud f 167 (.inr (1, dF1))) 168 (.inl (.object "RowTriggers$State", 6, fun _ => .null))) 167 (.inr (1, (stF dF1 0 (.ref 168)))))) 168 (.inl (.object "RowTriggers$State", 6, (stF (fun _ => .null) 0 (.ref 32)))))) 168 (.inl (.object "RowTriggers$State", 6, (stF (stF (fun _ => .null) 0 (.ref 32)) 1 (.ref 48)))))) 168 (.inl (.object "RowTriggers$State", 6, (stF (stF (stF (fun _ => .null) 0 (.ref 32)) 1 (.ref 48)) 2 (.ref 64)))))) 168 (.inl (.object "RowTriggers$State", 6, (stF (stF (stF (stF (fun _ => .null) 0 (.ref 32)) 1 (.ref 48)) 2 (.ref 64)) 3 (.ref 80)))))) 168 (.inl (.object "RowTriggers$State", 6, (stF (stF (stF (stF (stF (fun _ => .null) 0 (.ref 32)) 1 (.ref 48)) 2 (.ref 64)) 3 (.ref 80)) 4 (.ref 96)))))) 168 (.inl (.object "RowTriggers$State", 6, (stF (stF (stF (stF (stF (stF (fun _ => .null) 0 (.ref 32)) 1 (.ref 48)) 2 (.ref 64)) 3 (.ref 80)) 4 (.ref 96)) 5 (.ref 112))))))) := by
  refine ct_of (by decide +kernel) (by decide) rfl (k := 1) (ls := [some (.ref 167), none]) rfl (Nat.le_of_ble_eq_true rfl) ?_
  refine pw_aload_n (tk tkX1_init 0 rfl) rfl ?_
  refine pw_objInit (tk tkX1_init 1 rfl) mkX1_3 okObj coObj (by decide) (Nat.le_of_ble_eq_true rfl) ?_
  refine pw_aload_n (tk tkX1_init 2 rfl) rfl ?_
  refine pw_bipush (v := 6) (tk tkX1_init 3 rfl) (by decide) ?_
  refine pF_anewarray (t0 := 5) (k := 168) (z' := 39) (N := 6) (tk tkX1_init 4 rfl) rfl (by omega) (by decide +kernel) rfl ckX1_9 ov_S (by decide) (by decide) (by decide) (by decide) ?_
  refine pF_putF (k := 0) clX1 (tk tkX1_init 5 rfl) rfl (by decide) fkX1_11 rfl rfl rfl (fun _ => ⟨rfl, rfl⟩) ?_
  refine pw_iconst (v := 0) (tk tkX1_init 6 rfl) (by decide) ?_
  refine pw_ist1 (tk tkX1_init 7 rfl) rfl (by decide) ?_
  refine pw_iload_n (tk tkX1_init 8 rfl) rfl ?_
  refine pw_bipush (v := 6) (tk tkX1_init 9 rfl) (by decide) ?_
  refine pw_icmp_ge (tgt := 40) (tk tkX1_init 10 rfl) (by decide) (fun c => absurd c (by decide)) (fun _ => ?_)
  refine pw_aload_n (tk tkX1_init 11 rfl) rfl ?_
  refine pF_get (k := 0) (v := .ref 168) clX1 (tk tkX1_init 12 rfl) rfl (by decide) fkX1_11 rfl ?_
  refine pw_iload_n (tk tkX1_init 13 rfl) rfl ?_
  refine pF_new (k := 32) (z' := 40) dF4 clX4 (tk tkX1_init 14 rfl) (by omega) (by decide +kernel) rfl ckX1_9 itX4 iiX4 dF4_ok (by decide) (by decide) ?_
  refine pw_dup (tk tkX1_init 15 rfl) rfl ?_
  refine pw_cI0 (ct_X4_init 2 (by decide) _ _ (by decide +kernel)) rfl okX4_init rfl rfl (tk tkX1_init 16 rfl) mkX1_17 imX4_init rfl rfl (by decide) (by decide) (Nat.le_of_ble_eq_true rfl) ?_
  refine pF_aast (t0 := 5) (j := 0) (tk tkX1_init 17 rfl) rfl rfl rfl rfl (by unfold vp_in; decide) (by decide) ?_
  refine pw_inc1 (tk tkX1_init 18 rfl) rfl (by decide) (show (0 : Int32) + Int32.ofInt (1) = 1 from by decide) ?_
  refine pw_goto (tgt := 15) (tk tkX1_init 19 rfl) (by decide) ?_
  refine pw_iload_n (tk tkX1_init 8 rfl) rfl ?_
  refine pw_bipush (v := 6) (tk tkX1_init 9 rfl) (by decide) ?_
  refine pw_icmp_ge (tgt := 40) (tk tkX1_init 10 rfl) (by decide) (fun c => absurd c (by decide)) (fun _ => ?_)
  refine pw_aload_n (tk tkX1_init 11 rfl) rfl ?_
  refine pF_get (k := 0) (v := .ref 168) clX1 (tk tkX1_init 12 rfl) rfl (by decide) fkX1_11 rfl ?_
  refine pw_iload_n (tk tkX1_init 13 rfl) rfl ?_
  refine pF_new (k := 48) (z' := 55) dF4 clX4 (tk tkX1_init 14 rfl) (by omega) (by decide +kernel) rfl ckX1_9 itX4 iiX4 dF4_ok (by decide) (by decide) ?_
  refine pw_dup (tk tkX1_init 15 rfl) rfl ?_
  refine pw_cI0 (ct_X4_init 3 (by decide) _ _ (by decide +kernel)) rfl okX4_init rfl rfl (tk tkX1_init 16 rfl) mkX1_17 imX4_init rfl rfl (by decide) (by decide) (Nat.le_of_ble_eq_true rfl) ?_
  refine pF_aast (t0 := 5) (j := 1) (tk tkX1_init 17 rfl) rfl rfl rfl rfl (by unfold vp_in; decide) (by decide) ?_
  refine pw_inc1 (tk tkX1_init 18 rfl) rfl (by decide) (show (1 : Int32) + Int32.ofInt (1) = 2 from by decide) ?_
  refine pw_goto (tgt := 15) (tk tkX1_init 19 rfl) (by decide) ?_
  refine pw_iload_n (tk tkX1_init 8 rfl) rfl ?_
  refine pw_bipush (v := 6) (tk tkX1_init 9 rfl) (by decide) ?_
  refine pw_icmp_ge (tgt := 40) (tk tkX1_init 10 rfl) (by decide) (fun c => absurd c (by decide)) (fun _ => ?_)
  refine pw_aload_n (tk tkX1_init 11 rfl) rfl ?_
  refine pF_get (k := 0) (v := .ref 168) clX1 (tk tkX1_init 12 rfl) rfl (by decide) fkX1_11 rfl ?_
  refine pw_iload_n (tk tkX1_init 13 rfl) rfl ?_
  refine pF_new (k := 64) (z' := 70) dF4 clX4 (tk tkX1_init 14 rfl) (by omega) (by decide +kernel) rfl ckX1_9 itX4 iiX4 dF4_ok (by decide) (by decide) ?_
  refine pw_dup (tk tkX1_init 15 rfl) rfl ?_
  refine pw_cI0 (ct_X4_init 4 (by decide) _ _ (by decide +kernel)) rfl okX4_init rfl rfl (tk tkX1_init 16 rfl) mkX1_17 imX4_init rfl rfl (by decide) (by decide) (Nat.le_of_ble_eq_true rfl) ?_
  refine pF_aast (t0 := 5) (j := 2) (tk tkX1_init 17 rfl) rfl rfl rfl rfl (by unfold vp_in; decide) (by decide) ?_
  refine pw_inc1 (tk tkX1_init 18 rfl) rfl (by decide) (show (2 : Int32) + Int32.ofInt (1) = 3 from by decide) ?_
  refine pw_goto (tgt := 15) (tk tkX1_init 19 rfl) (by decide) ?_
  refine pw_iload_n (tk tkX1_init 8 rfl) rfl ?_
  refine pw_bipush (v := 6) (tk tkX1_init 9 rfl) (by decide) ?_
  refine pw_icmp_ge (tgt := 40) (tk tkX1_init 10 rfl) (by decide) (fun c => absurd c (by decide)) (fun _ => ?_)
  refine pw_aload_n (tk tkX1_init 11 rfl) rfl ?_
  refine pF_get (k := 0) (v := .ref 168) clX1 (tk tkX1_init 12 rfl) rfl (by decide) fkX1_11 rfl ?_
  refine pw_iload_n (tk tkX1_init 13 rfl) rfl ?_
  refine pF_new (k := 80) (z' := 85) dF4 clX4 (tk tkX1_init 14 rfl) (by omega) (by decide +kernel) rfl ckX1_9 itX4 iiX4 dF4_ok (by decide) (by decide) ?_
  refine pw_dup (tk tkX1_init 15 rfl) rfl ?_
  refine pw_cI0 (ct_X4_init 5 (by decide) _ _ (by decide +kernel)) rfl okX4_init rfl rfl (tk tkX1_init 16 rfl) mkX1_17 imX4_init rfl rfl (by decide) (by decide) (Nat.le_of_ble_eq_true rfl) ?_
  refine pF_aast (t0 := 5) (j := 3) (tk tkX1_init 17 rfl) rfl rfl rfl rfl (by unfold vp_in; decide) (by decide) ?_
  refine pw_inc1 (tk tkX1_init 18 rfl) rfl (by decide) (show (3 : Int32) + Int32.ofInt (1) = 4 from by decide) ?_
  refine pw_goto (tgt := 15) (tk tkX1_init 19 rfl) (by decide) ?_
  refine pw_iload_n (tk tkX1_init 8 rfl) rfl ?_
  refine pw_bipush (v := 6) (tk tkX1_init 9 rfl) (by decide) ?_
  refine pw_icmp_ge (tgt := 40) (tk tkX1_init 10 rfl) (by decide) (fun c => absurd c (by decide)) (fun _ => ?_)
  refine pw_aload_n (tk tkX1_init 11 rfl) rfl ?_
  refine pF_get (k := 0) (v := .ref 168) clX1 (tk tkX1_init 12 rfl) rfl (by decide) fkX1_11 rfl ?_
  refine pw_iload_n (tk tkX1_init 13 rfl) rfl ?_
  refine pF_new (k := 96) (z' := 100) dF4 clX4 (tk tkX1_init 14 rfl) (by omega) (by decide +kernel) rfl ckX1_9 itX4 iiX4 dF4_ok (by decide) (by decide) ?_
  refine pw_dup (tk tkX1_init 15 rfl) rfl ?_
  refine pw_cI0 (ct_X4_init 6 (by decide) _ _ (by decide +kernel)) rfl okX4_init rfl rfl (tk tkX1_init 16 rfl) mkX1_17 imX4_init rfl rfl (by decide) (by decide) (Nat.le_of_ble_eq_true rfl) ?_
  refine pF_aast (t0 := 5) (j := 4) (tk tkX1_init 17 rfl) rfl rfl rfl rfl (by unfold vp_in; decide) (by decide) ?_
  refine pw_inc1 (tk tkX1_init 18 rfl) rfl (by decide) (show (4 : Int32) + Int32.ofInt (1) = 5 from by decide) ?_
  refine pw_goto (tgt := 15) (tk tkX1_init 19 rfl) (by decide) ?_
  refine pw_iload_n (tk tkX1_init 8 rfl) rfl ?_
  refine pw_bipush (v := 6) (tk tkX1_init 9 rfl) (by decide) ?_
  refine pw_icmp_ge (tgt := 40) (tk tkX1_init 10 rfl) (by decide) (fun c => absurd c (by decide)) (fun _ => ?_)
  refine pw_aload_n (tk tkX1_init 11 rfl) rfl ?_
  refine pF_get (k := 0) (v := .ref 168) clX1 (tk tkX1_init 12 rfl) rfl (by decide) fkX1_11 rfl ?_
  refine pw_iload_n (tk tkX1_init 13 rfl) rfl ?_
  refine pF_new (k := 112) (z' := 115) dF4 clX4 (tk tkX1_init 14 rfl) (by omega) (by decide +kernel) rfl ckX1_9 itX4 iiX4 dF4_ok (by decide) (by decide) ?_
  refine pw_dup (tk tkX1_init 15 rfl) rfl ?_
  refine pw_cI0 (ct_X4_init 7 (by decide) _ _ (by decide +kernel)) rfl okX4_init rfl rfl (tk tkX1_init 16 rfl) mkX1_17 imX4_init rfl rfl (by decide) (by decide) (Nat.le_of_ble_eq_true rfl) ?_
  refine pF_aast (t0 := 5) (j := 5) (tk tkX1_init 17 rfl) rfl rfl rfl rfl (by unfold vp_in; decide) (by decide) ?_
  refine pw_inc1 (tk tkX1_init 18 rfl) rfl (by decide) (show (5 : Int32) + Int32.ofInt (1) = 6 from by decide) ?_
  refine pw_goto (tgt := 15) (tk tkX1_init 19 rfl) (by decide) ?_
  refine pw_iload_n (tk tkX1_init 8 rfl) rfl ?_
  refine pw_bipush (v := 6) (tk tkX1_init 9 rfl) (by decide) ?_
  refine pw_icmp_ge (tgt := 40) (tk tkX1_init 10 rfl) (by decide) (fun _ => ?_) (fun c => absurd (show (6 : Int32) ≥ 6 by decide) c)
  exact pw_return (tk tkX1_init 20 rfl) rfl (by decide) ⟨rfl, rfl⟩
/-- the class at the start -/
def w0 : CW := (fun _ => σ0, fun _ => 0, fun _ => 0, fun _ => 0, fun _ => 0, fun _ => 0, fun _ => 0, fun _ => 0)
/-- the world at the start -/
def x0 : XW := (w0, w0, fun _ => 0)
theorem ud_o {f : FM} {a k : Nat} {c : Cel} (h : ¬ k = a) : ud f a c k = f k := if_neg h
theorem blk_o {f : FM} {b k : Nat} (h : ¬ (16 * b ≤ k ∧ k < 16 * b + 15)) : blk b f k = f k := if_neg h
def f7 (f : FM) : FM := fun k => if k < 171 then clw w0 k else f k
theorem f7_weak {g f : FM} (h : ∀ b, b < 10 → ∀ o, o < 15 → ∃ c c', g (16 * b + o) = some c ∧ stc b o σ0 = some c' ∧ cEq c c') (ho : ∀ o, o < 11 → ∃ c c', g (160 + o) = some c ∧ ocw o w0 = some c' ∧ cEq c c') (hf : ∀ k, 171 ≤ k → g k = f k) {k : Nat} {c' : Cel} (hk : f7 f k = some c') : ∃ c, g k = some c ∧ cEq c c' := by
  unfold f7 at hk
  by_cases e : k < 171
  · rw [if_pos e] at hk
    by_cases e2 : k < 160
    · have ek : k = 16 * (k / 16) + k % 16 := by omega
      have hs : clw w0 k = stc (k / 16) (k % 16) σ0 := if_pos e2
      rw [hs] at hk
      by_cases e3 : k % 16 < 15
      · obtain ⟨c, c9, h1, h2, h3⟩ := h (k / 16) (by omega) (k % 16) e3
        have hk2 : stc (k / 16) (k % 16) σ0 = some c' := hk
        rw [h2] at hk2
        cases hk2
        rw [← ek] at h1
        exact ⟨c, h1, h3⟩
      · rw [show k % 16 = 15 by omega] at hk
        cases hk
    · have hs : clw w0 k = ocw (k - 160) w0 := if_neg e2
      rw [hs] at hk
      obtain ⟨c, c9, h1, h2, h3⟩ := ho (k - 160) (by omega)
      rw [show 160 + (k - 160) = k by omega] at h1
      rw [h2] at hk
      cases hk
      exact ⟨c, h1, h3⟩
  · rw [if_neg e] at hk
    exact ⟨c', (hf k (by omega)).trans hk, cEq.rf c'⟩
set_option maxRecDepth 100000 in
set_option maxHeartbeats 4000000 in
theorem ct_X7_init (f : FM) : CT MX7_init 4 160 [.ref 160] (some 1, (ud f 160 (.inr (7, dF7)))) (Det (.inl none) (some 161, f7 f)) := by
  refine ct_of (by decide +kernel) (by decide) rfl (k := 1) (ls := [some (.ref 160), none]) rfl (Nat.le_of_ble_eq_true rfl) ?_
  refine pw_aload_n (tk tkX7_init 0 rfl) rfl ?_
  refine pw_objInit (tk tkX7_init 1 rfl) mkX7_1 okObj coObj (by decide) (Nat.le_of_ble_eq_true rfl) ?_
  refine pw_aload_n (tk tkX7_init 2 rfl) rfl ?_
  refine pF_new (k := 0) (z' := 2) dF4 clX4 (tk tkX7_init 3 rfl) (by omega) (by decide +kernel) rfl ckX7_7 itX4 iiX4 dF4_ok (by decide) (by decide) ?_
  refine pw_dup (tk tkX7_init 4 rfl) rfl ?_
  refine pw_cI0 (ct_X4_init 0 (by decide) _ _ (by decide +kernel)) rfl okX4_init rfl rfl (tk tkX7_init 5 rfl) mkX7_9 imX4_init rfl rfl (by decide) (by decide) (Nat.le_of_ble_eq_true rfl) ?_
  refine pF_putF (k := 0) clX7 (tk tkX7_init 6 rfl) rfl (by decide) fkX7_10 rfl rfl rfl (fun _ => ⟨rfl, rfl⟩) ?_
  refine pw_aload_n (tk tkX7_init 7 rfl) rfl ?_
  refine pF_new (k := 161) (z' := 17) dF5 clX5 (tk tkX7_init 8 rfl) (by omega) (by decide +kernel) rfl ckX7_16 itX5 iiX5 dF5_ok (by decide) (by decide) ?_
  refine pw_dup (tk tkX7_init 9 rfl) rfl ?_
  refine pw_cIN0 (ct_X5_init _) rfl okX5_init rfl rfl (tk tkX7_init 10 rfl) mkX7_18 imX5_init rfl rfl (by decide) (by decide) (Nat.le_of_ble_eq_true rfl) ?_
  refine pF_putF (k := 1) clX7 (tk tkX7_init 11 rfl) rfl (by decide) fkX7_19 rfl rfl rfl (fun _ => ⟨rfl, rfl⟩) ?_
  refine pw_aload_n (tk tkX7_init 12 rfl) rfl ?_
  refine pF_new (k := 162) (z' := 33) dF0 clX0 (tk tkX7_init 13 rfl) (by omega) (by decide +kernel) rfl ckX7_23 itX0 iiX0 dF0_ok (by decide) (by decide) ?_
  refine pw_dup (tk tkX7_init 14 rfl) rfl ?_
  refine pw_cIN0 (ct_X0_init _) rfl okX0_init rfl rfl (tk tkX7_init 15 rfl) mkX7_25 imX0_init rfl rfl (by decide) (by decide) (Nat.le_of_ble_eq_true rfl) ?_
  refine pF_putF (k := 2) clX7 (tk tkX7_init 16 rfl) rfl (by decide) fkX7_26 rfl rfl rfl (fun _ => ⟨rfl, rfl⟩) ?_
  refine pw_aload_n (tk tkX7_init 17 rfl) rfl ?_
  refine pF_new (k := 164) (z' := 35) dF6 clX6 (tk tkX7_init 18 rfl) (by omega) (by decide +kernel) rfl ckX7_30 itX6 iiX6 dF6_ok (by decide) (by decide) ?_
  refine pw_dup (tk tkX7_init 19 rfl) rfl ?_
  refine pw_cIN0 (ct_X6_init _) rfl okX6_init rfl rfl (tk tkX7_init 20 rfl) mkX7_32 imX6_init rfl rfl (by decide) (by decide) (Nat.le_of_ble_eq_true rfl) ?_
  refine pF_putF (k := 3) clX7 (tk tkX7_init 21 rfl) rfl (by decide) fkX7_33 rfl rfl rfl (fun _ => ⟨rfl, rfl⟩) ?_
  refine pw_aload_n (tk tkX7_init 22 rfl) rfl ?_
  refine pF_new (k := 167) (z' := 38) dF1 clX1 (tk tkX7_init 23 rfl) (by omega) (by decide +kernel) rfl ckX7_37 itX1 iiX1 dF1_ok (by decide) (by decide) ?_
  refine pw_dup (tk tkX7_init 24 rfl) rfl ?_
  refine pw_cI0 (ct_X1_init _) rfl okX1_init rfl rfl (tk tkX7_init 25 rfl) mkX7_39 imX1_init rfl rfl (by decide) (by decide) (Nat.le_of_ble_eq_true rfl) ?_
  refine pF_putF (k := 4) clX7 (tk tkX7_init 26 rfl) rfl (by decide) fkX7_40 rfl rfl rfl (fun _ => ⟨rfl, rfl⟩) ?_
  refine pw_aload_n (tk tkX7_init 27 rfl) rfl ?_
  refine pw_iconst (v := 2) (tk tkX7_init 28 rfl) (by decide) ?_
  refine pF_anewarray (t0 := 5) (k := 169) (z' := 130) (N := 2) (tk tkX7_init 29 rfl) rfl (by omega) (by decide +kernel) rfl ckX7_7 ov_S (by decide) (by decide) (by decide) (by decide) ?_
  refine pF_putF (k := 5) clX7 (tk tkX7_init 30 rfl) rfl (by decide) fkX7_44 rfl rfl rfl (fun _ => ⟨rfl, rfl⟩) ?_
  refine pw_aload_n (tk tkX7_init 31 rfl) rfl ?_
  refine pw_iconst (v := 2) (tk tkX7_init 32 rfl) (by decide) ?_
  refine pF_newarray (t0 := 1) (k := 170) (z' := 131) (N := 2) (v0 := .int 0) (tk tkX7_init 33 rfl) rfl rfl ra_boolean (by omega) (by decide +kernel) rfl ac_boolean (by decide) (by decide) (by decide) (by decide) (fun _ => rfl) (by decide) ?_
  refine pF_putF (k := 6) clX7 (tk tkX7_init 34 rfl) rfl (by decide) fkX7_48 rfl rfl rfl (fun _ => ⟨rfl, rfl⟩) ?_
  refine pw_iconst (v := 0) (tk tkX7_init 35 rfl) (by decide) ?_
  refine pw_ist1 (tk tkX7_init 36 rfl) rfl (by decide) ?_
  refine pw_iload_n (tk tkX7_init 37 rfl) rfl ?_
  refine pw_iconst (v := 2) (tk tkX7_init 38 rfl) (by decide) ?_
  refine pw_icmp_ge (tgt := 100) (tk tkX7_init 39 rfl) (by decide) (fun c => absurd c (by decide)) (fun _ => ?_)
  refine pw_aload_n (tk tkX7_init 40 rfl) rfl ?_
  refine pF_get (k := 5) (v := .ref 169) clX7 (tk tkX7_init 41 rfl) rfl (by decide) fkX7_44 rfl ?_
  refine pw_iload_n (tk tkX7_init 42 rfl) rfl ?_
  refine pF_new (k := 128) (z' := 132) dF4 clX4 (tk tkX7_init 43 rfl) (by omega) (by decide +kernel) rfl ckX7_7 itX4 iiX4 dF4_ok (by decide) (by decide) ?_
  refine pw_dup (tk tkX7_init 44 rfl) rfl ?_
  refine pw_cI0 (ct_X4_init 8 (by decide) _ _ (by decide +kernel)) rfl okX4_init rfl rfl (tk tkX7_init 45 rfl) mkX7_9 imX4_init rfl rfl (by decide) (by decide) (Nat.le_of_ble_eq_true rfl) ?_
  refine pF_aast (t0 := 5) (j := 0) (tk tkX7_init 46 rfl) rfl rfl rfl rfl (by unfold vp_in; decide) (by decide) ?_
  refine pw_inc1 (tk tkX7_init 47 rfl) rfl (by decide) (show (0 : Int32) + Int32.ofInt (1) = 1 from by decide) ?_
  refine pw_goto (tgt := 76) (tk tkX7_init 48 rfl) (by decide) ?_
  refine pw_iload_n (tk tkX7_init 37 rfl) rfl ?_
  refine pw_iconst (v := 2) (tk tkX7_init 38 rfl) (by decide) ?_
  refine pw_icmp_ge (tgt := 100) (tk tkX7_init 39 rfl) (by decide) (fun c => absurd c (by decide)) (fun _ => ?_)
  refine pw_aload_n (tk tkX7_init 40 rfl) rfl ?_
  refine pF_get (k := 5) (v := .ref 169) clX7 (tk tkX7_init 41 rfl) rfl (by decide) fkX7_44 rfl ?_
  refine pw_iload_n (tk tkX7_init 42 rfl) rfl ?_
  refine pF_new (k := 144) (z' := 147) dF4 clX4 (tk tkX7_init 43 rfl) (by omega) (by decide +kernel) rfl ckX7_7 itX4 iiX4 dF4_ok (by decide) (by decide) ?_
  refine pw_dup (tk tkX7_init 44 rfl) rfl ?_
  refine pw_cI0 (ct_X4_init 9 (by decide) _ _ (by decide +kernel)) rfl okX4_init rfl rfl (tk tkX7_init 45 rfl) mkX7_9 imX4_init rfl rfl (by decide) (by decide) (Nat.le_of_ble_eq_true rfl) ?_
  refine pF_aast (t0 := 5) (j := 1) (tk tkX7_init 46 rfl) rfl rfl rfl rfl (by unfold vp_in; decide) (by decide) ?_
  refine pw_inc1 (tk tkX7_init 47 rfl) rfl (by decide) (show (1 : Int32) + Int32.ofInt (1) = 2 from by decide) ?_
  refine pw_goto (tgt := 76) (tk tkX7_init 48 rfl) (by decide) ?_
  refine pw_iload_n (tk tkX7_init 37 rfl) rfl ?_
  refine pw_iconst (v := 2) (tk tkX7_init 38 rfl) (by decide) ?_
  refine pw_icmp_ge (tgt := 100) (tk tkX7_init 39 rfl) (by decide) (fun _ => ?_) (fun c => absurd (show (2 : Int32) ≥ 2 by decide) c)
  refine pw_weak (h' := (some 161, f7 f)) (Or.inr rfl) (fun k c' hk => ?_) ?_
  · refine f7_weak (fun b hb o ho => ?_) (fun o ho => ?_) (fun k hk => ?_) hk
    · match b, hb with
      | 0, _ => exact match o, ho with
        | 0, _ => ⟨_, _, rfl, rfl, cEq.rf _⟩
        | 1, _ => ⟨_, _, rfl, rfl, cEq.rf _⟩
        | 2, _ => ⟨_, _, rfl, rfl, cEq.rf _⟩
        | 3, _ => ⟨_, _, rfl, rfl, cEq.rf _⟩
        | 4, _ => ⟨_, _, rfl, rfl, cEq.rf _⟩
        | 5, _ => ⟨_, _, rfl, rfl, cEq.rf _⟩
        | 6, _ => ⟨_, _, rfl, rfl, cEq.rf _⟩
        | 7, _ => ⟨_, _, rfl, rfl, cEq.rf _⟩
        | 8, _ => ⟨_, _, rfl, rfl, cEq.rf _⟩
        | 9, _ => ⟨_, _, rfl, rfl, cEq.rf _⟩
        | 10, _ => ⟨_, _, rfl, rfl, cEq.rf _⟩
        | 11, _ => ⟨_, _, rfl, rfl, cEq.rf _⟩
        | 12, _ => ⟨_, _, rfl, rfl, cEq.rf _⟩
        | 13, _ => ⟨_, _, rfl, rfl, cEq.rf _⟩
        | 14, _ => ⟨_, _, rfl, rfl, cEq.rf _⟩
        | k + 15, h => absurd h (by omega)
      | 1, _ => exact match o, ho with
        | 0, _ => ⟨_, _, rfl, rfl, cEq.rf _⟩
        | 1, _ => ⟨_, _, rfl, rfl, cEq.rf _⟩
        | 2, _ => ⟨_, _, rfl, rfl, cEq.rf _⟩
        | 3, _ => ⟨_, _, rfl, rfl, cEq.rf _⟩
        | 4, _ => ⟨_, _, rfl, rfl, cEq.rf _⟩
        | 5, _ => ⟨_, _, rfl, rfl, cEq.rf _⟩
        | 6, _ => ⟨_, _, rfl, rfl, cEq.rf _⟩
        | 7, _ => ⟨_, _, rfl, rfl, cEq.rf _⟩
        | 8, _ => ⟨_, _, rfl, rfl, cEq.rf _⟩
        | 9, _ => ⟨_, _, rfl, rfl, cEq.rf _⟩
        | 10, _ => ⟨_, _, rfl, rfl, cEq.rf _⟩
        | 11, _ => ⟨_, _, rfl, rfl, cEq.rf _⟩
        | 12, _ => ⟨_, _, rfl, rfl, cEq.rf _⟩
        | 13, _ => ⟨_, _, rfl, rfl, cEq.rf _⟩
        | 14, _ => ⟨_, _, rfl, rfl, cEq.rf _⟩
        | k + 15, h => absurd h (by omega)
      | 2, _ => exact match o, ho with
        | 0, _ => ⟨_, _, rfl, rfl, cEq.rf _⟩
        | 1, _ => ⟨_, _, rfl, rfl, cEq.rf _⟩
        | 2, _ => ⟨_, _, rfl, rfl, cEq.rf _⟩
        | 3, _ => ⟨_, _, rfl, rfl, cEq.rf _⟩
        | 4, _ => ⟨_, _, rfl, rfl, cEq.rf _⟩
        | 5, _ => ⟨_, _, rfl, rfl, cEq.rf _⟩
        | 6, _ => ⟨_, _, rfl, rfl, cEq.rf _⟩
        | 7, _ => ⟨_, _, rfl, rfl, cEq.rf _⟩
        | 8, _ => ⟨_, _, rfl, rfl, cEq.rf _⟩
        | 9, _ => ⟨_, _, rfl, rfl, cEq.rf _⟩
        | 10, _ => ⟨_, _, rfl, rfl, cEq.rf _⟩
        | 11, _ => ⟨_, _, rfl, rfl, cEq.rf _⟩
        | 12, _ => ⟨_, _, rfl, rfl, cEq.rf _⟩
        | 13, _ => ⟨_, _, rfl, rfl, cEq.rf _⟩
        | 14, _ => ⟨_, _, rfl, rfl, cEq.rf _⟩
        | k + 15, h => absurd h (by omega)
      | 3, _ => exact match o, ho with
        | 0, _ => ⟨_, _, rfl, rfl, cEq.rf _⟩
        | 1, _ => ⟨_, _, rfl, rfl, cEq.rf _⟩
        | 2, _ => ⟨_, _, rfl, rfl, cEq.rf _⟩
        | 3, _ => ⟨_, _, rfl, rfl, cEq.rf _⟩
        | 4, _ => ⟨_, _, rfl, rfl, cEq.rf _⟩
        | 5, _ => ⟨_, _, rfl, rfl, cEq.rf _⟩
        | 6, _ => ⟨_, _, rfl, rfl, cEq.rf _⟩
        | 7, _ => ⟨_, _, rfl, rfl, cEq.rf _⟩
        | 8, _ => ⟨_, _, rfl, rfl, cEq.rf _⟩
        | 9, _ => ⟨_, _, rfl, rfl, cEq.rf _⟩
        | 10, _ => ⟨_, _, rfl, rfl, cEq.rf _⟩
        | 11, _ => ⟨_, _, rfl, rfl, cEq.rf _⟩
        | 12, _ => ⟨_, _, rfl, rfl, cEq.rf _⟩
        | 13, _ => ⟨_, _, rfl, rfl, cEq.rf _⟩
        | 14, _ => ⟨_, _, rfl, rfl, cEq.rf _⟩
        | k + 15, h => absurd h (by omega)
      | 4, _ => exact match o, ho with
        | 0, _ => ⟨_, _, rfl, rfl, cEq.rf _⟩
        | 1, _ => ⟨_, _, rfl, rfl, cEq.rf _⟩
        | 2, _ => ⟨_, _, rfl, rfl, cEq.rf _⟩
        | 3, _ => ⟨_, _, rfl, rfl, cEq.rf _⟩
        | 4, _ => ⟨_, _, rfl, rfl, cEq.rf _⟩
        | 5, _ => ⟨_, _, rfl, rfl, cEq.rf _⟩
        | 6, _ => ⟨_, _, rfl, rfl, cEq.rf _⟩
        | 7, _ => ⟨_, _, rfl, rfl, cEq.rf _⟩
        | 8, _ => ⟨_, _, rfl, rfl, cEq.rf _⟩
        | 9, _ => ⟨_, _, rfl, rfl, cEq.rf _⟩
        | 10, _ => ⟨_, _, rfl, rfl, cEq.rf _⟩
        | 11, _ => ⟨_, _, rfl, rfl, cEq.rf _⟩
        | 12, _ => ⟨_, _, rfl, rfl, cEq.rf _⟩
        | 13, _ => ⟨_, _, rfl, rfl, cEq.rf _⟩
        | 14, _ => ⟨_, _, rfl, rfl, cEq.rf _⟩
        | k + 15, h => absurd h (by omega)
      | 5, _ => exact match o, ho with
        | 0, _ => ⟨_, _, rfl, rfl, cEq.rf _⟩
        | 1, _ => ⟨_, _, rfl, rfl, cEq.rf _⟩
        | 2, _ => ⟨_, _, rfl, rfl, cEq.rf _⟩
        | 3, _ => ⟨_, _, rfl, rfl, cEq.rf _⟩
        | 4, _ => ⟨_, _, rfl, rfl, cEq.rf _⟩
        | 5, _ => ⟨_, _, rfl, rfl, cEq.rf _⟩
        | 6, _ => ⟨_, _, rfl, rfl, cEq.rf _⟩
        | 7, _ => ⟨_, _, rfl, rfl, cEq.rf _⟩
        | 8, _ => ⟨_, _, rfl, rfl, cEq.rf _⟩
        | 9, _ => ⟨_, _, rfl, rfl, cEq.rf _⟩
        | 10, _ => ⟨_, _, rfl, rfl, cEq.rf _⟩
        | 11, _ => ⟨_, _, rfl, rfl, cEq.rf _⟩
        | 12, _ => ⟨_, _, rfl, rfl, cEq.rf _⟩
        | 13, _ => ⟨_, _, rfl, rfl, cEq.rf _⟩
        | 14, _ => ⟨_, _, rfl, rfl, cEq.rf _⟩
        | k + 15, h => absurd h (by omega)
      | 6, _ => exact match o, ho with
        | 0, _ => ⟨_, _, rfl, rfl, cEq.rf _⟩
        | 1, _ => ⟨_, _, rfl, rfl, cEq.rf _⟩
        | 2, _ => ⟨_, _, rfl, rfl, cEq.rf _⟩
        | 3, _ => ⟨_, _, rfl, rfl, cEq.rf _⟩
        | 4, _ => ⟨_, _, rfl, rfl, cEq.rf _⟩
        | 5, _ => ⟨_, _, rfl, rfl, cEq.rf _⟩
        | 6, _ => ⟨_, _, rfl, rfl, cEq.rf _⟩
        | 7, _ => ⟨_, _, rfl, rfl, cEq.rf _⟩
        | 8, _ => ⟨_, _, rfl, rfl, cEq.rf _⟩
        | 9, _ => ⟨_, _, rfl, rfl, cEq.rf _⟩
        | 10, _ => ⟨_, _, rfl, rfl, cEq.rf _⟩
        | 11, _ => ⟨_, _, rfl, rfl, cEq.rf _⟩
        | 12, _ => ⟨_, _, rfl, rfl, cEq.rf _⟩
        | 13, _ => ⟨_, _, rfl, rfl, cEq.rf _⟩
        | 14, _ => ⟨_, _, rfl, rfl, cEq.rf _⟩
        | k + 15, h => absurd h (by omega)
      | 7, _ => exact match o, ho with
        | 0, _ => ⟨_, _, rfl, rfl, cEq.rf _⟩
        | 1, _ => ⟨_, _, rfl, rfl, cEq.rf _⟩
        | 2, _ => ⟨_, _, rfl, rfl, cEq.rf _⟩
        | 3, _ => ⟨_, _, rfl, rfl, cEq.rf _⟩
        | 4, _ => ⟨_, _, rfl, rfl, cEq.rf _⟩
        | 5, _ => ⟨_, _, rfl, rfl, cEq.rf _⟩
        | 6, _ => ⟨_, _, rfl, rfl, cEq.rf _⟩
        | 7, _ => ⟨_, _, rfl, rfl, cEq.rf _⟩
        | 8, _ => ⟨_, _, rfl, rfl, cEq.rf _⟩
        | 9, _ => ⟨_, _, rfl, rfl, cEq.rf _⟩
        | 10, _ => ⟨_, _, rfl, rfl, cEq.rf _⟩
        | 11, _ => ⟨_, _, rfl, rfl, cEq.rf _⟩
        | 12, _ => ⟨_, _, rfl, rfl, cEq.rf _⟩
        | 13, _ => ⟨_, _, rfl, rfl, cEq.rf _⟩
        | 14, _ => ⟨_, _, rfl, rfl, cEq.rf _⟩
        | k + 15, h => absurd h (by omega)
      | 8, _ => exact match o, ho with
        | 0, _ => ⟨_, _, rfl, rfl, cEq.rf _⟩
        | 1, _ => ⟨_, _, rfl, rfl, cEq.rf _⟩
        | 2, _ => ⟨_, _, rfl, rfl, cEq.rf _⟩
        | 3, _ => ⟨_, _, rfl, rfl, cEq.rf _⟩
        | 4, _ => ⟨_, _, rfl, rfl, cEq.rf _⟩
        | 5, _ => ⟨_, _, rfl, rfl, cEq.rf _⟩
        | 6, _ => ⟨_, _, rfl, rfl, cEq.rf _⟩
        | 7, _ => ⟨_, _, rfl, rfl, cEq.rf _⟩
        | 8, _ => ⟨_, _, rfl, rfl, cEq.rf _⟩
        | 9, _ => ⟨_, _, rfl, rfl, cEq.rf _⟩
        | 10, _ => ⟨_, _, rfl, rfl, cEq.rf _⟩
        | 11, _ => ⟨_, _, rfl, rfl, cEq.rf _⟩
        | 12, _ => ⟨_, _, rfl, rfl, cEq.rf _⟩
        | 13, _ => ⟨_, _, rfl, rfl, cEq.rf _⟩
        | 14, _ => ⟨_, _, rfl, rfl, cEq.rf _⟩
        | k + 15, h => absurd h (by omega)
      | 9, _ => exact match o, ho with
        | 0, _ => ⟨_, _, rfl, rfl, cEq.rf _⟩
        | 1, _ => ⟨_, _, rfl, rfl, cEq.rf _⟩
        | 2, _ => ⟨_, _, rfl, rfl, cEq.rf _⟩
        | 3, _ => ⟨_, _, rfl, rfl, cEq.rf _⟩
        | 4, _ => ⟨_, _, rfl, rfl, cEq.rf _⟩
        | 5, _ => ⟨_, _, rfl, rfl, cEq.rf _⟩
        | 6, _ => ⟨_, _, rfl, rfl, cEq.rf _⟩
        | 7, _ => ⟨_, _, rfl, rfl, cEq.rf _⟩
        | 8, _ => ⟨_, _, rfl, rfl, cEq.rf _⟩
        | 9, _ => ⟨_, _, rfl, rfl, cEq.rf _⟩
        | 10, _ => ⟨_, _, rfl, rfl, cEq.rf _⟩
        | 11, _ => ⟨_, _, rfl, rfl, cEq.rf _⟩
        | 12, _ => ⟨_, _, rfl, rfl, cEq.rf _⟩
        | 13, _ => ⟨_, _, rfl, rfl, cEq.rf _⟩
        | 14, _ => ⟨_, _, rfl, rfl, cEq.rf _⟩
        | k + 15, h => absurd h (by omega)
      | b + 10, h => exact absurd h (by omega)
    · exact match o, ho with
        | 0, _ => ⟨_, _, rfl, rfl, cq_o clX7 (fun k hk => match k, hk with
          | 0, _ => rfl
          | 1, _ => rfl
          | 2, _ => rfl
          | 3, _ => rfl
          | 4, _ => rfl
          | 5, _ => rfl
          | 6, _ => rfl
          | k + 7, h => absurd h (by omega))⟩
        | 1, _ => ⟨_, _, rfl, rfl, cq_o clX5 (fun k hk => match k, hk with
          | 0, _ => rfl
          | 1, _ => rfl
          | 2, _ => rfl
          | 3, _ => rfl
          | k + 4, h => absurd h (by omega))⟩
        | 2, _ => ⟨_, _, rfl, rfl, cq_o clX0 (fun k hk => match k, hk with
          | 0, _ => rfl
          | k + 1, h => absurd h (by omega))⟩
        | 3, _ => ⟨_, _, rfl, rfl, cq_a (fun _ _ => rfl)⟩
        | 4, _ => ⟨_, _, rfl, rfl, cq_o clX6 (fun k hk => match k, hk with
          | 0, _ => rfl
          | 1, _ => rfl
          | 2, _ => rfl
          | 3, _ => rfl
          | 4, _ => rfl
          | k + 5, h => absurd h (by omega))⟩
        | 5, _ => ⟨_, _, rfl, rfl, cq_a (fun _ _ => rfl)⟩
        | 6, _ => ⟨_, _, rfl, rfl, cq_a (fun _ _ => rfl)⟩
        | 7, _ => ⟨_, _, rfl, rfl, cq_o clX1 (fun k hk => match k, hk with
          | 0, _ => rfl
          | 1, _ => rfl
          | 2, _ => rfl
          | k + 3, h => absurd h (by omega))⟩
        | 8, _ => ⟨_, _, rfl, rfl, cq_a (fun k hk => match k, hk with
          | 0, _ => rfl
          | 1, _ => rfl
          | 2, _ => rfl
          | 3, _ => rfl
          | 4, _ => rfl
          | 5, _ => rfl
          | k + 6, h => absurd h (by omega))⟩
        | 9, _ => ⟨_, _, rfl, rfl, cq_a (fun k hk => match k, hk with
          | 0, _ => rfl
          | 1, _ => rfl
          | k + 2, h => absurd h (by omega))⟩
        | 10, _ => ⟨_, _, rfl, rfl, cq_a (fun _ _ => rfl)⟩
        | o + 11, h => absurd h (by omega)
    · refine (ud_o (by omega)).trans ?_
      refine (blk_o (by omega)).trans ?_
      refine (ud_o (by omega)).trans ?_
      refine (blk_o (by omega)).trans ?_
      refine (ud_o (by omega)).trans ?_
      refine (ud_o (by omega)).trans ?_
      refine (ud_o (by omega)).trans ?_
      refine (ud_o (by omega)).trans ?_
      refine (ud_o (by omega)).trans ?_
      refine (ud_o (by omega)).trans ?_
      refine (blk_o (by omega)).trans ?_
      refine (ud_o (by omega)).trans ?_
      refine (blk_o (by omega)).trans ?_
      refine (ud_o (by omega)).trans ?_
      refine (blk_o (by omega)).trans ?_
      refine (ud_o (by omega)).trans ?_
      refine (blk_o (by omega)).trans ?_
      refine (ud_o (by omega)).trans ?_
      refine (blk_o (by omega)).trans ?_
      refine (ud_o (by omega)).trans ?_
      refine (blk_o (by omega)).trans ?_
      refine (ud_o (by omega)).trans ?_
      refine (ud_o (by omega)).trans ?_
      refine (ud_o (by omega)).trans ?_
      refine (ud_o (by omega)).trans ?_
      refine (ud_o (by omega)).trans ?_
      refine (ud_o (by omega)).trans ?_
      refine (ud_o (by omega)).trans ?_
      refine (ud_o (by omega)).trans ?_
      refine (ud_o (by omega)).trans ?_
      refine (ud_o (by omega)).trans ?_
      refine (ud_o (by omega)).trans ?_
      refine (ud_o (by omega)).trans ?_
      refine (ud_o (by omega)).trans ?_
      refine (ud_o (by omega)).trans ?_
      refine (ud_o (by omega)).trans ?_
      refine (blk_o (by omega)).trans ?_
      refine (ud_o (by omega)).trans ?_
      refine (ud_o (by omega)).trans ?_
      refine (blk_o (by omega)).trans ?_
      refine (ud_o (by omega)).trans ?_
      rfl
  exact pw_return (tk tkX7_init 49 rfl) rfl (by decide) ⟨rfl, rfl⟩
end
