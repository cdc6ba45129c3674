section
-- ===== PART A: goes FIRST, ahead of the names: the tables' words, and 'selects' of the private methods out of them =====
/-- a private method of a class that the tables say can be made, by its rows of tables_1 -/
def lw_okq (q : MethodName × Nat) : Prop := (q.1.cls ≠ "java/lang/invoke/MethodHandle" ∧ q.1.cls ≠ "java/lang/invoke/VarHandle") ∧ Cond.instantiable q.1.cls q.2 ∈ tables_1 ∧ Cond.privateMethod q.1 ∈ tables_1 ∧ Cond.instanceMethod q.1 ∈ tables_1
theorem lw_p0 : lw_okq (⟨"RowTriggers$Text", "readNumber", "(I)I"⟩, 5) := ⟨⟨by decide +kernel, by decide +kernel⟩, List.mem_of_getElem? (i := 184) (by decide +kernel), List.mem_of_getElem? (i := 367) (by decide +kernel), List.mem_of_getElem? (i := 368) (by decide +kernel)⟩
theorem lw_p1 : lw_okq (⟨"RowTriggers$Text", "isDigitNext", "()Z"⟩, 5) := ⟨⟨by decide +kernel, by decide +kernel⟩, List.mem_of_getElem? (i := 184) (by decide +kernel), List.mem_of_getElem? (i := 371) (by decide +kernel), List.mem_of_getElem? (i := 372) (by decide +kernel)⟩
theorem lw_p2 : lw_okq (⟨"java/lang/Throwable", "fillInStackTrace", "(I)Ljava/lang/Throwable;"⟩, 6) := ⟨⟨by decide +kernel, by decide +kernel⟩, List.mem_of_getElem? (i := 437) (by decide +kernel), List.mem_of_getElem? (i := 435) (by decide +kernel), List.mem_of_getElem? (i := 436) (by decide +kernel)⟩
theorem lw_p3 : lw_okq (⟨"RowTriggers", "checkRule", "(I)V"⟩, 7) := ⟨⟨by decide +kernel, by decide +kernel⟩, List.mem_of_getElem? (i := 23) (by decide +kernel), List.mem_of_getElem? (i := 517) (by decide +kernel), List.mem_of_getElem? (i := 518) (by decide +kernel)⟩
theorem lw_p4 : lw_okq (⟨"RowTriggers$Statement", "begin", "(LRowTriggers$State;)V"⟩, 4) := ⟨⟨by decide +kernel, by decide +kernel⟩, List.mem_of_getElem? (i := 148) (by decide +kernel), List.mem_of_getElem? (i := 602) (by decide +kernel), List.mem_of_getElem? (i := 603) (by decide +kernel)⟩
theorem lw_p5 : lw_okq (⟨"RowTriggers$Statement", "happen", "(IIIII)V"⟩, 4) := ⟨⟨by decide +kernel, by decide +kernel⟩, List.mem_of_getElem? (i := 148) (by decide +kernel), List.mem_of_getElem? (i := 611) (by decide +kernel), List.mem_of_getElem? (i := 612) (by decide +kernel)⟩
theorem lw_p6 : lw_okq (⟨"RowTriggers$Statement", "matchingRules", "(IIII)I"⟩, 4) := ⟨⟨by decide +kernel, by decide +kernel⟩, List.mem_of_getElem? (i := 148) (by decide +kernel), List.mem_of_getElem? (i := 615) (by decide +kernel), List.mem_of_getElem? (i := 616) (by decide +kernel)⟩
theorem lw_p7 : lw_okq (⟨"RowTriggers$Statement", "hasRefusing", "(I)Z"⟩, 4) := ⟨⟨by decide +kernel, by decide +kernel⟩, List.mem_of_getElem? (i := 148) (by decide +kernel), List.mem_of_getElem? (i := 619) (by decide +kernel), List.mem_of_getElem? (i := 620) (by decide +kernel)⟩
theorem lw_p8 : lw_okq (⟨"RowTriggers$Statement", "alterTable", "(IIII)V"⟩, 4) := ⟨⟨by decide +kernel, by decide +kernel⟩, List.mem_of_getElem? (i := 148) (by decide +kernel), List.mem_of_getElem? (i := 623) (by decide +kernel), List.mem_of_getElem? (i := 624) (by decide +kernel)⟩
theorem lw_p9 : lw_okq (⟨"RowTriggers$Statement", "act", "(II)V"⟩, 4) := ⟨⟨by decide +kernel, by decide +kernel⟩, List.mem_of_getElem? (i := 148) (by decide +kernel), List.mem_of_getElem? (i := 630) (by decide +kernel), List.mem_of_getElem? (i := 631) (by decide +kernel)⟩
theorem lw_p10 : lw_okq (⟨"RowTriggers", "finishStatement", "()I"⟩, 7) := ⟨⟨by decide +kernel, by decide +kernel⟩, List.mem_of_getElem? (i := 23) (by decide +kernel), List.mem_of_getElem? (i := 641) (by decide +kernel), List.mem_of_getElem? (i := 642) (by decide +kernel)⟩
theorem lw_p11 : lw_okq (⟨"RowTriggers", "tryUpdate", "(III)V"⟩, 7) := ⟨⟨by decide +kernel, by decide +kernel⟩, List.mem_of_getElem? (i := 23) (by decide +kernel), List.mem_of_getElem? (i := 654) (by decide +kernel), List.mem_of_getElem? (i := 655) (by decide +kernel)⟩
theorem lw_p12 : lw_okq (⟨"RowTriggers", "checkAgo", "(I)V"⟩, 7) := ⟨⟨by decide +kernel, by decide +kernel⟩, List.mem_of_getElem? (i := 23) (by decide +kernel), List.mem_of_getElem? (i := 751) (by decide +kernel), List.mem_of_getElem? (i := 752) (by decide +kernel)⟩
theorem lw_p13 : lw_okq (⟨"RowTriggers", "execute", "()Z"⟩, 7) := ⟨⟨by decide +kernel, by decide +kernel⟩, List.mem_of_getElem? (i := 23) (by decide +kernel), List.mem_of_getElem? (i := 819) (by decide +kernel), List.mem_of_getElem? (i := 820) (by decide +kernel)⟩
theorem lw_p14 : lw_okq (⟨"RowTriggersModel", "holds", "(I)Z"⟩, 22) := ⟨⟨by decide +kernel, by decide +kernel⟩, List.mem_of_getElem? (i := 856) (by decide +kernel), List.mem_of_getElem? (i := 946) (by decide +kernel), List.mem_of_getElem? (i := 947) (by decide +kernel)⟩
theorem lw_p15 : lw_okq (⟨"RowTriggersModel", "record", "()V"⟩, 22) := ⟨⟨by decide +kernel, by decide +kernel⟩, List.mem_of_getElem? (i := 856) (by decide +kernel), List.mem_of_getElem? (i := 950) (by decide +kernel), List.mem_of_getElem? (i := 951) (by decide +kernel)⟩
def lw_privs_1 : List (MethodName × Nat) := [(⟨"RowTriggers$Text", "readNumber", "(I)I"⟩, 5), (⟨"RowTriggers$Text", "isDigitNext", "()Z"⟩, 5), (⟨"java/lang/Throwable", "fillInStackTrace", "(I)Ljava/lang/Throwable;"⟩, 6), (⟨"RowTriggers", "checkRule", "(I)V"⟩, 7), (⟨"RowTriggers$Statement", "begin", "(LRowTriggers$State;)V"⟩, 4), (⟨"RowTriggers$Statement", "happen", "(IIIII)V"⟩, 4), (⟨"RowTriggers$Statement", "matchingRules", "(IIII)I"⟩, 4), (⟨"RowTriggers$Statement", "hasRefusing", "(I)Z"⟩, 4), (⟨"RowTriggers$Statement", "alterTable", "(IIII)V"⟩, 4), (⟨"RowTriggers$Statement", "act", "(II)V"⟩, 4), (⟨"RowTriggers", "finishStatement", "()I"⟩, 7), (⟨"RowTriggers", "tryUpdate", "(III)V"⟩, 7), (⟨"RowTriggers", "checkAgo", "(I)V"⟩, 7), (⟨"RowTriggers", "execute", "()Z"⟩, 7), (⟨"RowTriggersModel", "holds", "(I)Z"⟩, 22), (⟨"RowTriggersModel", "record", "()V"⟩, 22)]
theorem lw_r1 : ∀ q ∈ lw_privs_1, lw_okq q := List.forall_mem_cons.mpr ⟨lw_p0, List.forall_mem_cons.mpr ⟨lw_p1, List.forall_mem_cons.mpr ⟨lw_p2, List.forall_mem_cons.mpr ⟨lw_p3, List.forall_mem_cons.mpr ⟨lw_p4, List.forall_mem_cons.mpr ⟨lw_p5, List.forall_mem_cons.mpr ⟨lw_p6, List.forall_mem_cons.mpr ⟨lw_p7, List.forall_mem_cons.mpr ⟨lw_p8, List.forall_mem_cons.mpr ⟨lw_p9, List.forall_mem_cons.mpr ⟨lw_p10, List.forall_mem_cons.mpr ⟨lw_p11, List.forall_mem_cons.mpr ⟨lw_p12, List.forall_mem_cons.mpr ⟨lw_p13, List.forall_mem_cons.mpr ⟨lw_p14, List.forall_mem_cons.mpr ⟨lw_p15, fun _ h => absurd h List.not_mem_nil⟩⟩⟩⟩⟩⟩⟩⟩⟩⟩⟩⟩⟩⟩⟩⟩
theorem lw_p16 : lw_okq (⟨"RowTriggersModel", "putAside", "()V"⟩, 22) := ⟨⟨by decide +kernel, by decide +kernel⟩, List.mem_of_getElem? (i := 856) (by decide +kernel), List.mem_of_getElem? (i := 954) (by decide +kernel), List.mem_of_getElem? (i := 955) (by decide +kernel)⟩
theorem lw_p17 : lw_okq (⟨"RowTriggersModel", "recordAside", "()V"⟩, 22) := ⟨⟨by decide +kernel, by decide +kernel⟩, List.mem_of_getElem? (i := 856) (by decide +kernel), List.mem_of_getElem? (i := 958) (by decide +kernel), List.mem_of_getElem? (i := 959) (by decide +kernel)⟩
theorem lw_p18 : lw_okq (⟨"RowTriggersModel", "isRule", "(I)Z"⟩, 22) := ⟨⟨by decide +kernel, by decide +kernel⟩, List.mem_of_getElem? (i := 856) (by decide +kernel), List.mem_of_getElem? (i := 966) (by decide +kernel), List.mem_of_getElem? (i := 967) (by decide +kernel)⟩
theorem lw_p19 : lw_okq (⟨"RowTriggersModel", "at", "(II)I"⟩, 22) := ⟨⟨by decide +kernel, by decide +kernel⟩, List.mem_of_getElem? (i := 856) (by decide +kernel), List.mem_of_getElem? (i := 981) (by decide +kernel), List.mem_of_getElem? (i := 982) (by decide +kernel)⟩
theorem lw_p20 : lw_okq (⟨"RowTriggersModel", "inserts", "(IIII)Z"⟩, 22) := ⟨⟨by decide +kernel, by decide +kernel⟩, List.mem_of_getElem? (i := 856) (by decide +kernel), List.mem_of_getElem? (i := 993) (by decide +kernel), List.mem_of_getElem? (i := 994) (by decide +kernel)⟩
theorem lw_p21 : lw_okq (⟨"RowTriggersModel", "states", "(IIII)Z"⟩, 22) := ⟨⟨by decide +kernel, by decide +kernel⟩, List.mem_of_getElem? (i := 856) (by decide +kernel), List.mem_of_getElem? (i := 1000) (by decide +kernel), List.mem_of_getElem? (i := 1001) (by decide +kernel)⟩
theorem lw_p22 : lw_okq (⟨"RowTriggersModel", "begins", "(IIIII)Z"⟩, 22) := ⟨⟨by decide +kernel, by decide +kernel⟩, List.mem_of_getElem? (i := 856) (by decide +kernel), List.mem_of_getElem? (i := 1004) (by decide +kernel), List.mem_of_getElem? (i := 1005) (by decide +kernel)⟩
theorem lw_p23 : lw_okq (⟨"RowTriggersModel", "matching", "(IIIIZ)I"⟩, 22) := ⟨⟨by decide +kernel, by decide +kernel⟩, List.mem_of_getElem? (i := 856) (by decide +kernel), List.mem_of_getElem? (i := 1008) (by decide +kernel), List.mem_of_getElem? (i := 1009) (by decide +kernel)⟩
theorem lw_p24 : lw_okq (⟨"RowTriggersModel", "follows", "()Z"⟩, 22) := ⟨⟨by decide +kernel, by decide +kernel⟩, List.mem_of_getElem? (i := 856) (by decide +kernel), List.mem_of_getElem? (i := 1012) (by decide +kernel), List.mem_of_getElem? (i := 1013) (by decide +kernel)⟩
theorem lw_p25 : lw_okq (⟨"RowTriggersModel", "acts", "(I)Z"⟩, 22) := ⟨⟨by decide +kernel, by decide +kernel⟩, List.mem_of_getElem? (i := 856) (by decide +kernel), List.mem_of_getElem? (i := 1016) (by decide +kernel), List.mem_of_getElem? (i := 1017) (by decide +kernel)⟩
theorem lw_p26 : lw_okq (⟨"RowTriggersModel", "logs", "(I)V"⟩, 22) := ⟨⟨by decide +kernel, by decide +kernel⟩, List.mem_of_getElem? (i := 856) (by decide +kernel), List.mem_of_getElem? (i := 1020) (by decide +kernel), List.mem_of_getElem? (i := 1021) (by decide +kernel)⟩
theorem lw_p27 : lw_okq (⟨"RowTriggersModel", "putBack", "()V"⟩, 22) := ⟨⟨by decide +kernel, by decide +kernel⟩, List.mem_of_getElem? (i := 856) (by decide +kernel), List.mem_of_getElem? (i := 1024) (by decide +kernel), List.mem_of_getElem? (i := 1025) (by decide +kernel)⟩
theorem lw_p28 : lw_okq (⟨"RowTriggersModel", "updates", "(III)Z"⟩, 22) := ⟨⟨by decide +kernel, by decide +kernel⟩, List.mem_of_getElem? (i := 856) (by decide +kernel), List.mem_of_getElem? (i := 1032) (by decide +kernel), List.mem_of_getElem? (i := 1033) (by decide +kernel)⟩
theorem lw_p29 : lw_okq (⟨"RowTriggersModel", "removes", "(I)Z"⟩, 22) := ⟨⟨by decide +kernel, by decide +kernel⟩, List.mem_of_getElem? (i := 856) (by decide +kernel), List.mem_of_getElem? (i := 1040) (by decide +kernel), List.mem_of_getElem? (i := 1041) (by decide +kernel)⟩
theorem lw_p30 : lw_okq (⟨"RowTriggersModel", "triesUpdate", "(III)Z"⟩, 22) := ⟨⟨by decide +kernel, by decide +kernel⟩, List.mem_of_getElem? (i := 856) (by decide +kernel), List.mem_of_getElem? (i := 1048) (by decide +kernel), List.mem_of_getElem? (i := 1049) (by decide +kernel)⟩
theorem lw_p31 : lw_okq (⟨"RowTriggersModel", "rowsNow", "()I"⟩, 22) := ⟨⟨by decide +kernel, by decide +kernel⟩, List.mem_of_getElem? (i := 856) (by decide +kernel), List.mem_of_getElem? (i := 1068) (by decide +kernel), List.mem_of_getElem? (i := 1069) (by decide +kernel)⟩
def lw_privs_2 : List (MethodName × Nat) := [(⟨"RowTriggersModel", "putAside", "()V"⟩, 22), (⟨"RowTriggersModel", "recordAside", "()V"⟩, 22), (⟨"RowTriggersModel", "isRule", "(I)Z"⟩, 22), (⟨"RowTriggersModel", "at", "(II)I"⟩, 22), (⟨"RowTriggersModel", "inserts", "(IIII)Z"⟩, 22), (⟨"RowTriggersModel", "states", "(IIII)Z"⟩, 22), (⟨"RowTriggersModel", "begins", "(IIIII)Z"⟩, 22), (⟨"RowTriggersModel", "matching", "(IIIIZ)I"⟩, 22), (⟨"RowTriggersModel", "follows", "()Z"⟩, 22), (⟨"RowTriggersModel", "acts", "(I)Z"⟩, 22), (⟨"RowTriggersModel", "logs", "(I)V"⟩, 22), (⟨"RowTriggersModel", "putBack", "()V"⟩, 22), (⟨"RowTriggersModel", "updates", "(III)Z"⟩, 22), (⟨"RowTriggersModel", "removes", "(I)Z"⟩, 22), (⟨"RowTriggersModel", "triesUpdate", "(III)Z"⟩, 22), (⟨"RowTriggersModel", "rowsNow", "()I"⟩, 22)]
theorem lw_r2 : ∀ q ∈ lw_privs_2, lw_okq q := List.forall_mem_cons.mpr ⟨lw_p16, List.forall_mem_cons.mpr ⟨lw_p17, List.forall_mem_cons.mpr ⟨lw_p18, List.forall_mem_cons.mpr ⟨lw_p19, List.forall_mem_cons.mpr ⟨lw_p20, List.forall_mem_cons.mpr ⟨lw_p21, List.forall_mem_cons.mpr ⟨lw_p22, List.forall_mem_cons.mpr ⟨lw_p23, List.forall_mem_cons.mpr ⟨lw_p24, List.forall_mem_cons.mpr ⟨lw_p25, List.forall_mem_cons.mpr ⟨lw_p26, List.forall_mem_cons.mpr ⟨lw_p27, List.forall_mem_cons.mpr ⟨lw_p28, List.forall_mem_cons.mpr ⟨lw_p29, List.forall_mem_cons.mpr ⟨lw_p30, List.forall_mem_cons.mpr ⟨lw_p31, fun _ h => absurd h List.not_mem_nil⟩⟩⟩⟩⟩⟩⟩⟩⟩⟩⟩⟩⟩⟩⟩⟩
theorem lw_p32 : lw_okq (⟨"RowTriggersModel", "setsOff", "(II)Z"⟩, 22) := ⟨⟨by decide +kernel, by decide +kernel⟩, List.mem_of_getElem? (i := 856) (by decide +kernel), List.mem_of_getElem? (i := 1116) (by decide +kernel), List.mem_of_getElem? (i := 1117) (by decide +kernel)⟩
theorem lw_p33 : lw_okq (⟨"RowTriggersModel", "reach", "(I)I"⟩, 22) := ⟨⟨by decide +kernel, by decide +kernel⟩, List.mem_of_getElem? (i := 856) (by decide +kernel), List.mem_of_getElem? (i := 1124) (by decide +kernel), List.mem_of_getElem? (i := 1125) (by decide +kernel)⟩
theorem lw_p34 : lw_okq (⟨"RowTriggersModel", "straight", "(I)I"⟩, 22) := ⟨⟨by decide +kernel, by decide +kernel⟩, List.mem_of_getElem? (i := 856) (by decide +kernel), List.mem_of_getElem? (i := 1128) (by decide +kernel), List.mem_of_getElem? (i := 1129) (by decide +kernel)⟩
theorem lw_p35 : lw_okq (⟨"RowTriggersModel", "goesThrough", "(Z)V"⟩, 22) := ⟨⟨by decide +kernel, by decide +kernel⟩, List.mem_of_getElem? (i := 856) (by decide +kernel), List.mem_of_getElem? (i := 1158) (by decide +kernel), List.mem_of_getElem? (i := 1159) (by decide +kernel)⟩
theorem lw_p36 : lw_okq (⟨"RowTriggersModel", "readCommand", "()V"⟩, 22) := ⟨⟨by decide +kernel, by decide +kernel⟩, List.mem_of_getElem? (i := 856) (by decide +kernel), List.mem_of_getElem? (i := 1162) (by decide +kernel), List.mem_of_getElem? (i := 1163) (by decide +kernel)⟩
theorem lw_p37 : lw_okq (⟨"RowTriggersModel", "takes", "(II)I"⟩, 22) := ⟨⟨by decide +kernel, by decide +kernel⟩, List.mem_of_getElem? (i := 856) (by decide +kernel), List.mem_of_getElem? (i := 1166) (by decide +kernel), List.mem_of_getElem? (i := 1167) (by decide +kernel)⟩
theorem lw_p38 : lw_okq (⟨"RowTriggersModel", "number", "()I"⟩, 22) := ⟨⟨by decide +kernel, by decide +kernel⟩, List.mem_of_getElem? (i := 856) (by decide +kernel), List.mem_of_getElem? (i := 1170) (by decide +kernel), List.mem_of_getElem? (i := 1171) (by decide +kernel)⟩
theorem lw_p39 : lw_okq (⟨"RowTriggersModel", "does", "()Z"⟩, 22) := ⟨⟨by decide +kernel, by decide +kernel⟩, List.mem_of_getElem? (i := 856) (by decide +kernel), List.mem_of_getElem? (i := 1174) (by decide +kernel), List.mem_of_getElem? (i := 1175) (by decide +kernel)⟩
def lw_privs_3 : List (MethodName × Nat) := [(⟨"RowTriggersModel", "setsOff", "(II)Z"⟩, 22), (⟨"RowTriggersModel", "reach", "(I)I"⟩, 22), (⟨"RowTriggersModel", "straight", "(I)I"⟩, 22), (⟨"RowTriggersModel", "goesThrough", "(Z)V"⟩, 22), (⟨"RowTriggersModel", "readCommand", "()V"⟩, 22), (⟨"RowTriggersModel", "takes", "(II)I"⟩, 22), (⟨"RowTriggersModel", "number", "()I"⟩, 22), (⟨"RowTriggersModel", "does", "()Z"⟩, 22)]
theorem lw_r3 : ∀ q ∈ lw_privs_3, lw_okq q := List.forall_mem_cons.mpr ⟨lw_p32, List.forall_mem_cons.mpr ⟨lw_p33, List.forall_mem_cons.mpr ⟨lw_p34, List.forall_mem_cons.mpr ⟨lw_p35, List.forall_mem_cons.mpr ⟨lw_p36, List.forall_mem_cons.mpr ⟨lw_p37, List.forall_mem_cons.mpr ⟨lw_p38, List.forall_mem_cons.mpr ⟨lw_p39, fun _ h => absurd h List.not_mem_nil⟩⟩⟩⟩⟩⟩⟩⟩
def lw_privs : List (MethodName × Nat) := lw_privs_1 ++ (lw_privs_2 ++ (lw_privs_3))
def lw_tbl : List Cond := k2_sels lw_privs ++ tables_1
theorem lw_privs_ok : ∀ q ∈ lw_privs, lw_okq q := by
  show ∀ q ∈ lw_privs_1 ++ (lw_privs_2 ++ (lw_privs_3)), lw_okq q
  exact List.forall_mem_append.mpr ⟨lw_r1, List.forall_mem_append.mpr ⟨lw_r2, lw_r3⟩⟩

/-! ===== BEGIN words of one list among another's, by their places ===== -/
theorem goodIn_r {big : List Cond} (ws : List Cond) (ps : List Nat) (hp : ws = ps.filterMap (fun i => big[i]?)) (h : ws.all goodWord = true) : GoodIn big ws := by
  intro w hw
  have h1 := List.all_eq_true.mp h w hw
  rw [hp] at hw
  obtain ⟨i, -, hi⟩ := List.mem_filterMap.mp hw
  have hm : w ∈ big := by first | exact List.mem_of_getElem? hi | exact List.getElem?_mem hi
  exact ⟨hm, good_of_word h1⟩
theorem goodIn_app {big a b : List Cond} (ha : GoodIn big a) (hb : GoodIn big b) : GoodIn big (a ++ b) := fun w h => (List.mem_append.mp h).elim (ha w) (hb w)
theorem goodIn_ca {big a b : List Cond} {c : Cond} (ha : GoodIn big (c :: a)) (hb : GoodIn big b) : GoodIn big (c :: (a ++ b)) := fun w h => (List.mem_cons.mp h).elim (fun e => ha w (List.mem_cons.mpr (Or.inl e))) (fun h => (List.mem_append.mp h).elim (fun h => ha w (List.mem_cons.mpr (Or.inr h))) (hb w))
theorem goodIn_sub {big ws : List Cond} (hm : ∀ w ∈ ws, w ∈ big) (h : ws.all goodWord = true) : GoodIn big ws := fun w hw => ⟨hm w hw, good_of_word (List.all_eq_true.mp h w hw)⟩
/-! ===== END ===== -/

/-! ===== BEGIN exceptions that leave a method, and their catching by the caller (launches without stack traces) ===== -/
section VXA
/-! The laws vx_back, vx_callV, vx_callS, vx_callSW, vx_throw0, vx_throwS follow proofs of the library, with one case more: JvmDerived/Free/Laws.lean (Back.of_free), Shelf42/LK1.lean (callV, callS), Shelf/KitTraced.lean (throwNew0V, throwNewS). -/
/-- where a method has thrown q: the class by its name, the cell, what was written, the world -/
def vx_T (XC : String → State → State → Prop) (st : State) (q : Addr) (t : State) (mc ms : Nat) (free : Addr → Prop) : Prop :=
  ∃ (E : String) (ce : Cell) (L : List Loc), XC E st t ∧ t.heap[q]? = some ce ∧ ce.vm = .none ∧ st.vm.findClass E = some ce.cls ∧ st.WarmedH t.vm ∧ st.sameButNew ({ t with vm := st.vm } : State) L mc ms ∧ ∀ z ∈ L, free z.base
def vx_Q (Qc : Array Value → State → Outcome → State → Prop) (XC : String → State → State → Prop) (mc ms : Nat) (free : Addr → Prop) : Array Value → State → Outcome → State → Prop := fun a st o t =>
  (Qc a st o t ∧ ∃ L, FrameEnd st o t L mc ms ∧ ∀ q ∈ L, free q.base) ∨ ∃ q, o = .threw q ∧ vx_T XC st q t mc ms free
/-- a callee that returns or throws -/
def vx_Met (l : Launch) (y : MethodName) (ws : List Cond) (rm : Room) (Pc : Array Value → State → Prop) (Qc : Array Value → State → Outcome → State → Prop) (XC : String → State → State → Prop) (mc ms : Nat) (free : Addr → Prop) : Prop :=
  MetFree l y (headSpec ws rm) Pc (fun _ _ _ _ _ => True) (vx_Q Qc XC mc ms free)
def vx_Post (XC : String → State → State → Prop) (mc ms : Nat) (free : Addr → Prop) : Pt → Array Value → Addr → Pt → Prop := fun A a q B =>
  ∃ (g : JFrame) (mk : MethodId) (t : State) (L : List Loc) (E : String) (ce : Cell), B.U.heap = t.heap ∧ B.U.vm = t.vm ∧ XC E (A.U.calling g mk a) t ∧ t.heap[q]? = some ce ∧ ce.vm = .none ∧ A.U.vm.findClass E = some ce.cls ∧ B.locs = A.locs ++ L ∧ (∀ z ∈ L, free z.base) ∧ B.cells = A.cells + mc ∧ B.slots = A.slots + ms
def vx_Back (l : Launch) (R : Room) (p : Program) (e : Env) (below : List Frame) (s : State) (sargs : Array Value) (y : MethodName) (len W9 : Nat)
    (Pre : Pt → Array Value → Prop) (Post : Pt → Array Value → Option Value → Pt → Prop) (PostX : Pt → Array Value → Addr → Pt → Prop) : Prop :=
  ∀ (m : MethodId) (meth : Method) (c : Code) (A : Pt) (g : JFrame) (ig : Instr) (mk : MethodId) (a : Array Value),
    Stand p l e R s m sargs below meth c A.U A.locs A.cells A.slots → g.method = m → g.locals.size = c.maxLocals → decode c.code g.pc = .ok (ig, len) →
    2 * g.monitorRoom + (g.stack.map fun v => v.category).sum ≤ W9 → A.U.methodNamed? y = some mk → Pre A a →
    (∃ (v : Option Value) (B : Pt), Stand p l e R s m sargs below meth c B.U B.locs B.cells B.slots ∧ Post A a v B ∧
      Steps p.tables e below (doInvoke e (A.U.setTop g) [] mk a).1 (B.U.setTop { g with pc := g.pc + len, stack := v.toList ++ g.stack })) ∨
    (∃ (q : Addr) (B : Pt), Stand p l e R s m sargs below meth c B.U B.locs B.cells B.slots ∧ PostX A a q B ∧
      Steps p.tables e below (doInvoke e (A.U.setTop g) [] mk a).1 ((B.U.setTop g).pushFrame (.throwing q)))
section Payer
variable {l : Launch} {R : Room} {p : Program} {e : Env} {below : List Frame} {s : State} {sargs : Array Value} {y : MethodName} {len W9 : Nat}
theorem vx_back {ws : List Cond} {rm : Room} {Pc : Array Value → State → Prop} {Qc : Array Value → State → Outcome → State → Prop} {XC : String → State → State → Prop} {mc ms : Nat} {free : Addr → Prop} {bytes : ByteArray} {maxL : Nat} {ret : Option FieldType}
    (hM : vx_Met l y ws rm Pc Qc XC mc ms free) (hblind : FrameBlind Pc) (hrc : rm.cells = mc) (hrs : rm.slots = ms)
    (hframes : rm.frames + 1 ≤ R.frames) (hlocals : W9 + (maxL + 11) + rm.locals ≤ R.locals)
    (hws : ∀ w ∈ ws, ∀ a' U, s.WarmedH U.vm → w.before a' U = true) (hcode : Cond.code y bytes maxL ret ∈ ws) (hinit : ∀ a' U, s.WarmedH U.vm → (Cond.initialized y.cls).before a' U = true) :
    vx_Back l R p e below s sargs y len W9 (PreOf R mc ms Pc) (PostOf Qc mc ms free) (vx_Post XC mc ms free) := by
  intro m meth c A g ig mk a X hg hsize hdg hW hn hp
  have h1 : (headSpec ws rm).pre.before a A.U = true := atoms_intro fun w hw => hws w hw _ _ X.warmed
  have h2 : (Cond.code y bytes maxL ret).before a A.U = true := hws _ hcode _ _ X.warmed
  have h3 : (Cond.initialized y.cls).before a A.U = true := hinit _ _ X.warmed
  have h4 : A.cells + (headSpec ws rm).room.cells ≤ R.cells := by rw [show (headSpec ws rm).room.cells = mc from hrc]; exact hp.1
  have h5 : A.slots + (headSpec ws rm).room.slots ≤ R.slots := by rw [show (headSpec ws rm).room.slots = ms from hrs]; exact hp.2.1
  have hPc : Pc a (A.U.calling g mk a) := hblind _ _ _ _ hp.2.2
  obtain ⟨U, Ls, c0, s0⟩ := A
  dsimp only [Pt.U, Pt.locs, Pt.cells, Pt.slots] at h1 h2 h3 h4 h5 X hn hPc ⊢
  obtain ⟨methY, cY, hmY, hcY, -, hlY, -, -, -, -⟩ := Cond.code_spec hn h2
  obtain ⟨kY, hkY, -⟩ := className_of_methodNamed hn
  have hinitY : kY.init = .initialized := Cond.initialized_spec (findClass_of_methodNamed hn) hkY h3
  have h : At U g.method c below := by rw [hg]; exact X.here
  have hlocals9 : W9 + (maxL + 11) + (headSpec ws rm).room.locals ≤ R.locals := hlocals
  have happ : (headSpec ws rm).appliesLoose y e.platform (U.calling g mk a) = true :=
    Spec.appliesLoose_calling (g := g) h hdg hn hkY hinitY
      (X.room_calling (g := g) (R' := (headSpec ws rm).room) hsize hmY hcY hframes (by rw [hlY]; omega) h4 h5) h1
  obtain ⟨mid, hmid⟩ := h.above
  have hfr : (U.setTop g).frames = (.java g :: mid) ++ below := by rw [State.frames_setTop' g h.top, hmid]; rfl
  obtain ⟨o, s₂, hsteps, -, hend, hq⟩ := Steps.callFree hM p X.admits X.cas X.clock (acts := []) hfr happ hPc trivial
  have hq' : vx_Q Qc XC mc ms free a (U.calling g mk a) o s₂ := hq
  rw [State.frames_setTop' g h.top] at hend
  obtain ⟨g₀, hg0⟩ := Option.isSome_iff_exists.mp h.top
  obtain ⟨r, hr⟩ := State.topJava?_eq_some.mp hg0
  have hr' : (({ U with heap := s₂.heap, slotsUsed := s₂.slotsUsed } : State).setVm s₂.vm).frames = .java g₀ :: r := hr
  rcases hq' with ⟨hqc, L, hfe, hL⟩ | ⟨q, rfl, E, ce, L, hx, hce, hcv, hcl, hW₂, hsm, hL⟩
  · obtain ⟨⟨v, rfl⟩, hW₂, e2, q2, q3, q4, q5, q6⟩ := id hfe
    have e3 : s₂ = ({ (U.calling g mk a).setFrames s₂.frames with heap := s₂.heap, slotsUsed := s₂.slotsUsed } : State).setVm s₂.vm := by
      have : s₂ = ({ s₂ with vm := (U.calling g mk a).vm } : State).setVm s₂.vm := rfl
      rw [e2] at this
      exact this
    obtain ⟨c₂, i₂, len₂, hc₂, hd₂, hf₂⟩ := hend
    have hW' : U.WarmedH s₂.vm := hW₂
    have hcc : c₂ = c := by
      have h1 : s₂.code? g.method = U.code? g.method := by
        rw [State.code?_eq, State.code?_eq, hW'.alike.method?]
      exact Option.some.inj (hc₂.symm.trans (h1.trans h.code))
    subst hcc
    have hlen : len₂ = len := by rw [hdg] at hd₂; cases hd₂; rfl
    subst hlen
    have hs₂ : s₂ = (({ U with heap := s₂.heap, slotsUsed := s₂.slotsUsed } : State).setVm s₂.vm).setTop { g with pc := g.pc + len₂, stack := v.toList ++ g.stack } := by
      refine e3.trans ?_
      rw [hf₂, State.calling_eq h.top, State.setFrames_setFrames, State.setTop_of_frames _ hr', hr]
      rfl
    have hsame : U.sameButNew ({ U with heap := s₂.heap, slotsUsed := s₂.slotsUsed } : State) L mc ms := by
      refine ⟨?_, q2, q3, q4, q5, q6⟩
      obtain ⟨t, ht, -⟩ := State.frames_cons hr
      show ({ U with heap := s₂.heap, slotsUsed := s₂.slotsUsed } : State) = { U.setFrames U.frames with heap := s₂.heap, slotsUsed := s₂.slotsUsed }
      rw [State.setFrames_self ht]
    subst hg
    refine Or.inl ⟨v, ⟨(({ U with heap := s₂.heap, slotsUsed := s₂.slotsUsed } : State).setVm s₂.vm), Ls ++ L, c0 + mc, s0 + ms⟩,
      ⟨X.admits, X.cas, X.clock, X.frames, X.room, X.hears, X.method, X.code, (X.here.setHeapUsed s₂.heap s₂.slotsUsed).setVm hW'.alike, X.tail, State.WarmedH.trans X.warmed hW', X.limits, X.bytes, X.same.trans (hsame.setVm s.vm)⟩,
      ⟨g, mk, s₂, L, rfl, rfl, hqc, rfl, hL, rfl, rfl⟩, ?_⟩
    show Steps p.tables e below _ ((({ U with heap := s₂.heap, slotsUsed := s₂.slotsUsed } : State).setVm s₂.vm).setTop { g with pc := g.pc + len₂, stack := v.toList ++ g.stack })
    rw [← hs₂]
    exact hsteps
  · obtain ⟨e2, q2, q3, q4, q5, q6⟩ := id hsm
    have e3 : s₂ = ({ (U.calling g mk a).setFrames s₂.frames with heap := s₂.heap, slotsUsed := s₂.slotsUsed } : State).setVm s₂.vm := by
      have : s₂ = ({ s₂ with vm := (U.calling g mk a).vm } : State).setVm s₂.vm := rfl
      rw [e2] at this
      exact this
    have hf₂ : s₂.frames = .throwing q :: .java g :: U.frames.tail := hend
    have hW' : U.WarmedH s₂.vm := hW₂
    have hs₂ : s₂ = ((({ U with heap := s₂.heap, slotsUsed := s₂.slotsUsed } : State).setVm s₂.vm).setTop g).pushFrame (.throwing q) := by
      refine e3.trans ?_
      rw [hf₂, State.calling_eq h.top, State.setFrames_setFrames, State.pushFrame, State.frames_setTop _ hr', State.setTop_of_frames _ hr', State.setFrames_setFrames, hr]
      rfl
    have hsame : U.sameButNew ({ U with heap := s₂.heap, slotsUsed := s₂.slotsUsed } : State) L mc ms := by
      refine ⟨?_, q2, q3, q4, q5, q6⟩
      obtain ⟨t, ht, -⟩ := State.frames_cons hr
      show ({ U with heap := s₂.heap, slotsUsed := s₂.slotsUsed } : State) = { U.setFrames U.frames with heap := s₂.heap, slotsUsed := s₂.slotsUsed }
      rw [State.setFrames_self ht]
    subst hg
    refine Or.inr ⟨q, ⟨(({ U with heap := s₂.heap, slotsUsed := s₂.slotsUsed } : State).setVm s₂.vm), Ls ++ L, c0 + mc, s0 + ms⟩,
      ⟨X.admits, X.cas, X.clock, X.frames, X.room, X.hears, X.method, X.code, (X.here.setHeapUsed s₂.heap s₂.slotsUsed).setVm hW'.alike, X.tail, State.WarmedH.trans X.warmed hW', X.limits, X.bytes, X.same.trans (hsame.setVm s.vm)⟩,
      ⟨g, mk, s₂, L, E, ce, rfl, rfl, hx, hce, hcv, hcl, rfl, hL, rfl, rfl⟩, ?_⟩
    show Steps p.tables e below _ (((({ U with heap := s₂.heap, slotsUsed := s₂.slotsUsed } : State).setVm s₂.vm).setTop g).pushFrame (.throwing q))
    rw [← hs₂]
    exact hsteps
end Payer
section Calls
variable {p : Program} {l : Launch} {e : Env} {R : Room} {s : State} {m : MethodId} {args : Array Value} {below : List Frame} {meth : Method} {c : Code} {T : State} {locs : List Loc} {cells slots : Nat}
theorem vx_callV (X : Stand p l e R s m args below meth c T locs cells slots) (hexec : p.tables.exec = Jvm.exec) {own C : String} {index : Nat} {y : MethodName} {bytes : ByteArray} {maxL : Nat} {ret : Option FieldType}
    (hown : s.vm.findClass own = some m.cls) (hlink : (Cond.methodLink own index y).before args s = true) (hinst : (Cond.instanceMethod y).before args s = true) (hsel : (Cond.selects C y y).before args s = true)
    (hcode : (Cond.code y bytes maxL ret).before args s = true) (hy : y.cls ≠ "java/lang/invoke/MethodHandle" ∧ y.cls ≠ "java/lang/invoke/VarHandle")
    {W9 : Nat} {Pre : Pt → Array Value → Prop} {Post : Pt → Array Value → Option Value → Pt → Prop} {PostX : Pt → Array Value → Addr → Pt → Prop} (hK : vx_Back l R p e below s args y 3 W9 Pre Post PostX)
    {b : Addr} {cellB : Cell} (hcell : T.heap[b]? = some cellB) (hobj : cellB.vm.isStatics = false) (hcls : s.vm.findClass C = some cellB.cls)
    {g : JFrame} (hg : g.method = m) (hsize : g.locals.size = c.maxLocals) {argsL rest : List Value} (hlen : ∀ sig, parseMethodDescriptor y.desc = some sig → argsL.length = sig.parameters.length)
    (hstack : g.stack = argsL.reverse ++ .ref b :: rest) (hW : 2 * g.monitorRoom + (rest.map fun v => v.category).sum ≤ W9) (hdg : decode c.code g.pc = .ok (.invokevirtual index, 3))
    (hpre : ∀ vm₁, s.WarmedH vm₁ → Pre ⟨T.setVm vm₁, locs, cells, slots⟩ (Value.ref b :: argsL).toArray) :
    (∃ (v : Option Value) (vm₁ : Vm) (B : Pt), s.WarmedH vm₁ ∧ Stand p l e R s m args below meth c B.U B.locs B.cells B.slots ∧ Post ⟨T.setVm vm₁, locs, cells, slots⟩ (Value.ref b :: argsL).toArray v B ∧
      ∀ target, Steps p.tables e below (B.U.setTop { g with pc := g.pc + 3, stack := v.toList ++ rest }) target → Steps p.tables e below (T.setTop g) target) ∨
    (∃ (q : Addr) (vm₁ : Vm) (B : Pt), s.WarmedH vm₁ ∧ Stand p l e R s m args below meth c B.U B.locs B.cells B.slots ∧ PostX ⟨T.setVm vm₁, locs, cells, slots⟩ (Value.ref b :: argsL).toArray q B ∧
      Steps p.tables e below (T.setTop g) ((B.U.setTop { g with stack := rest }).pushFrame (.throwing q))) := by
  obtain ⟨mk, methM, hnamed, hmethM, hstM, habM⟩ := Cond.instanceMethod_spec hinst
  obtain ⟨methM', cM, hmethM', -, -, -, -, -, -, hsigM⟩ := Cond.code_spec hnamed hcode
  cases hmethM.symm.trans hmethM'
  obtain ⟨c2, r2, m2, q1, q2, q3, q4, kP, hkP, hkPi⟩ := Cond.selects_spec hsel
  cases hcls.symm.trans q1
  cases (State.methodFound?_of_named hnamed hy).symm.trans q2
  cases hnamed.symm.trans q3
  have hselP : selectMethod e.platform s.vm cellB.cls mk = .method mk := by rw [Launch.admits_selectMethod X.admits]; exact q4
  obtain ⟨vm₁, X₁, hstep₁⟩ := X.invokevirtual hexec hown hlink hnamed hmethM hstM hkP hkPi hy (a := b) (cell := cellB) hcell
    (fun z h => by rw [h] at hobj; cases hobj) hselP hmethM habM hkP hkPi (g := g) hg (argsL := argsL) (rest := rest) (hlen _ hsigM) hstack hdg
  rcases hK m meth c ⟨T.setVm vm₁, locs, cells, slots⟩ { g with stack := rest } (.invokevirtual index) mk (Value.ref b :: argsL).toArray X₁ hg hsize hdg hW (X₁.named hnamed) (hpre vm₁ X₁.warmed) with ⟨v, B, X', hpost, hsteps⟩ | ⟨q, B, X', hpost, hsteps⟩
  · exact Or.inl ⟨v, vm₁, B, X₁.warmed, X', hpost, fun target h => hstep₁ _ fun acts => by rw [doInvoke_state]; exact hsteps.trans h⟩
  · exact Or.inr ⟨q, vm₁, B, X₁.warmed, X', hpost, hstep₁ _ fun acts => by rw [doInvoke_state]; exact hsteps⟩
theorem vx_callS (X : Stand p l e R s m args below meth c T locs cells slots) (hexec : p.tables.exec = Jvm.exec) {own : String} {index : Nat} {y : MethodName} {bytes : ByteArray} {maxL : Nat} {ret : Option FieldType}
    (hown : s.vm.findClass own = some m.cls) (hlink : (Cond.methodLink own index y).before args s = true) (hstat : (Cond.static y).before args s = true) (hinit : (Cond.initialized y.cls).before args s = true)
    (hcode : (Cond.code y bytes maxL ret).before args s = true) (hy : y.cls ≠ "java/lang/invoke/MethodHandle" ∧ y.cls ≠ "java/lang/invoke/VarHandle")
    {W9 : Nat} {Pre : Pt → Array Value → Prop} {Post : Pt → Array Value → Option Value → Pt → Prop} {PostX : Pt → Array Value → Addr → Pt → Prop} (hK : vx_Back l R p e below s args y 3 W9 Pre Post PostX)
    {g : JFrame} (hg : g.method = m) (hsize : g.locals.size = c.maxLocals) {argsL rest : List Value} (hlen : ∀ sig, parseMethodDescriptor y.desc = some sig → argsL.length = sig.parameters.length)
    (hstack : g.stack = argsL.reverse ++ rest) (hW : 2 * g.monitorRoom + (rest.map fun v => v.category).sum ≤ W9) (hdg : decode c.code g.pc = .ok (.invokestatic index, 3))
    (hpre : ∀ vm₁, s.WarmedH vm₁ → Pre ⟨T.setVm vm₁, locs, cells, slots⟩ argsL.toArray) :
    (∃ (v : Option Value) (vm₁ : Vm) (B : Pt), s.WarmedH vm₁ ∧ Stand p l e R s m args below meth c B.U B.locs B.cells B.slots ∧ Post ⟨T.setVm vm₁, locs, cells, slots⟩ argsL.toArray v B ∧
      ∀ target, Steps p.tables e below (B.U.setTop { g with pc := g.pc + 3, stack := v.toList ++ rest }) target → Steps p.tables e below (T.setTop g) target) ∨
    (∃ (q : Addr) (vm₁ : Vm) (B : Pt), s.WarmedH vm₁ ∧ Stand p l e R s m args below meth c B.U B.locs B.cells B.slots ∧ PostX ⟨T.setVm vm₁, locs, cells, slots⟩ argsL.toArray q B ∧
      Steps p.tables e below (T.setTop g) ((B.U.setTop { g with stack := rest }).pushFrame (.throwing q))) := by
  obtain ⟨mk, hnamed⟩ := Cond.code_named hcode
  obtain ⟨methM, cM, hmethM, -, -, -, -, -, -, hsigM⟩ := Cond.code_spec hnamed hcode
  have hstatic : methM.isStatic = true := Cond.static_spec hnamed hmethM hstat
  obtain ⟨kP, hkP, -⟩ := className_of_methodNamed hnamed
  have hinitP : kP.init = .initialized := Cond.initialized_spec (findClass_of_methodNamed hnamed) hkP hinit
  obtain ⟨vm₁, X₁, hstep₁⟩ := X.invokestatic hexec hown hlink hnamed hmethM hstatic hkP hinitP hy (g := g) hg (argsL := argsL) (rest := rest) (hlen _ hsigM) hstack hdg
  rcases hK m meth c ⟨T.setVm vm₁, locs, cells, slots⟩ { g with stack := rest } (.invokestatic index) mk argsL.toArray X₁ hg hsize hdg hW (X₁.named hnamed) (hpre vm₁ X₁.warmed) with ⟨v, B, X', hpost, hsteps⟩ | ⟨q, B, X', hpost, hsteps⟩
  · exact Or.inl ⟨v, vm₁, B, X₁.warmed, X', hpost, fun target h => hstep₁ _ fun acts => by rw [doInvoke_state]; exact hsteps.trans h⟩
  · exact Or.inr ⟨q, vm₁, B, X₁.warmed, X', hpost, hstep₁ _ fun acts => by rw [doInvoke_state]; exact hsteps⟩
end Calls
theorem vx_cls {s : State} {T : State} {vm₁ : Vm} {E : String} {k : ClassId} (hW : s.WarmedH vm₁) (h : (T.setVm vm₁).vm.findClass E = some k) : s.vm.findClass E = some k := by
  have h1 : vm₁.findClass E = some k := h
  rw [hW.alike.findClass] at h1
  exact h1
/-- the method's frame g, with q thrown over it -/
def vx_W (p : Program) (l : Launch) (e : Env) (R : Room) (s : State) (m : MethodId) (args : Array Value) (below : List Frame) (meth : Method) (c : Code) (H : Heap) (locs : List Loc) (cells slots : Nat) (Q : State → Prop) (g : JFrame) (q : Addr) : Prop :=
  ∀ T : State, T.heap = H → Stand p l e R s m args below meth c T locs cells slots → ∃ t, Steps p.tables e below ((T.setTop g).pushFrame (.throwing q)) t ∧ Q t
def vx_Run (p : Program) (l : Launch) (e : Env) (R : Room) (s : State) (m : MethodId) (args : Array Value) (below : List Frame) (meth : Method) (c : Code) (H : Heap) (locs : List Loc) (cells slots mc ms : Nat) (g : JFrame) (rest : List Value) (Qa : State → Outcome → State → Prop) (XC : String → State → State → Prop) (free : Addr → Prop) : Prop :=
  ∀ T : State, T.heap = H → Stand p l e R s m args below meth c T locs cells slots →
    (∃ (v : Option Value) (st₀ t T' : State) (L : List Loc), st₀.heap = H ∧ Stand p l e R s m args below meth c T' (locs ++ L) (cells + mc) (slots + ms) ∧ (∀ q ∈ L, free q.base) ∧ T'.heap = t.heap ∧ T'.vm = t.vm ∧ Qa st₀ (.returned v) t ∧
      Goes p e below T g T' { g with pc := g.pc + 3, stack := v.toList ++ rest }) ∨
    (∃ (q : Addr) (st₀ t T' : State) (L : List Loc) (E : String) (ce : Cell), st₀.heap = H ∧ Stand p l e R s m args below meth c T' (locs ++ L) (cells + mc) (slots + ms) ∧ (∀ z ∈ L, free z.base) ∧ T'.heap = t.heap ∧ T'.vm = t.vm ∧ XC E st₀ t ∧ t.heap[q]? = some ce ∧ ce.vm = .none ∧ s.vm.findClass E = some ce.cls ∧
      Steps p.tables e below (T.setTop g) ((T'.setTop { g with stack := rest }).pushFrame (.throwing q)))
def vx_X {S : Type} (px : S → Prop) (B : String → S → State → Prop) (A : Nat → Prop) : String → State → State → Prop := fun E st t => ∃ u : S, px u ∧ B E u t ∧ va_F A st t
section Runs
variable {p : Program} {l : Launch} {e : Env} {R : Room} {s : State} {m : MethodId} {args : Array Value} {below : List Frame} {meth : Method} {c : Code} {H : Heap} {locs : List Loc} {cells slots : Nat}
variable {y : MethodName} {bytes cc : ByteArray} {maxL nL mc ms n index : Nat} {ret : Option FieldType} {ws : List Cond} {rm : Room} {Pc : Array Value → State → Prop} {Qc : Array Value → State → Outcome → State → Prop} {XC : String → State → State → Prop} {free : Addr → Prop} {Ts : List Cond} {own C : String} {b : Addr} {As rest : List Value} {g : JFrame}
theorem vx_callBack (cb : CallB R s args own index y bytes maxL ret ws rm mc ms n) (hM : vx_Met l y ws rm Pc Qc XC mc ms free) (hbl : FrameBlind Pc) : vx_Back l R p e below s args y 3 8 (PreOf R mc ms Pc) (PostOf Qc mc ms free) (vx_Post XC mc ms free) := by
  obtain ⟨hrc, hrs, hfr, hlo, hws, hcw, -, hini, -⟩ := cb
  exact vx_back (bytes := bytes) (maxL := maxL) (ret := ret) hM hbl hrc hrs hfr hlo hws hcw (fun a' U hW => word_at hW (Or.inl (by first | rfl | simp [Cond.onTables, Cond.keeps, Cond.steady])) hini)
theorem vx_runV (S : CallFix p m c cc nL s args Ts own) (hM : vx_Met l y ws rm Pc Qc XC mc ms free) (cw : CallW R s args own C index y bytes maxL ret ws rm mc ms n) (hp : PreV s H C b Pc As)
    (hg : g.method = m) (hn : As.length = n) (hsize : g.locals.size = nL) (hstack : g.stack = As.reverse ++ .ref b :: rest) (hW : 2 * g.monitorRoom + (rest.map fun v => v.category).sum ≤ 8) (hdg : decode cc g.pc = .ok (.invokevirtual index, 3)) (hf : cells + mc ≤ R.cells ∧ slots + ms ≤ R.slots) :
    vx_Run p l e R s m args below meth c H locs cells slots mc ms g rest (Qc (Value.ref b :: As).toArray) XC free := by
  have hK : vx_Back l R p e below s args y 3 8 (PreOf R mc ms Pc) (PostOf Qc mc ms free) (vx_Post XC mc ms free) := vx_callBack cw.1 hM hp.1
  obtain ⟨⟨-, -, -, -, -, -, hcode, -, hy, hlen, hl⟩, hin, hse⟩ := cw
  obtain ⟨hx, hb, hml, ho, -⟩ := S
  obtain ⟨-, ⟨cellB, hcB, hoB, hclB⟩, hPc⟩ := hp
  intro T hT X
  rcases vx_callV X hx (C := C) (bytes := bytes) (maxL := maxL) (ret := ret) ho hl hin hse hcode hy hK (by rw [hT]; exact hcB) hoB hclB hg (hsize.trans hml.symm) (argsL := As) (rest := rest) (fun sig h => hn.trans (hlen sig h)) hstack hW (by rw [hb]; exact hdg)
    (fun vm₁ hW₁ => ⟨hf.1, hf.2, hPc (T.setVm vm₁) hT hW₁⟩) with ⟨v, vm₁, ⟨U', l2, c2, s2⟩, hW₁, X', ⟨g', mk, t, L, e1, e2, hq, h1, hL, h2, h3⟩, st⟩ | ⟨q, vm₁, ⟨U', l2, c2, s2⟩, hW₁, X', ⟨g', mk, t, L, E, ce, e1, e2, hq, hce, hcv, hcl, h1, hL, h2, h3⟩, st⟩
  · dsimp only [Pt.U, Pt.locs, Pt.cells, Pt.slots] at X' e1 e2 h1 h2 h3 st
    subst h1; subst h2; subst h3
    exact Or.inl ⟨v, (T.setVm vm₁).calling g' mk (Value.ref b :: As).toArray, t, U', L, hT, X', hL, e1, e2, hq, st⟩
  · dsimp only [Pt.U, Pt.locs, Pt.cells, Pt.slots] at X' e1 e2 h1 h2 h3 st hcl
    subst h1; subst h2; subst h3
    exact Or.inr ⟨q, (T.setVm vm₁).calling g' mk (Value.ref b :: As).toArray, t, U', L, E, ce, hT, X', hL, e1, e2, hq, hce, hcv, vx_cls hW₁ hcl, st⟩
theorem vx_runS (S : CallFix p m c cc nL s args Ts own) (hM : vx_Met l y ws rm Pc Qc XC mc ms free) (cw : CallB R s args own index y bytes maxL ret ws rm mc ms n ∧ (Cond.static y).before args s = true) (hp : PreS s H Pc As)
    (hg : g.method = m) (hn : As.length = n) (hsize : g.locals.size = nL) (hstack : g.stack = As.reverse ++ rest) (hW : 2 * g.monitorRoom + (rest.map fun v => v.category).sum ≤ 8) (hdg : decode cc g.pc = .ok (.invokestatic index, 3)) (hf : cells + mc ≤ R.cells ∧ slots + ms ≤ R.slots) :
    vx_Run p l e R s m args below meth c H locs cells slots mc ms g rest (Qc As.toArray) XC free := by
  have hK : vx_Back l R p e below s args y 3 8 (PreOf R mc ms Pc) (PostOf Qc mc ms free) (vx_Post XC mc ms free) := vx_callBack cw.1 hM hp.1
  obtain ⟨⟨-, -, -, -, -, -, hcode, hini, hy, hlen, hl⟩, hstt⟩ := cw
  obtain ⟨hx, hb, hml, ho, -⟩ := S
  intro T hT X
  rcases vx_callS X hx (bytes := bytes) (maxL := maxL) (ret := ret) ho hl hstt hini hcode hy hK hg (hsize.trans hml.symm) (argsL := As) (rest := rest) (fun sig h => hn.trans (hlen sig h)) hstack hW (by rw [hb]; exact hdg)
    (fun vm₁ hW₁ => ⟨hf.1, hf.2, hp.2 (T.setVm vm₁) hT hW₁⟩) with ⟨v, vm₁, ⟨U', l2, c2, s2⟩, hW₁, X', ⟨g', mk, t, L, e1, e2, hq, h1, hL, h2, h3⟩, st⟩ | ⟨q, vm₁, ⟨U', l2, c2, s2⟩, hW₁, X', ⟨g', mk, t, L, E, ce, e1, e2, hq, hce, hcv, hcl, h1, hL, h2, h3⟩, st⟩
  · dsimp only [Pt.U, Pt.locs, Pt.cells, Pt.slots] at X' e1 e2 h1 h2 h3 st
    subst h1; subst h2; subst h3
    exact Or.inl ⟨v, (T.setVm vm₁).calling g' mk As.toArray, t, U', L, hT, X', hL, e1, e2, hq, st⟩
  · dsimp only [Pt.U, Pt.locs, Pt.cells, Pt.slots] at X' e1 e2 h1 h2 h3 st hcl
    subst h1; subst h2; subst h3
    exact Or.inr ⟨q, (T.setVm vm₁).calling g' mk As.toArray, t, U', L, E, ce, hT, X', hL, e1, e2, hq, hce, hcv, vx_cls hW₁ hcl, st⟩
end Runs
section Rows
variable {p : Program} {l : Launch} {e : Env} {R : Room} {s : State} {m : MethodId} {args : Array Value} {below : List Frame} {meth : Method} {c : Code} {H : Heap} {locs : List Loc} {cells slots : Nat} {Q : State → Prop}
variable {mc ms : Nat} {free : Addr → Prop} {A0 A1 : Nat → Prop} {H0 : Heap} {a : Array Value} {pc : Nat} {ls : Array Slot} {st0 rest : List Value}
theorem vx_keep {st₀ t T' : State} {L : List Loc} (h0 : st₀.heap = H) (e1 : T'.heap = t.heap) (hS : va_S A0 H0 H locs) (hA : ∀ q, q < H.size → A1 q → A0 q) (hf : ∀ q, free q → A0 q) (hL : ∀ q ∈ L, free q.base) (hF : va_F A1 st₀ t) :
    H.size ≤ T'.heap.size ∧ (∀ q : Nat, q < H.size → ¬ A1 q → T'.heap[q]? = H[q]?) ∧ va_S A0 H0 T'.heap (locs ++ L) := by
  obtain ⟨hz, hk⟩ := hF
  rw [h0] at hz hk
  exact ⟨by rw [e1]; exact hz, fun q h1 h2 => by rw [e1]; exact hk q h1 h2,
    ⟨Nat.le_trans hS.1 (by rw [e1]; exact hz), fun q h1 h2 => by rw [e1, hk q (Nat.lt_of_lt_of_le h1 hS.1) (fun z => h2 (hA q (Nat.lt_of_lt_of_le h1 hS.1) z))]; exact hS.2.1 q h1 h2, fun q hq => by
      rcases List.mem_append.mp hq with h | h
      · exact hS.2.2 q h
      · exact hf _ (hL q h)⟩⟩
theorem vx_calli {S SX : Type} {post : Int32 → S → Prop} {px : SX → Prop} {B : S → State → Prop} {BX : String → SX → State → Prop} {AX : Nat → Prop} (hr : vx_Run p l e R s m args below meth c H locs cells slots mc ms (F0 m pc ls st0) rest (va_Qi post B A1 a) (vx_X px BX AX) free) (hS : va_S A0 H0 H locs) (hA : ∀ q, q < H.size → A1 q → A0 q) (hf : ∀ q, free q → A0 q) (hAX : ∀ q, q < H.size → AX q → A0 q)
    (kx : ∀ (E : String) (ce : Cell) (q9 : Addr) (u : SX) (t : State) (H1 : Heap) (locs1 : List Loc), t.heap = H1 → s.vm.Alike t.vm → px u → BX E u t → H.size ≤ H1.size → (∀ q : Nat, q < H.size → ¬ AX q → H1[q]? = H[q]?) → va_S A0 H0 H1 locs1 → H1[q9]? = some ce → ce.vm = .none → s.vm.findClass E = some ce.cls → vx_W p l e R s m args below meth c H1 locs1 (cells + mc) (slots + ms) Q (F0 m pc ls rest) q9)
    (kk : ∀ (r : Int32) (u : S) (t : State) (H1 : Heap) (locs1 : List Loc), t.heap = H1 → s.vm.Alike t.vm → post r u → B u t → H.size ≤ H1.size → (∀ q : Nat, q < H.size → ¬ A1 q → H1[q]? = H[q]?) → va_S A0 H0 H1 locs1 → W p l e R s m args below meth c H1 locs1 (cells + mc) (slots + ms) Q (F0 m (pc + 3) ls (.int r :: rest))) : W p l e R s m args below meth c H locs cells slots Q (F0 m pc ls st0) := by
  intro T hT X
  rcases hr T hT X with ⟨v, st₀, t, T', L, h0, X', hL, e1, e2, ⟨⟨r, u, hv, hp, hb⟩, hF⟩, st⟩ | ⟨q, st₀, t, T', L, E, ce, h0, X', hL, e1, e2, ⟨u, hp, hb, hF⟩, hce, hcv, hcl, st⟩
  · cases hv
    obtain ⟨k1, k2, k3⟩ := vx_keep h0 e1 hS hA hf hL hF
    obtain ⟨t2, a1, b1⟩ := kk r u t T'.heap (locs ++ L) e1.symm (by rw [← e2]; exact X'.warmed.alike) hp hb k1 k2 k3 T' rfl X'
    exact ⟨t2, st t2 a1, b1⟩
  · obtain ⟨k1, k2, k3⟩ := vx_keep h0 e1 hS hAX hf hL hF
    obtain ⟨t2, a1, b1⟩ := kx E ce q u t T'.heap (locs ++ L) e1.symm (by rw [← e2]; exact X'.warmed.alike) hp hb k1 k2 k3 (by rw [e1]; exact hce) hcv hcl T' rfl X'
    exact ⟨t2, st.trans a1, b1⟩
theorem vx_calll {S SX : Type} {post : Int64 → S → Prop} {px : SX → Prop} {B : S → State → Prop} {BX : String → SX → State → Prop} {AX : Nat → Prop} (hr : vx_Run p l e R s m args below meth c H locs cells slots mc ms (F0 m pc ls st0) rest (va_Ql post B A1 a) (vx_X px BX AX) free) (hS : va_S A0 H0 H locs) (hA : ∀ q, q < H.size → A1 q → A0 q) (hf : ∀ q, free q → A0 q) (hAX : ∀ q, q < H.size → AX q → A0 q)
    (kx : ∀ (E : String) (ce : Cell) (q9 : Addr) (u : SX) (t : State) (H1 : Heap) (locs1 : List Loc), t.heap = H1 → s.vm.Alike t.vm → px u → BX E u t → H.size ≤ H1.size → (∀ q : Nat, q < H.size → ¬ AX q → H1[q]? = H[q]?) → va_S A0 H0 H1 locs1 → H1[q9]? = some ce → ce.vm = .none → s.vm.findClass E = some ce.cls → vx_W p l e R s m args below meth c H1 locs1 (cells + mc) (slots + ms) Q (F0 m pc ls rest) q9)
    (kk : ∀ (r : Int64) (u : S) (t : State) (H1 : Heap) (locs1 : List Loc), t.heap = H1 → s.vm.Alike t.vm → post r u → B u t → H.size ≤ H1.size → (∀ q : Nat, q < H.size → ¬ A1 q → H1[q]? = H[q]?) → va_S A0 H0 H1 locs1 → W p l e R s m args below meth c H1 locs1 (cells + mc) (slots + ms) Q (F0 m (pc + 3) ls (.long r :: rest))) : W p l e R s m args below meth c H locs cells slots Q (F0 m pc ls st0) := by
  intro T hT X
  rcases hr T hT X with ⟨v, st₀, t, T', L, h0, X', hL, e1, e2, ⟨⟨r, u, hv, hp, hb⟩, hF⟩, st⟩ | ⟨q, st₀, t, T', L, E, ce, h0, X', hL, e1, e2, ⟨u, hp, hb, hF⟩, hce, hcv, hcl, st⟩
  · cases hv
    obtain ⟨k1, k2, k3⟩ := vx_keep h0 e1 hS hA hf hL hF
    obtain ⟨t2, a1, b1⟩ := kk r u t T'.heap (locs ++ L) e1.symm (by rw [← e2]; exact X'.warmed.alike) hp hb k1 k2 k3 T' rfl X'
    exact ⟨t2, st t2 a1, b1⟩
  · obtain ⟨k1, k2, k3⟩ := vx_keep h0 e1 hS hAX hf hL hF
    obtain ⟨t2, a1, b1⟩ := kx E ce q u t T'.heap (locs ++ L) e1.symm (by rw [← e2]; exact X'.warmed.alike) hp hb k1 k2 k3 (by rw [e1]; exact hce) hcv hcl T' rfl X'
    exact ⟨t2, st.trans a1, b1⟩
theorem vx_callf {S SX : Type} {post : UInt32 → S → Prop} {px : SX → Prop} {B : S → State → Prop} {BX : String → SX → State → Prop} {AX : Nat → Prop} (hr : vx_Run p l e R s m args below meth c H locs cells slots mc ms (F0 m pc ls st0) rest (va_Qf post B A1 a) (vx_X px BX AX) free) (hS : va_S A0 H0 H locs) (hA : ∀ q, q < H.size → A1 q → A0 q) (hf : ∀ q, free q → A0 q) (hAX : ∀ q, q < H.size → AX q → A0 q)
    (kx : ∀ (E : String) (ce : Cell) (q9 : Addr) (u : SX) (t : State) (H1 : Heap) (locs1 : List Loc), t.heap = H1 → s.vm.Alike t.vm → px u → BX E u t → H.size ≤ H1.size → (∀ q : Nat, q < H.size → ¬ AX q → H1[q]? = H[q]?) → va_S A0 H0 H1 locs1 → H1[q9]? = some ce → ce.vm = .none → s.vm.findClass E = some ce.cls → vx_W p l e R s m args below meth c H1 locs1 (cells + mc) (slots + ms) Q (F0 m pc ls rest) q9)
    (kk : ∀ (r : UInt32) (u : S) (t : State) (H1 : Heap) (locs1 : List Loc), t.heap = H1 → s.vm.Alike t.vm → post r u → B u t → H.size ≤ H1.size → (∀ q : Nat, q < H.size → ¬ A1 q → H1[q]? = H[q]?) → va_S A0 H0 H1 locs1 → W p l e R s m args below meth c H1 locs1 (cells + mc) (slots + ms) Q (F0 m (pc + 3) ls (.float r :: rest))) : W p l e R s m args below meth c H locs cells slots Q (F0 m pc ls st0) := by
  intro T hT X
  rcases hr T hT X with ⟨v, st₀, t, T', L, h0, X', hL, e1, e2, ⟨⟨r, u, hv, hp, hb⟩, hF⟩, st⟩ | ⟨q, st₀, t, T', L, E, ce, h0, X', hL, e1, e2, ⟨u, hp, hb, hF⟩, hce, hcv, hcl, st⟩
  · cases hv
    obtain ⟨k1, k2, k3⟩ := vx_keep h0 e1 hS hA hf hL hF
    obtain ⟨t2, a1, b1⟩ := kk r u t T'.heap (locs ++ L) e1.symm (by rw [← e2]; exact X'.warmed.alike) hp hb k1 k2 k3 T' rfl X'
    exact ⟨t2, st t2 a1, b1⟩
  · obtain ⟨k1, k2, k3⟩ := vx_keep h0 e1 hS hAX hf hL hF
    obtain ⟨t2, a1, b1⟩ := kx E ce q u t T'.heap (locs ++ L) e1.symm (by rw [← e2]; exact X'.warmed.alike) hp hb k1 k2 k3 (by rw [e1]; exact hce) hcv hcl T' rfl X'
    exact ⟨t2, st.trans a1, b1⟩
theorem vx_calld {S SX : Type} {post : UInt64 → S → Prop} {px : SX → Prop} {B : S → State → Prop} {BX : String → SX → State → Prop} {AX : Nat → Prop} (hr : vx_Run p l e R s m args below meth c H locs cells slots mc ms (F0 m pc ls st0) rest (va_Qd post B A1 a) (vx_X px BX AX) free) (hS : va_S A0 H0 H locs) (hA : ∀ q, q < H.size → A1 q → A0 q) (hf : ∀ q, free q → A0 q) (hAX : ∀ q, q < H.size → AX q → A0 q)
    (kx : ∀ (E : String) (ce : Cell) (q9 : Addr) (u : SX) (t : State) (H1 : Heap) (locs1 : List Loc), t.heap = H1 → s.vm.Alike t.vm → px u → BX E u t → H.size ≤ H1.size → (∀ q : Nat, q < H.size → ¬ AX q → H1[q]? = H[q]?) → va_S A0 H0 H1 locs1 → H1[q9]? = some ce → ce.vm = .none → s.vm.findClass E = some ce.cls → vx_W p l e R s m args below meth c H1 locs1 (cells + mc) (slots + ms) Q (F0 m pc ls rest) q9)
    (kk : ∀ (r : UInt64) (u : S) (t : State) (H1 : Heap) (locs1 : List Loc), t.heap = H1 → s.vm.Alike t.vm → post r u → B u t → H.size ≤ H1.size → (∀ q : Nat, q < H.size → ¬ A1 q → H1[q]? = H[q]?) → va_S A0 H0 H1 locs1 → W p l e R s m args below meth c H1 locs1 (cells + mc) (slots + ms) Q (F0 m (pc + 3) ls (.double r :: rest))) : W p l e R s m args below meth c H locs cells slots Q (F0 m pc ls st0) := by
  intro T hT X
  rcases hr T hT X with ⟨v, st₀, t, T', L, h0, X', hL, e1, e2, ⟨⟨r, u, hv, hp, hb⟩, hF⟩, st⟩ | ⟨q, st₀, t, T', L, E, ce, h0, X', hL, e1, e2, ⟨u, hp, hb, hF⟩, hce, hcv, hcl, st⟩
  · cases hv
    obtain ⟨k1, k2, k3⟩ := vx_keep h0 e1 hS hA hf hL hF
    obtain ⟨t2, a1, b1⟩ := kk r u t T'.heap (locs ++ L) e1.symm (by rw [← e2]; exact X'.warmed.alike) hp hb k1 k2 k3 T' rfl X'
    exact ⟨t2, st t2 a1, b1⟩
  · obtain ⟨k1, k2, k3⟩ := vx_keep h0 e1 hS hAX hf hL hF
    obtain ⟨t2, a1, b1⟩ := kx E ce q u t T'.heap (locs ++ L) e1.symm (by rw [← e2]; exact X'.warmed.alike) hp hb k1 k2 k3 (by rw [e1]; exact hce) hcv hcl T' rfl X'
    exact ⟨t2, st.trans a1, b1⟩
theorem vx_callv {S SX : Type} {post : S → Prop} {px : SX → Prop} {B : S → State → Prop} {BX : String → SX → State → Prop} {AX : Nat → Prop} (hr : vx_Run p l e R s m args below meth c H locs cells slots mc ms (F0 m pc ls st0) rest (va_Qv post B A1 a) (vx_X px BX AX) free) (hS : va_S A0 H0 H locs) (hA : ∀ q, q < H.size → A1 q → A0 q) (hf : ∀ q, free q → A0 q) (hAX : ∀ q, q < H.size → AX q → A0 q)
    (kx : ∀ (E : String) (ce : Cell) (q9 : Addr) (u : SX) (t : State) (H1 : Heap) (locs1 : List Loc), t.heap = H1 → s.vm.Alike t.vm → px u → BX E u t → H.size ≤ H1.size → (∀ q : Nat, q < H.size → ¬ AX q → H1[q]? = H[q]?) → va_S A0 H0 H1 locs1 → H1[q9]? = some ce → ce.vm = .none → s.vm.findClass E = some ce.cls → vx_W p l e R s m args below meth c H1 locs1 (cells + mc) (slots + ms) Q (F0 m pc ls rest) q9)
    (kk : ∀ (u : S) (t : State) (H1 : Heap) (locs1 : List Loc), t.heap = H1 → s.vm.Alike t.vm → post u → B u t → H.size ≤ H1.size → (∀ q : Nat, q < H.size → ¬ A1 q → H1[q]? = H[q]?) → va_S A0 H0 H1 locs1 → W p l e R s m args below meth c H1 locs1 (cells + mc) (slots + ms) Q (F0 m (pc + 3) ls (rest))) : W p l e R s m args below meth c H locs cells slots Q (F0 m pc ls st0) := by
  intro T hT X
  rcases hr T hT X with ⟨v, st₀, t, T', L, h0, X', hL, e1, e2, ⟨⟨u, hv, hp, hb⟩, hF⟩, st⟩ | ⟨q, st₀, t, T', L, E, ce, h0, X', hL, e1, e2, ⟨u, hp, hb, hF⟩, hce, hcv, hcl, st⟩
  · cases hv
    obtain ⟨k1, k2, k3⟩ := vx_keep h0 e1 hS hA hf hL hF
    obtain ⟨t2, a1, b1⟩ := kk u t T'.heap (locs ++ L) e1.symm (by rw [← e2]; exact X'.warmed.alike) hp hb k1 k2 k3 T' rfl X'
    exact ⟨t2, st t2 a1, b1⟩
  · obtain ⟨k1, k2, k3⟩ := vx_keep h0 e1 hS hAX hf hL hF
    obtain ⟨t2, a1, b1⟩ := kx E ce q u t T'.heap (locs ++ L) e1.symm (by rw [← e2]; exact X'.warmed.alike) hp hb k1 k2 k3 (by rw [e1]; exact hce) hcv hcl T' rfl X'
    exact ⟨t2, st.trans a1, b1⟩
/-- caught by the row x of this method's table; the rows ahead don't take it -/
theorem vx_catch {own name : String} {E : String} {ce : Cell} {q : Addr} (hown : s.vm.findClass own = some m.cls) (pre : List ExceptionTableEntry) (x : ExceptionTableEntry) (suf : List ExceptionTableEntry) (hsplit : c.exceptionTable.toList = pre ++ x :: suf)
    (hpass : ∀ z ∈ pre, covers z pc = false ∨ (z.catchType ≠ 0 ∧ ∃ nm : String, (Cond.classLink own z.catchType nm).before args s = true ∧ va_Nc E nm s)) (hx : covers x pc = true) (h0 : x.catchType ≠ 0)
    (hlink : (Cond.classLink own x.catchType name).before args s = true) (hcast : (Cond.castable E name).before args s = true) (hcell : H[q]? = some ce) (hv : ce.vm = .none) (hcl : s.vm.findClass E = some ce.cls)
    (kk : W p l e R s m args below meth c H locs cells slots Q (F0 m x.handlerPc ls [.ref q])) : vx_W p l e R s m args below meth c H locs cells slots Q (F0 m pc ls rest) q := by
  intro T hT X
  have hpl : e.platform.magicAccessors = ({} : Platform).magicAccessors := by rw [X.admits.platform]
  obtain ⟨c3, c4, hc3, hc4, hasg⟩ := Cond.castable_spec hcast
  cases Option.some.inj (hc3.symm.trans hcl)
  obtain ⟨c5, hc5, hcl5⟩ := Cond.classLink_spec hown hlink e.platform hpl
  cases Option.some.inj (hc4.symm.trans hc5)
  obtain ⟨vm', X', st⟩ := X.thenCaughtThrough q (g := F0 m pc ls rest) rfl (Steps.refl _) (by rw [hT]; exact hcell) (by rw [hv]; rfl) (by obtain ⟨k9, h9, -⟩ := Vm.findClass_spec hcl; exact ⟨k9, h9⟩) pre x suf hsplit
    (fun z hz => by
      rcases hpass z hz with h | ⟨hz0, nm, hl1, hn1⟩
      · exact Or.inl h
      · obtain ⟨c6, hc6, hcl6⟩ := Cond.classLink_spec hown hl1 e.platform hpl
        obtain ⟨a8, b8, h1, h2, h3⟩ := hn1
        cases Option.some.inj (h1.symm.trans hcl)
        cases Option.some.inj (h2.symm.trans hc6)
        exact Or.inr ⟨hz0, _, hcl6, h3⟩) hx (Or.inr ⟨h0, c4, hcl5, hasg⟩)
  obtain ⟨t, a1, b1⟩ := kk (T.setVm vm') hT X'
  exact ⟨t, st.trans a1, b1⟩
end Rows
section Ends
variable {p : Program} {l : Launch} {e : Env} {R : Room} {s : State} {m : MethodId} {args : Array Value} {below : List Frame} {meth : Method} {c : Code} {H : Heap} {locs : List Loc} {cells slots : Nat} {Q : State → Prop}
variable {mc ms : Nat} {free : Addr → Prop} {A0 A1 : Nat → Prop} {H0 : Heap} {a : Array Value} {ls : Array Slot} {st0 rest : List Value}
variable {Qc : Array Value → State → Outcome → State → Prop} {XC : String → State → State → Prop}
/-- what a body that may throw owes at its end -/
def vx_MQ (below : List Frame) (Qc : Array Value → State → Outcome → State → Prop) (XC : String → State → State → Prop) (a : Array Value) (s : State) (mc ms : Nat) (free : Addr → Prop) : State → Prop := fun t =>
  ∃ o, t.status = .running ∧ Ended t below o ∧ vx_Q Qc XC mc ms free a s o t
theorem vx_ret {g : JFrame} {mc ms : Nat} (k : W p l e R s m args below meth c H locs cells slots (MQ below Qc args s mc ms free) g) : W p l e R s m args below meth c H locs cells slots (vx_MQ below Qc XC args s mc ms free) g := by
  intro T hT X
  obtain ⟨t, a1, o, b1, b2, b3, b4⟩ := k T hT X
  exact ⟨t, a1, o, b1, b2, Or.inl ⟨b3, b4⟩⟩
/-- not caught here: it goes on to the caller -/
theorem vx_widen {g : JFrame} {q : Addr} {k n : Nat} (h1 : cells ≤ k) (h2 : slots ≤ n) (kk : vx_W p l e R s m args below meth c H locs k n Q g q) : vx_W p l e R s m args below meth c H locs cells slots Q g q := fun T hT X => kk T hT (stand_widen X h1 h2)
theorem vx_out {pc : Nat} {E : String} {ce : Cell} {q : Addr} {mc ms : Nat} (hout : ∀ x ∈ c.exceptionTable.toList, covers x pc = false) (hlocks : meth.locks = false) (hcell : H[q]? = some ce) (hv : ce.vm = .none) (hcl : s.vm.findClass E = some ce.cls)
    (hx : ∀ t : State, t.heap = H → s.vm.Alike t.vm → XC E s t) (hf : ∀ z ∈ locs, free z.base) (hc : cells ≤ mc) (hs : slots ≤ ms) :
    vx_W p l e R s m args below meth c H locs cells slots (vx_MQ below Qc XC args s mc ms free) (F0 m pc ls rest) q := by
  intro T hT X
  obtain ⟨st1, hrun, hend, hW, hsm⟩ := X.leaveThrown q (g := F0 m pc ls rest) rfl rfl rfl hout hlocks
  have hcell9 : (T.setFrames (.throwing q :: below)).heap[q]? = some ce := by
    show T.heap[q]? = some ce
    rw [hT]; exact hcell
  exact ⟨_, st1, .threw q, hrun, hend, Or.inr ⟨q, rfl, E, ce, locs, hx _ hT hW.alike, hcell9, hv, hcl, hW, hsm.mono hc hs, hf⟩⟩
theorem vx_frame {U : State} {k n : Nat} (h : s.sameButNew ({ U with vm := s.vm } : State) locs k n) : s.heap.size ≤ U.heap.size ∧ ∀ q : Nat, q < s.heap.size → (∀ z ∈ locs, z.base ≠ q) → U.heap[q]? = s.heap[q]? := by
  obtain ⟨-, h2, -, -, -, h6⟩ := h
  refine ⟨h2, fun q hq hz => ?_⟩
  obtain ⟨c9, e1, e2, e3, e4⟩ := h6 q _ (Array.getElem?_eq_getElem hq)
  have hs : c9.slots = (s.heap[q]).slots := Array.ext_getElem? fun i => e4 i fun hm => hz _ hm rfl
  have h9 : c9 = s.heap[q] := by
    rw [hs] at e2
    exact e2
  have e5 : U.heap[q]? = some c9 := e1
  rw [e5, h9, Array.getElem?_eq_getElem hq]
/-- the words of a throw but the four that speak of the heap -/
def vx_no (w : Cond) : Bool := decide (w ≠ .isRef (.static Bundle.tN "UNASSIGNED_STACK" Bundle.steD)) && decide (w ≠ .isRef (.static Bundle.tN "SUPPRESSED_SENTINEL" Bundle.listD)) && decide (w ≠ .laysStatic Bundle.tN "UNASSIGNED_STACK" Bundle.steD) && decide (w ≠ .laysStatic Bundle.tN "SUPPRESSED_SENTINEL" Bundle.listD)
def vx_at0 (own : String) (ic : Nat) (X : String) (names : List String) : List Cond := (Bundle.ownAtoms0 own ic X names).filter vx_no
def vx_atS (own : String) (ic : Nat) (X : String) (names : List String) : List Cond := (Bundle.ownAtoms own ic X names).filter vx_no
/-- a word that the tables alone decide, or a good one -/
def vx_ot (w : Cond) : Bool := w.onTables || goodWord w
theorem vx_ot_at {args a' : Array Value} {s U : State} {w : Cond} (hW : s.WarmedH U.vm) (hvm : s.vm = U.vm) (hg : vx_ot w = true) (h : w.before args s = true) : w.before a' U = true := by
  simp only [vx_ot, Bool.or_eq_true] at hg
  rcases hg with hg | hg
  · exact va_tabs hg hvm h
  · exact word_at hW (good_of_word hg) h
/-- a list's words: the good ones out of the method's own list, the others by premises of their own -/
theorem vx_hat {args : Array Value} {s : State} {L B : List Cond} (h1 : ∀ w ∈ L.filter goodWord, w.before args s = true) (h2 : ∀ w ∈ L.filter (fun w => !goodWord w), w ∈ B) (h3 : ∀ w ∈ B, w.before args s = true) : ∀ w ∈ L, w.before args s = true := by
  intro w hw
  by_cases g : goodWord w = true
  · exact h1 w (List.mem_filter.mpr ⟨hw, g⟩)
  · refine h3 w (h2 w (List.mem_filter.mpr ⟨hw, ?_⟩))
    show (!goodWord w) = true
    cases hgw : goodWord w
    · rfl
    · exact absurd hgw g
theorem vx_c {args : Array Value} {s : State} {w : Cond} {B : List Cond} (h : w.before args s = true) (t : ∀ w ∈ B, w.before args s = true) : ∀ w' ∈ w :: B, w'.before args s = true := fun w' h' => (List.mem_cons.mp h').elim (fun e => by rw [e]; exact h) (t w')
theorem vx_n {args : Array Value} {s : State} : ∀ w ∈ ([] : List Cond), w.before args s = true := fun _ h => nomatch h
theorem vx_own {args : Array Value} {s : State} {L : List Cond} (h1 : ∀ w ∈ L.filter vx_no, w.before args s = true)
    (hU : (Cond.isRef (.static Bundle.tN "UNASSIGNED_STACK" Bundle.steD)).before args s = true) (hN : (Cond.isRef (.static Bundle.tN "SUPPRESSED_SENTINEL" Bundle.listD)).before args s = true)
    (lU : (Cond.laysStatic Bundle.tN "UNASSIGNED_STACK" Bundle.steD).before args s = true) (lN : (Cond.laysStatic Bundle.tN "SUPPRESSED_SENTINEL" Bundle.listD).before args s = true) : ∀ w ∈ L, w.before args s = true := by
  intro w hw
  by_cases e1 : w = .isRef (.static Bundle.tN "UNASSIGNED_STACK" Bundle.steD)
  · rw [e1]; exact hU
  · by_cases e2 : w = .isRef (.static Bundle.tN "SUPPRESSED_SENTINEL" Bundle.listD)
    · rw [e2]; exact hN
    · by_cases e3 : w = .laysStatic Bundle.tN "UNASSIGNED_STACK" Bundle.steD
      · rw [e3]; exact lU
      · by_cases e4 : w = .laysStatic Bundle.tN "SUPPRESSED_SENTINEL" Bundle.listD
        · rw [e4]; exact lN
        · exact h1 w (List.mem_filter.mpr ⟨hw, by unfold vx_no; rw [decide_eq_true e1, decide_eq_true e2, decide_eq_true e3, decide_eq_true e4]; rfl⟩)
/-- where a static field lies, its class's statics cell in H -/
def vx_L (C n d : String) (A : Nat → Prop) (U : State) (H : Heap) : Prop := ∃ (c : ClassId) (k : Class) (i : Nat) (f : Field) (a : Nat) (cell : Cell), U.vm.findClass C = some c ∧ U.fieldFound? C n d = some (c, k, i, f) ∧ f.isStatic = true ∧ k.statics = some a ∧ H[a]? = some cell ∧ cell.vm.isStatics = true ∧ cell.cls = c ∧ f.slot < cell.slots.size ∧ k.staticTypes[f.slot]? = some f.type ∧ ¬ A a
theorem vx_L.moved {C n d : String} {A : Nat → Prop} {u U : State} {H : Heap} (hvm : u.vm.Alike U.vm) (h : vx_L C n d A u H) : vx_L C n d A U H := by
  obtain ⟨c, k, i, f, a, cell, h1, h2, h3, h4, h5, h6, h7, h8, h9, h10⟩ := h
  obtain ⟨k', hi', he⟩ := State.fieldFound?_setVm hvm h2
  exact ⟨c, k', i, f, a, cell, by rw [hvm.findClass]; exact h1, hi', h3, by rw [he]; exact h4, h5, h6, h7, h8, by rw [he]; exact h9, h10⟩
theorem vx_L.kept {C n d : String} {A : Nat → Prop} {U : State} {H H1 : Heap} (h : vx_L C n d A U H) (hq : ∀ a : Nat, a < H.size → ¬ A a → H1[a]? = H[a]?) : vx_L C n d A U H1 := by
  obtain ⟨c, k, i, f, a, cell, h1, h2, h3, h4, h5, h6, h7, h8, h9, h10⟩ := h
  exact ⟨c, k, i, f, a, cell, h1, h2, h3, h4, by rw [hq a (Array.getElem?_eq_some_iff.mp h5).1 h10]; exact h5, h6, h7, h8, h9, h10⟩
theorem vx_L.narrow {C n d : String} {A B : Nat → Prop} {U : State} {H : Heap} (h : vx_L C n d A U H) (hAB : ∀ q, B q → A q) : vx_L C n d B U H := by
  obtain ⟨c, k, i, f, a, cell, h1, h2, h3, h4, h5, h6, h7, h8, h9, h10⟩ := h
  exact ⟨c, k, i, f, a, cell, h1, h2, h3, h4, h5, h6, h7, h8, h9, fun z => h10 (hAB _ z)⟩
theorem vx_L.word {C n d : String} {A : Nat → Prop} {s : State} {args : Array Value} (h : vx_L C n d A s s.heap) : (Cond.laysStatic C n d).before args s = true := by
  obtain ⟨c, k, i, f, a, cell, h1, h2, h3, h4, h5, h6, h7, h8, h9, -⟩ := h
  show (Cond.laysStatic C n d).holds args s none s [] = true
  exact Cond.laysStatic_of h1 h2 h3 h4 h5 h6 h7 h8 h9
/-- .. and what it holds: null or some reference -/
def vx_Zq (C n d : String) (A : Nat → Prop) (U : State) (H : Heap) : Prop := va_Zq C n d A U H ∧ vx_L C n d A U H
theorem vx_Zq.moved {C n d : String} {A : Nat → Prop} {u U : State} {H : Heap} (hvm : u.vm.Alike U.vm) (h : vx_Zq C n d A u H) : vx_Zq C n d A U H := ⟨va_Zq.moved hvm h.1, vx_L.moved hvm h.2⟩
theorem vx_Zq.kept {C n d : String} {A : Nat → Prop} {U : State} {H H1 : Heap} (h : vx_Zq C n d A U H) (hq : ∀ a : Nat, a < H.size → ¬ A a → H1[a]? = H[a]?) : vx_Zq C n d A U H1 := ⟨va_Zq.kept h.1 hq, vx_L.kept h.2 hq⟩
theorem vx_Zq.narrow {C n d : String} {A B : Nat → Prop} {U : State} {H : Heap} (h : vx_Zq C n d A U H) (hAB : ∀ q, B q → A q) : vx_Zq C n d B U H := ⟨va_Zq.narrow h.1 hAB, vx_L.narrow h.2 hAB⟩
theorem vx_Zqof {args : Array Value} {s : State} {C n d : String} {A : Nat → Prop} (hl : (Cond.laysStatic C n d).before args s = true) (hini : (Cond.initialized C).before args s = true) (h : (Cond.isRef (.static C n d)).before args s = true) (hA : ∀ a : Nat, a < s.heap.size → ¬ A a) : vx_Zq C n d A s s.heap := by
  refine ⟨va_Zqof hl hini h hA, ?_⟩
  obtain ⟨c, k, i, f, a, cell, h1, h2, h3, h4, h5, h6, h7, h8, h9⟩ := Cond.laysStatic_spec hl
  exact ⟨c, k, i, f, a, cell, h1, h2, h3, h4, h5, h6, h7, h8, h9, hA a (Array.getElem?_eq_some_iff.mp h5).1⟩
theorem vx_isRef {C n d : String} {v : Value} {A : Nat → Prop} {s : State} {args : Array Value} (h : va_Z C n d v A s s.heap) (hv : v.isRef = true) : (Cond.isRef (.static C n d)).before args s = true := by
  obtain ⟨cf, kf, fi, f, a, cell, h1, h2, h3, h4, h5, h6, h7, -⟩ := h
  have he : (Term.static C n d).eval args s none [] s = some v := by
    simp [Term.eval, State.fieldNamed?, h1, h2, h4, h5, h6, h7]
  simp only [Cond.before, Cond.holds, Cond.value, he]
  cases v <;> simp_all [Value.isRef]
theorem vx_isRefq {C n d : String} {A : Nat → Prop} {s : State} {args : Array Value} (h : va_Zq C n d A s s.heap) : (Cond.isRef (.static C n d)).before args s = true := by
  rcases h with h | ⟨t, h⟩
  · exact vx_isRef h rfl
  · exact vx_isRef h rfl
/-- the same frame, seen from here: as if the method were called anew in this heap -/
theorem vx_rebase {T : State} (X : Stand p l e R s m args below meth c T locs cells slots) {R' : Room} (hf : R'.frames ≤ R.frames) (hl : R'.locals ≤ R.locals) (hc : cells + R'.cells ≤ R.cells) (hs : slots + R'.slots ≤ R.slots) :
    Stand p l e R' ((T.setVm s.vm).setFrames (.invoking m args :: below)) m args below meth c T [] 0 0 := by
  have htop : (T.setVm s.vm).topJava?.isSome := X.here.top
  have hF : ((T.setVm s.vm).setFrames (.invoking m args :: below)).frames = .invoking m args :: below := State.frames_setFrames _ (State.cur_lt_of_top htop)
  obtain ⟨g₀, hg0⟩ := Option.isSome_iff_exists.mp htop
  obtain ⟨r, hr⟩ := State.topJava?_eq_some.mp hg0
  have hl9 : e.platform.stackLimits (T.setVm s.vm).me = e.platform.stackLimits s.me := X.limits
  have hb9 : (T.setVm s.vm).me.stackBytes = s.me.stackBytes := X.bytes
  refine ⟨X.admits, X.cas, X.clock, hF, ?_, X.hears, X.method, X.code, X.here, X.tail, X.warmed, ?_, ?_, ?_⟩
  · have h := X.room
    have hU : ((T.setVm s.vm).setFrames (.invoking m args :: below)).localsInUse = s.localsInUse := by
      rw [State.localsInUse_invoking hF (meth := meth) (c := c) X.method X.code, State.localsInUse_invoking X.frames X.method X.code]
    simp only [State.hasRoom, Bool.and_eq_true, decide_eq_true_eq] at h ⊢
    obtain ⟨⟨⟨⟨h1, h2, h3, h4, h5, h6⟩, h7⟩, h8⟩, h9⟩ := h
    rw [X.frames, List.length_cons] at h2 h3
    have q1 := X.heapSize
    have q2 := X.used
    simp only [hF, hU, List.length_cons, State.stackLimits_setFrames, State.stackBytes_setFrames, hl9, hb9]
    refine ⟨⟨⟨⟨by omega, by omega, by omega, by omega, by omega, h6⟩, ?_⟩, ?_⟩, X.book⟩
    · show T.heap.size + R'.cells ≤ e.platform.maxCells
      omega
    · show T.slotsUsed + R'.slots ≤ e.platform.maxSlots
      omega
  · rw [State.stackLimits_setFrames]; rfl
  · rw [State.stackBytes_setFrames]; rfl
  · refine ⟨?_, Nat.le_refl _, Nat.le_refl _, ?_, ?_, fun a c9 h9 => ⟨c9, h9, rfl, rfl, fun _ _ => rfl⟩⟩
    · obtain ⟨t, ht, -⟩ := State.frames_cons hr
      show T.setVm s.vm = { ((T.setVm s.vm).setFrames (.invoking m args :: below)).setFrames (T.setVm s.vm).frames with heap := T.heap, slotsUsed := T.slotsUsed }
      rw [State.setFrames_setFrames, State.setFrames_self ht]
      rfl
    · show T.slotsUsed = T.slotsUsed + ((T.heap.toList.drop T.heap.size).map (·.slots.size)).sum
      rw [List.drop_eq_nil_of_le (Nat.le_of_eq Array.length_toList)]
      rfl
    · show ((T.heap.toList.drop T.heap.size).map (·.slots.size)).sum ≤ 0
      rw [List.drop_eq_nil_of_le (Nat.le_of_eq Array.length_toList)]
      exact Nat.le_refl _
/-- 'throw new E()': new; dup; invokespecial; athrow -/
theorem vx_throw0 {cc : ByteArray} {pc : Nat} (hexec : p.tables.exec = Jvm.exec) (hb : c.code = cc) (hl : l.stackTraces = false) {own cls : String} {names : List String} {ik ic mc ms : Nat} {A : Nat → Prop}
    (hown : s.vm.findClass own = some m.cls) (hcls : Bundle.fit cls = true) (hnames : ∀ n ∈ names, Bundle.fit n = true)
    (hk : (Cond.classLink own ik cls).before args s = true) (hini : (Cond.initialized cls).before args s = true) (hat : ∀ w ∈ vx_at0 own ic cls names, w.before args s = true)
    (hgood : ∀ w ∈ Cond.classLink own ik cls :: Cond.initialized cls :: vx_at0 own ic cls names, vx_ot w = true)
    (hU : vx_Zq Bundle.tN "UNASSIGNED_STACK" Bundle.steD A s s.heap) (hN : vx_Zq Bundle.tN "SUPPRESSED_SENTINEL" Bundle.listD A s s.heap) (hS : va_S A s.heap H locs) (hsize : ls.size = c.maxLocals)
    (d0 : decode cc pc = .ok (.new ik, 3)) (d3 : decode cc (pc + 3) = .ok (.dup, 1)) (d4 : decode cc (pc + 4) = .ok (.invokespecial ic, 3)) (d7 : decode cc (pc + 7) = .ok (.athrow, 1))
    (hout : ∀ x ∈ c.exceptionTable.toList, covers x (pc + 7) = false)
    (hRframes : names.length + 3 < R.frames) (hRlocals : (rest.map fun v => v.category).sum + (13 * (names.length + 1) + 42) ≤ R.locals) (hRcells : cells + 1 ≤ R.cells) (hRslots : slots + 6 ≤ R.slots) (hlocks : meth.locks = false)
    (hx : ∀ t : State, s.vm.Alike t.vm → H.size ≤ t.heap.size → (∀ q : Nat, q < H.size → t.heap[q]? = H[q]?) → XC cls s t)
    (hf : ∀ z ∈ locs, free z.base) (hc : cells + 1 ≤ mc) (hs : slots + 6 ≤ ms) :
    W p l e R s m args below meth c H locs cells slots (vx_MQ below Qc XC args s mc ms free) (F0 m pc ls rest) := by
  intro T hT X
  have htr : e.platform.stackTraces = false := (show e.platform.stackTraces = l.stackTraces by rw [X.admits.platform]).trans hl
  have Y := vx_rebase X (R' := { frames := R.frames, locals := R.locals, cells := 1, slots := 6 }) (Nat.le_refl _) (Nat.le_refl _) hRcells hRslots
  obtain ⟨s', hA⟩ : ∃ z, z = (T.setVm s.vm).setFrames (.invoking m args :: below) := ⟨_, rfl⟩
  rw [← hA] at Y
  have hvm : s'.vm = s.vm := by rw [hA]; rfl
  have hhp : s'.heap = H := by rw [hA]; exact hT
  have hW0 : s.WarmedH s'.vm := by rw [hvm]; exact State.WarmedH.refl s
  have hat' : ∀ w ∈ vx_at0 own ic cls names, w.before args s' = true := fun w hw => vx_ot_at hW0 hvm.symm (hgood w (List.mem_cons_of_mem _ (List.mem_cons_of_mem _ hw))) (hat w hw)
  have hk' : (Cond.classLink own ik cls).before args s' = true := vx_ot_at hW0 hvm.symm (hgood _ List.mem_cons_self) hk
  have hini' : (Cond.initialized cls).before args s' = true := vx_ot_at hW0 hvm.symm (hgood _ (List.mem_cons_of_mem _ List.mem_cons_self)) hini
  have hU' : vx_Zq Bundle.tN "UNASSIGNED_STACK" Bundle.steD A s' s'.heap := by rw [hhp]; exact vx_Zq.moved hW0.alike (hU.kept hS.2.1)
  have hN' : vx_Zq Bundle.tN "SUPPRESSED_SENTINEL" Bundle.listD A s' s'.heap := by rw [hhp]; exact vx_Zq.moved hW0.alike (hN.kept hS.2.1)
  have h : ∀ w ∈ Bundle.ownAtoms0 own ic cls names, w.before args s' = true := vx_own hat' (vx_isRefq hU'.1) (vx_isRefq hN'.1) hU'.2.word hN'.2.word
  have hown' : s'.vm.findClass own = some m.cls := by rw [hvm]; exact hown
  have hins : (Cond.instantiable cls 6).before args s' = true := h _ (by simp [Bundle.ownAtoms0])
  obtain ⟨vm₁, cX, kX, hfX, hkX, -, -, X₁, st1⟩ := Y.newCold hexec (own := own) (C := cls) (index := ik) (n := 6) hown' hk' hins hini'
    (g := F0 m pc ls rest) rfl (by rw [hb]; exact d0) (Nat.le_refl _) (Nat.le_refl _)
  generalize hT1 : (T.setVm vm₁).pushCell { cls := cX, slots := kX.instanceTypes.map defaultValue, vm := .none } = T1 at X₁ st1
  have hcat : (Value.ref T.heap.size).category = 1 := rfl
  have hcellA : T1.heap[T.heap.size]? = some (freshCell cX kX) := by rw [← hT1]; exact State.heap_pushCell_size _ _
  have d3' : decode c.code (pc + 3) = .ok (.dup, 1) := by rw [hb]; exact d3
  obtain ⟨U, hsteps, hrun, hend, hW, hsame, ce, hce, hO⟩ := X₁.ctorThrow0 hexec htr (own := own) (cls := cls) (names := names) (ic := ic) hown' hcls hnames h (fun x hx => nomatch hx) hfX hkX hcellA (by rw [hhp, hT]; exact Nat.le_refl _)
    (g := { method := m, pc := pc + 4, locals := ls, stack := .ref T.heap.size :: .ref T.heap.size :: rest, locked := none }) rfl hsize rfl rfl (rest := rest) rfl
    (by rw [hb]; exact d4) (by rw [hb]; exact d7) hout hRframes (by simp only [List.map_cons, List.sum_cons, hcat]; omega) hlocks
  obtain ⟨f1, f2⟩ := vx_frame hsame
  rw [hhp] at f1 f2
  have hWs : s.WarmedH U.vm := State.WarmedH.trans hW0 hW
  have hcl : s.vm.findClass cls = some ce.cls := by
    have h9 := hO.cls
    rw [hvm] at h9
    exact h9
  have hall : s.sameButNew ({ U with vm := s.vm } : State) locs mc ms := by
    subst hA
    obtain ⟨e1, e2⟩ := hsame
    rw [State.setFrames_setFrames] at e1
    have h2 : (T.setVm s.vm).sameButNew ({ U with vm := s.vm } : State) [] (0 + 1) (0 + 6) := ⟨e1, e2⟩
    have h3 := X.same.trans h2
    rw [List.append_nil] at h3
    exact h3.mono hc hs
  refine ⟨U, ?_, .threw T.heap.size, hrun, hend, Or.inr ⟨T.heap.size, rfl, cls, ce, locs, hx U hWs.alike f1 (fun q hq => f2 q hq (fun z hz => nomatch hz)), hce, hO.vm, hcl, hWs, hall, hf⟩⟩
  refine st1 _ ?_
  show Steps p.tables e below (T1.setTop { method := m, pc := pc + 3, locals := ls, stack := .ref T.heap.size :: rest, locked := none }) _
  jvm_step X₁.here [X₁.here.top, hexec, d3', Value.category]
  exact hsteps
/-- 'throw new E("text")': new; dup; ldc; invokespecial; athrow -/
theorem vx_throwS {cc : ByteArray} {pc : Nat} (hexec : p.tables.exec = Jvm.exec) (hb : c.code = cc) (hl : l.stackTraces = false) {own cls text : String} {names : List String} {ik is ic mc ms sa : Nat} {A : Nat → Prop}
    (hown : s.vm.findClass own = some m.cls) (hcls : Bundle.fit cls = true) (hnames : ∀ n ∈ names, Bundle.fit n = true)
    (hk : (Cond.classLink own ik cls).before args s = true) (hini : (Cond.initialized cls).before args s = true) (hstr : vk_R own is text sa s) (hat : ∀ w ∈ vx_atS own ic cls names, w.before args s = true)
    (hgood : ∀ w ∈ Cond.classLink own ik cls :: Cond.initialized cls :: vx_atS own ic cls names, vx_ot w = true)
    (hU : vx_Zq Bundle.tN "UNASSIGNED_STACK" Bundle.steD A s s.heap) (hN : vx_Zq Bundle.tN "SUPPRESSED_SENTINEL" Bundle.listD A s s.heap) (hS : va_S A s.heap H locs) (hsize : ls.size = c.maxLocals)
    (d0 : decode cc pc = .ok (.new ik, 3)) (d3 : decode cc (pc + 3) = .ok (.dup, 1)) (d4 : decode cc (pc + 4) = .ok (.ldc is, 2)) (d6 : decode cc (pc + 6) = .ok (.invokespecial ic, 3)) (d9 : decode cc (pc + 9) = .ok (.athrow, 1))
    (hout : ∀ x ∈ c.exceptionTable.toList, covers x (pc + 9) = false)
    (hRframes : names.length + 3 < R.frames) (hRlocals : (rest.map fun v => v.category).sum + (13 * (names.length + 1) + 43) ≤ R.locals) (hRcells : cells + 1 ≤ R.cells) (hRslots : slots + 6 ≤ R.slots) (hlocks : meth.locks = false)
    (hx : ∀ t : State, s.vm.Alike t.vm → H.size ≤ t.heap.size → (∀ q : Nat, q < H.size → t.heap[q]? = H[q]?) → XC cls s t)
    (hf : ∀ z ∈ locs, free z.base) (hc : cells + 1 ≤ mc) (hs : slots + 6 ≤ ms) :
    W p l e R s m args below meth c H locs cells slots (vx_MQ below Qc XC args s mc ms free) (F0 m pc ls rest) := by
  intro T hT X
  have htr : e.platform.stackTraces = false := (show e.platform.stackTraces = l.stackTraces by rw [X.admits.platform]).trans hl
  have Y := vx_rebase X (R' := { frames := R.frames, locals := R.locals, cells := 1, slots := 6 }) (Nat.le_refl _) (Nat.le_refl _) hRcells hRslots
  obtain ⟨s', hA⟩ : ∃ z, z = (T.setVm s.vm).setFrames (.invoking m args :: below) := ⟨_, rfl⟩
  rw [← hA] at Y
  have hvm : s'.vm = s.vm := by rw [hA]; rfl
  have hhp : s'.heap = H := by rw [hA]; exact hT
  have hW0 : s.WarmedH s'.vm := by rw [hvm]; exact State.WarmedH.refl s
  have hat' : ∀ w ∈ vx_atS own ic cls names, w.before args s' = true := fun w hw => vx_ot_at hW0 hvm.symm (hgood w (List.mem_cons_of_mem _ (List.mem_cons_of_mem _ hw))) (hat w hw)
  have hk' : (Cond.classLink own ik cls).before args s' = true := vx_ot_at hW0 hvm.symm (hgood _ List.mem_cons_self) hk
  have hini' : (Cond.initialized cls).before args s' = true := vx_ot_at hW0 hvm.symm (hgood _ (List.mem_cons_of_mem _ List.mem_cons_self)) hini
  have hU' : vx_Zq Bundle.tN "UNASSIGNED_STACK" Bundle.steD A s' s'.heap := by rw [hhp]; exact vx_Zq.moved hW0.alike (hU.kept hS.2.1)
  have hN' : vx_Zq Bundle.tN "SUPPRESSED_SENTINEL" Bundle.listD A s' s'.heap := by rw [hhp]; exact vx_Zq.moved hW0.alike (hN.kept hS.2.1)
  have h : ∀ w ∈ Bundle.ownAtoms own ic cls names, w.before args s' = true := vx_own hat' (vx_isRefq hU'.1) (vx_isRefq hN'.1) hU'.2.word hN'.2.word
  have hown' : s'.vm.findClass own = some m.cls := by rw [hvm]; exact hown
  have hins : (Cond.instantiable cls 6).before args s' = true := h _ (by simp [Bundle.ownAtoms])
  obtain ⟨vm₁, cX, kX, hfX, hkX, -, -, X₁, st1⟩ := Y.newCold hexec (own := own) (C := cls) (index := ik) (n := 6) hown' hk' hins hini'
    (g := F0 m pc ls rest) rfl (by rw [hb]; exact d0) (Nat.le_refl _) (Nat.le_refl _)
  generalize hT1 : (T.setVm vm₁).pushCell { cls := cX, slots := kX.instanceTypes.map defaultValue, vm := .none } = T1 at X₁ st1
  have hcat : (Value.ref T.heap.size).category = 1 := rfl
  have hcellA : T1.heap[T.heap.size]? = some (freshCell cX kX) := by rw [← hT1]; exact State.heap_pushCell_size _ _
  have d3' : decode c.code (pc + 3) = .ok (.dup, 1) := by rw [hb]; exact d3
  have d4' : decode c.code (pc + 4) = .ok (.ldc is, 2) := by rw [hb]; exact d4
  have hstr' : vk_R own is text sa s' := vk_R.warm hW0 hstr
  obtain ⟨U, hsteps, hrun, hend, hW, hsame, ce, hce, hO⟩ := X₁.ctorThrowS hexec htr (own := own) (cls := cls) (names := names) (ic := ic) hown' hcls hnames h (fun x hx => nomatch hx) hfX hkX hcellA (by rw [hhp, hT]; exact Nat.le_refl _) (msg := .ref sa) rfl
    (g := { method := m, pc := pc + 6, locals := ls, stack := .ref sa :: .ref T.heap.size :: .ref T.heap.size :: rest, locked := none }) rfl hsize rfl rfl (rest := rest) rfl
    (by rw [hb]; exact d6) (by rw [hb]; exact d9) hout hRframes (by simp only [List.map_cons, List.sum_cons, hcat]; omega) hlocks
  obtain ⟨f1, f2⟩ := vx_frame hsame
  rw [hhp] at f1 f2
  have hWs : s.WarmedH U.vm := State.WarmedH.trans hW0 hW
  have hcl : s.vm.findClass cls = some ce.cls := by
    have h9 := hO.cls
    rw [hvm] at h9
    exact h9
  have hall : s.sameButNew ({ U with vm := s.vm } : State) locs mc ms := by
    subst hA
    obtain ⟨e1, e2⟩ := hsame
    rw [State.setFrames_setFrames] at e1
    have h2 : (T.setVm s.vm).sameButNew ({ U with vm := s.vm } : State) [] (0 + 1) (0 + 6) := ⟨e1, e2⟩
    have h3 := X.same.trans h2
    rw [List.append_nil] at h3
    exact h3.mono hc hs
  refine ⟨U, ?_, .threw T.heap.size, hrun, hend, Or.inr ⟨T.heap.size, rfl, cls, ce, locs, hx U hWs.alike f1 (fun q hq => f2 q hq (fun z hz => nomatch hz)), hce, hO.vm, hcl, hWs, hall, hf⟩⟩
  refine st1 _ ?_
  show Steps p.tables e below (T1.setTop { method := m, pc := pc + 3, locals := ls, stack := .ref T.heap.size :: rest, locked := none }) _
  jvm_step X₁.here [X₁.here.top, hexec, d3', Value.category]
  exact X₁.ldcString hexec (own := own) (text := text) (index := is) (a := sa) hown' hstr'.1 hstr'.2
    (g := { method := m, pc := pc + 4, locals := ls, stack := .ref T.heap.size :: .ref T.heap.size :: rest, locked := none }) rfl d4' _ hsteps
/-- 'throw new E("text")', the text by a wide index -/
theorem vx_throwSW {cc : ByteArray} {pc : Nat} (hexec : p.tables.exec = Jvm.exec) (hb : c.code = cc) (hl : l.stackTraces = false) {own cls text : String} {names : List String} {ik is ic mc ms sa : Nat} {A : Nat → Prop}
    (hown : s.vm.findClass own = some m.cls) (hcls : Bundle.fit cls = true) (hnames : ∀ n ∈ names, Bundle.fit n = true)
    (hk : (Cond.classLink own ik cls).before args s = true) (hini : (Cond.initialized cls).before args s = true) (hstr : vk_R own is text sa s) (hat : ∀ w ∈ vx_atS own ic cls names, w.before args s = true)
    (hgood : ∀ w ∈ Cond.classLink own ik cls :: Cond.initialized cls :: vx_atS own ic cls names, vx_ot w = true)
    (hU : vx_Zq Bundle.tN "UNASSIGNED_STACK" Bundle.steD A s s.heap) (hN : vx_Zq Bundle.tN "SUPPRESSED_SENTINEL" Bundle.listD A s s.heap) (hS : va_S A s.heap H locs) (hsize : ls.size = c.maxLocals)
    (d0 : decode cc pc = .ok (.new ik, 3)) (d3 : decode cc (pc + 3) = .ok (.dup, 1)) (d4 : decode cc (pc + 4) = .ok (.ldc_w is, 3)) (d7 : decode cc (pc + 7) = .ok (.invokespecial ic, 3)) (d10 : decode cc (pc + 10) = .ok (.athrow, 1))
    (hout : ∀ x ∈ c.exceptionTable.toList, covers x (pc + 10) = false)
    (hRframes : names.length + 3 < R.frames) (hRlocals : (rest.map fun v => v.category).sum + (13 * (names.length + 1) + 43) ≤ R.locals) (hRcells : cells + 1 ≤ R.cells) (hRslots : slots + 6 ≤ R.slots) (hlocks : meth.locks = false)
    (hx : ∀ t : State, s.vm.Alike t.vm → H.size ≤ t.heap.size → (∀ q : Nat, q < H.size → t.heap[q]? = H[q]?) → XC cls s t)
    (hf : ∀ z ∈ locs, free z.base) (hc : cells + 1 ≤ mc) (hs : slots + 6 ≤ ms) :
    W p l e R s m args below meth c H locs cells slots (vx_MQ below Qc XC args s mc ms free) (F0 m pc ls rest) := by
  intro T hT X
  have htr : e.platform.stackTraces = false := (show e.platform.stackTraces = l.stackTraces by rw [X.admits.platform]).trans hl
  have Y := vx_rebase X (R' := { frames := R.frames, locals := R.locals, cells := 1, slots := 6 }) (Nat.le_refl _) (Nat.le_refl _) hRcells hRslots
  obtain ⟨s', hA⟩ : ∃ z, z = (T.setVm s.vm).setFrames (.invoking m args :: below) := ⟨_, rfl⟩
  rw [← hA] at Y
  have hvm : s'.vm = s.vm := by rw [hA]; rfl
  have hhp : s'.heap = H := by rw [hA]; exact hT
  have hW0 : s.WarmedH s'.vm := by rw [hvm]; exact State.WarmedH.refl s
  have hat' : ∀ w ∈ vx_atS own ic cls names, w.before args s' = true := fun w hw => vx_ot_at hW0 hvm.symm (hgood w (List.mem_cons_of_mem _ (List.mem_cons_of_mem _ hw))) (hat w hw)
  have hk' : (Cond.classLink own ik cls).before args s' = true := vx_ot_at hW0 hvm.symm (hgood _ List.mem_cons_self) hk
  have hini' : (Cond.initialized cls).before args s' = true := vx_ot_at hW0 hvm.symm (hgood _ (List.mem_cons_of_mem _ List.mem_cons_self)) hini
  have hU' : vx_Zq Bundle.tN "UNASSIGNED_STACK" Bundle.steD A s' s'.heap := by rw [hhp]; exact vx_Zq.moved hW0.alike (hU.kept hS.2.1)
  have hN' : vx_Zq Bundle.tN "SUPPRESSED_SENTINEL" Bundle.listD A s' s'.heap := by rw [hhp]; exact vx_Zq.moved hW0.alike (hN.kept hS.2.1)
  have h : ∀ w ∈ Bundle.ownAtoms own ic cls names, w.before args s' = true := vx_own hat' (vx_isRefq hU'.1) (vx_isRefq hN'.1) hU'.2.word hN'.2.word
  have hown' : s'.vm.findClass own = some m.cls := by rw [hvm]; exact hown
  have hins : (Cond.instantiable cls 6).before args s' = true := h _ (by simp [Bundle.ownAtoms])
  obtain ⟨vm₁, cX, kX, hfX, hkX, -, -, X₁, st1⟩ := Y.newCold hexec (own := own) (C := cls) (index := ik) (n := 6) hown' hk' hins hini'
    (g := F0 m pc ls rest) rfl (by rw [hb]; exact d0) (Nat.le_refl _) (Nat.le_refl _)
  generalize hT1 : (T.setVm vm₁).pushCell { cls := cX, slots := kX.instanceTypes.map defaultValue, vm := .none } = T1 at X₁ st1
  have hcat : (Value.ref T.heap.size).category = 1 := rfl
  have hcellA : T1.heap[T.heap.size]? = some (freshCell cX kX) := by rw [← hT1]; exact State.heap_pushCell_size _ _
  have d3' : decode c.code (pc + 3) = .ok (.dup, 1) := by rw [hb]; exact d3
  have d4' : decode c.code (pc + 4) = .ok (.ldc_w is, 3) := by rw [hb]; exact d4
  have hstr' : vk_R own is text sa s' := vk_R.warm hW0 hstr
  obtain ⟨U, hsteps, hrun, hend, hW, hsame, ce, hce, hO⟩ := X₁.ctorThrowS hexec htr (own := own) (cls := cls) (names := names) (ic := ic) hown' hcls hnames h (fun x hx => nomatch hx) hfX hkX hcellA (by rw [hhp, hT]; exact Nat.le_refl _) (msg := .ref sa) rfl
    (g := { method := m, pc := pc + 7, locals := ls, stack := .ref sa :: .ref T.heap.size :: .ref T.heap.size :: rest, locked := none }) rfl hsize rfl rfl (rest := rest) rfl
    (by rw [hb]; exact d7) (by rw [hb]; exact d10) hout hRframes (by simp only [List.map_cons, List.sum_cons, hcat]; omega) hlocks
  obtain ⟨f1, f2⟩ := vx_frame hsame
  rw [hhp] at f1 f2
  have hWs : s.WarmedH U.vm := State.WarmedH.trans hW0 hW
  have hcl : s.vm.findClass cls = some ce.cls := by
    have h9 := hO.cls
    rw [hvm] at h9
    exact h9
  have hall : s.sameButNew ({ U with vm := s.vm } : State) locs mc ms := by
    subst hA
    obtain ⟨e1, e2⟩ := hsame
    rw [State.setFrames_setFrames] at e1
    have h2 : (T.setVm s.vm).sameButNew ({ U with vm := s.vm } : State) [] (0 + 1) (0 + 6) := ⟨e1, e2⟩
    have h3 := X.same.trans h2
    rw [List.append_nil] at h3
    exact h3.mono hc hs
  refine ⟨U, ?_, .threw T.heap.size, hrun, hend, Or.inr ⟨T.heap.size, rfl, cls, ce, locs, hx U hWs.alike f1 (fun q hq => f2 q hq (fun z hz => nomatch hz)), hce, hO.vm, hcl, hWs, hall, hf⟩⟩
  refine st1 _ ?_
  show Steps p.tables e below (T1.setTop { method := m, pc := pc + 3, locals := ls, stack := .ref T.heap.size :: rest, locked := none }) _
  jvm_step X₁.here [X₁.here.top, hexec, d3', Value.category]
  exact X₁.ldcStringW hexec (own := own) (text := text) (index := is) (a := sa) hown' hstr'.1 hstr'.2
    (g := { method := m, pc := pc + 4, locals := ls, stack := .ref T.heap.size :: .ref T.heap.size :: rest, locked := none }) rfl d4' _ hsteps
end Ends
section Bodies
variable {l : Launch}
theorem vx_ofW {y : MethodName} {ws ws' : List Cond} {rm : Room} {Pc : Array Value → State → Prop} {Qc : Array Value → State → Outcome → State → Prop} {XC : String → State → State → Prop} {mc ms : Nat} {free : Addr → Prop} {cc : ByteArray} {maxL : Nat} {ret : Option FieldType}
    (hy : plainName y.cls = true) (hw : ws = Cond.code y cc maxL ret :: ws')
    (body : ∀ p e s m args below meth c s₁, BodyLoose p l y (headSpec ws rm) cc maxL ret e s m args below meth c s₁ → c.maxLocals = maxL → (∀ x ∈ c.exceptionTable.toList, False) → Pc args s →
      W p l e (headSpec ws rm).room s m args below meth c s.heap [] 0 0 (vx_MQ below Qc XC args s mc ms free) (entryFrame m args maxL)) : vx_Met l y ws rm Pc Qc XC mc ms free := by
  refine MetFree.of_bodyS (code := cc) (maxLocals := maxL) (ret := ret) hy ?_ ?_
  · intro args s m h hn
    obtain ⟨meth, c, h1, h2, h3, h4, h5, h6, -, -⟩ := Cond.code_spec hn (atoms_spec (ws := ws) h _ (by rw [hw]; exact List.mem_cons_self))
    exact ⟨meth, c, h1, h2, h3, h4, h5, h6⟩
  · intro p e s m args below meth c s₁ B hml hP _
    have hh0 : s₁.heap = s.heap := by rw [B.state]; rfl
    have ht : ∀ x ∈ c.exceptionTable.toList, False := by
      obtain ⟨meth9, c9, h1, h2, -, -, -, -, h7, -⟩ := Cond.code_spec B.named (atoms_spec (ws := ws) B.pre _ (by rw [hw]; exact List.mem_cons_self))
      cases Option.some.inj (h1.symm.trans B.method)
      cases Option.some.inj (h2.symm.trans (Stand.of_body B).code)
      intro x hx
      rw [Array.isEmpty_iff.mp h7] at hx
      cases hx
    obtain ⟨t, a1, o, b1, b2, b3⟩ := body p e s m args below meth c s₁ B hml ht hP s₁ hh0 (Stand.of_body B)
    exact ⟨t, o, a1, b1, b2, b3⟩
/-- the table of a body with handlers -/
theorem vx_table {p : Program} {x y : MethodName} {S : Spec} {cc bytes : ByteArray} {maxL maxL' : Nat} {ret ret' : Option FieldType} {e : Env} {s s₁ : State} {m : MethodId} {args : Array Value} {below : List Frame} {meth : Method} {c : Code} {hh : List (Nat × Nat × Nat × Nat)}
    (B : BodyLoose p l y S cc maxL ret e s m args below meth c s₁) (h : (Cond.codeWith y bytes maxL' ret' hh).before args s = true) : c.exceptionTable.toList = tableOf hh := by
  obtain ⟨m9, meth9, c9, hn9, h1, h2, -, -, h6, -⟩ := Cond.codeWith_spec h
  cases Option.some.inj (hn9.symm.trans B.named)
  cases Option.some.inj (h1.symm.trans B.method)
  cases Option.some.inj (h2.symm.trans (Stand.of_body B).code)
  rw [← h6, table_eq]
end Bodies
end VXA
/-! ===== END ===== -/
/-! ===== BEGIN a static call of a method with an exception table ===== -/
section VXS
variable {p : Program} {l : Launch} {e : Env} {R : Room} {s : State} {m : MethodId} {args : Array Value} {below : List Frame} {meth : Method} {c : Code} {T : State} {H : Heap} {locs : List Loc} {cells slots : Nat}
abbrev vx_CSW (R : Room) (s : State) (args : Array Value) (own : String) (index : Nat) (y : MethodName) (bytes : ByteArray) (maxL : Nat) (ret : Option FieldType) (hh : List (Nat × Nat × Nat × Nat)) (ws : List Cond) (rm : Room) (mc ms n : Nat) : Prop :=
  (rm.cells = mc ∧ rm.slots = ms ∧ rm.frames + 1 ≤ R.frames ∧ 8 + (maxL + 11) + rm.locals ≤ R.locals ∧ (∀ w ∈ ws, ∀ (a' : Array Value) (U : State), s.WarmedH U.vm → w.before a' U = true) ∧ Cond.codeWith y bytes maxL ret hh ∈ ws) ∧
  (Cond.codeWith y bytes maxL ret hh).before args s = true ∧ (Cond.initialized y.cls).before args s = true ∧ (y.cls ≠ "java/lang/invoke/MethodHandle" ∧ y.cls ≠ "java/lang/invoke/VarHandle") ∧
  (∀ sig, parseMethodDescriptor y.desc = some sig → n = sig.parameters.length) ∧ (Cond.methodLink own index y).before args s = true ∧ (Cond.static y).before args s = true
theorem vx_cwSW {own : String} {index maxL mc ms : Nat} {y : MethodName} {bytes : ByteArray} {ret : Option FieldType} {hh : List (Nat × Nat × Nat × Nat)} {Ts ws ws' : List Cond} {rm : Room} (n : Nat) (ht : ∀ w ∈ Ts, w.before args s = true) (hT : GoodIn Ts (va_wsS own index y ws)) (hw : ws = Cond.codeWith y bytes maxL ret hh :: ws') (hrc : rm.cells = mc) (hrs : rm.slots = ms)
    (hd : y.cls ≠ "java/lang/invoke/MethodHandle" ∧ y.cls ≠ "java/lang/invoke/VarHandle" ∧ (parseMethodDescriptor y.desc).map (fun d => d.parameters.length) = some n) (hR : rm.frames + 1 ≤ R.frames ∧ 8 + (maxL + 11) + rm.locals ≤ R.locals) :
    vx_CSW R s args own index y bytes maxL ret hh ws rm mc ms n := by
  have ok : ∀ w ∈ va_wsS own index y ws, w.before args s = true := fun w h => ht w (hT w h).1
  have hG : GoodIn Ts ws := fun w h => hT w (by unfold va_wsS; exact List.mem_append_right _ h)
  have hc : Cond.codeWith y bytes maxL ret hh ∈ ws := by rw [hw]; exact List.mem_cons_self
  refine ⟨⟨hrc, hrs, hR.1, hR.2, pay_in ht hG, hc⟩, ht _ (hG _ hc).1, ok _ (by simp [va_wsS]), ⟨hd.1, hd.2.1⟩, fun sig h => ?_, ok _ (by simp [va_wsS]), ok _ (by simp [va_wsS])⟩
  have h2 := hd.2.2
  rw [h] at h2
  exact (Option.some.inj h2).symm
theorem vx_callSW (X : Stand p l e R s m args below meth c T locs cells slots) (hexec : p.tables.exec = Jvm.exec) {own : String} {index : Nat} {y : MethodName} {bytes : ByteArray} {maxL : Nat} {ret : Option FieldType} {hh : List (Nat × Nat × Nat × Nat)}
    (hown : s.vm.findClass own = some m.cls) (hlink : (Cond.methodLink own index y).before args s = true) (hstat : (Cond.static y).before args s = true) (hinit : (Cond.initialized y.cls).before args s = true)
    (hcode : (Cond.codeWith y bytes maxL ret hh).before args s = true) (hy : y.cls ≠ "java/lang/invoke/MethodHandle" ∧ y.cls ≠ "java/lang/invoke/VarHandle")
    {W9 : Nat} {Pre : Pt → Array Value → Prop} {Post : Pt → Array Value → Option Value → Pt → Prop} (hK : Back l R p e below s args y 3 W9 Pre Post)
    {g : JFrame} (hg : g.method = m) (hsize : g.locals.size = c.maxLocals) {argsL rest : List Value} (hlen : ∀ sig, parseMethodDescriptor y.desc = some sig → argsL.length = sig.parameters.length)
    (hstack : g.stack = argsL.reverse ++ rest) (hW : 2 * g.monitorRoom + (rest.map fun v => v.category).sum ≤ W9) (hdg : decode c.code g.pc = .ok (.invokestatic index, 3))
    (hpre : ∀ vm₁, s.WarmedH vm₁ → Pre ⟨T.setVm vm₁, locs, cells, slots⟩ argsL.toArray) :
    ∃ (v : Option Value) (vm₁ : Vm) (B : Pt), s.WarmedH vm₁ ∧ Stand p l e R s m args below meth c B.U B.locs B.cells B.slots ∧ Post ⟨T.setVm vm₁, locs, cells, slots⟩ argsL.toArray v B ∧
      ∀ target, Steps p.tables e below (B.U.setTop { g with pc := g.pc + 3, stack := v.toList ++ rest }) target → Steps p.tables e below (T.setTop g) target := by
  obtain ⟨mk, methM, cM, hnamed, hmethM, -, -, -, -, -, -, hsigM⟩ := Cond.codeWith_spec hcode
  have hstatic : methM.isStatic = true := Cond.static_spec hnamed hmethM hstat
  obtain ⟨kP, hkP, -⟩ := className_of_methodNamed hnamed
  have hinitP : kP.init = .initialized := Cond.initialized_spec (findClass_of_methodNamed hnamed) hkP hinit
  obtain ⟨vm₁, X₁, hstep₁⟩ := X.invokestatic hexec hown hlink hnamed hmethM hstatic hkP hinitP hy (g := g) hg (argsL := argsL) (rest := rest) (hlen _ hsigM) hstack hdg
  obtain ⟨v, B, X', hpost, hsteps⟩ := hK m meth c ⟨T.setVm vm₁, locs, cells, slots⟩ { g with stack := rest } (.invokestatic index) mk argsL.toArray X₁ hg hsize hdg hW (X₁.named hnamed) (hpre vm₁ X₁.warmed)
  exact ⟨v, vm₁, B, X₁.warmed, X', hpost, fun target h => hstep₁ _ fun acts => by rw [doInvoke_state]; exact hsteps.trans h⟩
theorem vx_runSW {y : MethodName} {bytes cc : ByteArray} {maxL nL mc ms n index : Nat} {ret : Option FieldType} {hh : List (Nat × Nat × Nat × Nat)} {ws : List Cond} {rm : Room} {Pc : Array Value → State → Prop} {Qc : Array Value → State → Outcome → State → Prop} {free : Addr → Prop} {Ts : List Cond} {own : String} {As rest : List Value} {g : JFrame}
    (S : CallFix p m c cc nL s args Ts own) (hM : Met l y ws rm Pc Qc mc ms free) (cw : vx_CSW R s args own index y bytes maxL ret hh ws rm mc ms n) (hp : PreS s H Pc As)
    (hg : g.method = m) (hn : As.length = n) (hsize : g.locals.size = nL) (hstack : g.stack = As.reverse ++ rest) (hW : 2 * g.monitorRoom + (rest.map fun v => v.category).sum ≤ 8) (hdg : decode cc g.pc = .ok (.invokestatic index, 3)) (hf : cells + mc ≤ R.cells ∧ slots + ms ≤ R.slots) :
    va_Run p l e R s m args below meth c H locs cells slots mc ms g rest (Qc As.toArray) (free) := by
  obtain ⟨⟨hrc, hrs, hfr, hlo, hws, hcw⟩, hcode, hini, hy, hlen, hl, hstt⟩ := cw
  have hK : Back l R p e below s args y 3 8 (PreOf R mc ms Pc) (PostOf Qc mc ms free) := va_backW (hh := hh) (bytes := bytes) (maxL := maxL) (ret := ret) hM hp.1 hrc hrs hfr hlo hws hcw (fun a' U hW => word_at hW (Or.inl (by first | rfl | simp [Cond.onTables, Cond.keeps, Cond.steady])) hini)
  obtain ⟨hx, hb, hml, ho, -⟩ := S
  intro T hT X
  obtain ⟨v, vm₁, ⟨U', l2, c2, s2⟩, hW₁, X', ⟨g', mk, t, L, e1, e2, hq, h1, hL, h2, h3⟩, st⟩ := vx_callSW X hx (hh := hh) (bytes := bytes) (maxL := maxL) (ret := ret) ho hl hstt hini hcode hy hK hg (hsize.trans hml.symm) (argsL := As) (rest := rest) (fun sig h => hn.trans (hlen sig h)) hstack hW (by rw [hb]; exact hdg)
    (fun vm₁ hW₁ => ⟨hf.1, hf.2, hp.2 (T.setVm vm₁) hT hW₁⟩)
  dsimp only [Pt.U, Pt.locs, Pt.cells, Pt.slots] at X' e1 e2 h1 h2 h3 st
  subst h1; subst h2; subst h3
  exact ⟨v, (T.setVm vm₁).calling g' mk As.toArray, t, U', L, hT, X', hL, e1, e2, hq, st⟩
/-- not caught here, past rows that name other classes: it goes on to the caller -/
theorem vx_outP {p : Program} {l : Launch} {e : Env} {R : Room} {s : State} {m : MethodId} {args : Array Value} {below : List Frame} {meth : Method} {c : Code} {H : Heap} {locs : List Loc} {cells slots : Nat} {free : Addr → Prop} {ls : Array Slot} {rest : List Value} {Qc : Array Value → State → Outcome → State → Prop} {XC : String → State → State → Prop}
    {pc : Nat} {own E : String} {ce : Cell} {q : Addr} {mc ms : Nat} (hown : s.vm.findClass own = some m.cls) (hlocks : meth.locks = false)
    (hpass : ∀ z ∈ c.exceptionTable.toList, covers z pc = false ∨ (z.catchType ≠ 0 ∧ ∃ nm : String, (Cond.classLink own z.catchType nm).before args s = true ∧ va_Nc E nm s)) (hcell : H[q]? = some ce) (hv : ce.vm = .none) (hcl : s.vm.findClass E = some ce.cls)
    (hx : ∀ t : State, t.heap = H → s.vm.Alike t.vm → XC E s t) (hf : ∀ z ∈ locs, free z.base) (hc : cells ≤ mc) (hs : slots ≤ ms) :
    vx_W p l e R s m args below meth c H locs cells slots (vx_MQ below Qc XC args s mc ms free) (F0 m pc ls rest) q := by
  intro T hT X
  have hpl : e.platform.magicAccessors = ({} : Platform).magicAccessors := by rw [X.admits.platform]
  obtain ⟨vm', hW', X', st⟩ := X.outThrough hlocks q (g := F0 m pc ls rest) rfl rfl rfl (cell := ce) (by rw [hT]; exact hcell) (by rw [hv]; rfl)
    (by obtain ⟨k9, h9, -⟩ := Vm.findClass_spec hcl; exact ⟨k9, h9⟩) (fun z hz => by
      rcases hpass z hz with h | ⟨hz0, nm, hl1, hn1⟩
      · exact Or.inl h
      · obtain ⟨c6, hc6, hcl6⟩ := Cond.classLink_spec hown hl1 e.platform hpl
        obtain ⟨a8, b8, h1, h2, h3⟩ := hn1
        cases Option.some.inj (h1.symm.trans hcl)
        cases Option.some.inj (h2.symm.trans hc6)
        exact Or.inr ⟨hz0, _, hcl6, h3⟩)
  obtain ⟨g₀, hfr⟩ := X'.frames_eq
  have hcell9 : ((T.setVm vm').setFrames (.throwing q :: below)).heap[q]? = some ce := by
    show T.heap[q]? = some ce
    rw [hT]; exact hcell
  have hend : Ended ((T.setVm vm').setFrames (.throwing q :: below)) below (.threw q) := State.frames_setFrames _ (State.cur_lt_of_frames hfr)
  refine ⟨(T.setVm vm').setFrames (.throwing q :: below), ?_, .threw q, X'.here.running, hend, Or.inr ⟨q, rfl, E, ce, locs, hx _ hT (X'.ends _).1.alike, hcell9, hv, hcl, (X'.ends _).1, (X'.ends _).2.mono hc hs, hf⟩⟩
  rw [X.pushThrowing_eq]
  exact st
/-- a thing of a world lies in the heap -/
theorem vx_lt {D : va_G} {cl : List vw_C} {ws : va_W} {H1 : Heap} (h : va_P D cl ws H1) {k : Nat} {q : Nat × va_E} (hk : ws[k]? = some q) : q.1 < H1.size := (h k q hk).lt
end VXS
/-! ===== END ===== -/
/-! ===== BEGIN methods with a table of their own: called by a name, returning or throwing ===== -/
section VXH
/-! vx_backW, vx_callVX, vx_callSX, vx_callVW, vx_runVW, vx_runVX, vx_runSX, vx_ofWH follow the same proofs as their sisters above (Free/Laws.lean, Shelf42/LK1.lean); vx_outP calls Shelf42/NT130.lean (outThrough). -/
section
variable {l : Launch} {R : Room} {p : Program} {e : Env} {below : List Frame} {s : State} {sargs : Array Value} {y : MethodName} {len W9 : Nat}
theorem vx_backW {ws : List Cond} {rm : Room} {Pc : Array Value → State → Prop} {Qc : Array Value → State → Outcome → State → Prop} {XC : String → State → State → Prop} {mc ms : Nat} {free : Addr → Prop} {bytes : ByteArray} {maxL : Nat} {ret : Option FieldType} {hh : List (Nat × Nat × Nat × Nat)}
    (hM : vx_Met l y ws rm Pc Qc XC mc ms free) (hblind : FrameBlind Pc) (hrc : rm.cells = mc) (hrs : rm.slots = ms)
    (hframes : rm.frames + 1 ≤ R.frames) (hlocals : W9 + (maxL + 11) + rm.locals ≤ R.locals)
    (hws : ∀ w ∈ ws, ∀ a' U, s.WarmedH U.vm → w.before a' U = true) (hcode : Cond.codeWith y bytes maxL ret hh ∈ ws) (hinit : ∀ a' U, s.WarmedH U.vm → (Cond.initialized y.cls).before a' U = true) :
    vx_Back l R p e below s sargs y len W9 (PreOf R mc ms Pc) (PostOf Qc mc ms free) (vx_Post XC mc ms free) := by
  intro m meth c A g ig mk a X hg hsize hdg hW hn hp
  have h1 : (headSpec ws rm).pre.before a A.U = true := atoms_intro fun w hw => hws w hw _ _ X.warmed
  have h2 : (Cond.codeWith y bytes maxL ret hh).before a A.U = true := hws _ hcode _ _ X.warmed
  have h3 : (Cond.initialized y.cls).before a A.U = true := hinit _ _ X.warmed
  have h4 : A.cells + (headSpec ws rm).room.cells ≤ R.cells := by rw [show (headSpec ws rm).room.cells = mc from hrc]; exact hp.1
  have h5 : A.slots + (headSpec ws rm).room.slots ≤ R.slots := by rw [show (headSpec ws rm).room.slots = ms from hrs]; exact hp.2.1
  have hPc : Pc a (A.U.calling g mk a) := hblind _ _ _ _ hp.2.2
  obtain ⟨U, Ls, c0, s0⟩ := A
  dsimp only [Pt.U, Pt.locs, Pt.cells, Pt.slots] at h1 h2 h3 h4 h5 X hn hPc ⊢
  obtain ⟨m9, methY, cY, hn9, hmY, hcY, -, hlY, -⟩ := Cond.codeWith_spec h2
  cases Option.some.inj (hn9.symm.trans hn)
  obtain ⟨kY, hkY, -⟩ := className_of_methodNamed hn
  have hinitY : kY.init = .initialized := Cond.initialized_spec (findClass_of_methodNamed hn) hkY h3
  have h : At U g.method c below := by rw [hg]; exact X.here
  have hlocals9 : W9 + (maxL + 11) + (headSpec ws rm).room.locals ≤ R.locals := hlocals
  have happ : (headSpec ws rm).appliesLoose y e.platform (U.calling g mk a) = true :=
    Spec.appliesLoose_calling (g := g) h hdg hn hkY hinitY
      (X.room_calling (g := g) (R' := (headSpec ws rm).room) hsize hmY hcY hframes (by rw [hlY]; omega) h4 h5) h1
  obtain ⟨mid, hmid⟩ := h.above
  have hfr : (U.setTop g).frames = (.java g :: mid) ++ below := by rw [State.frames_setTop' g h.top, hmid]; rfl
  obtain ⟨o, s₂, hsteps, -, hend, hq⟩ := Steps.callFree hM p X.admits X.cas X.clock (acts := []) hfr happ hPc trivial
  have hq' : vx_Q Qc XC mc ms free a (U.calling g mk a) o s₂ := hq
  rw [State.frames_setTop' g h.top] at hend
  obtain ⟨g₀, hg0⟩ := Option.isSome_iff_exists.mp h.top
  obtain ⟨r, hr⟩ := State.topJava?_eq_some.mp hg0
  have hr' : (({ U with heap := s₂.heap, slotsUsed := s₂.slotsUsed } : State).setVm s₂.vm).frames = .java g₀ :: r := hr
  rcases hq' with ⟨hqc, L, hfe, hL⟩ | ⟨q, rfl, E, ce, L, hx, hce, hcv, hcl, hW₂, hsm, hL⟩
  · obtain ⟨⟨v, rfl⟩, hW₂, e2, q2, q3, q4, q5, q6⟩ := id hfe
    have e3 : s₂ = ({ (U.calling g mk a).setFrames s₂.frames with heap := s₂.heap, slotsUsed := s₂.slotsUsed } : State).setVm s₂.vm := by
      have : s₂ = ({ s₂ with vm := (U.calling g mk a).vm } : State).setVm s₂.vm := rfl
      rw [e2] at this
      exact this
    obtain ⟨c₂, i₂, len₂, hc₂, hd₂, hf₂⟩ := hend
    have hW' : U.WarmedH s₂.vm := hW₂
    have hcc : c₂ = c := by
      have h1 : s₂.code? g.method = U.code? g.method := by
        rw [State.code?_eq, State.code?_eq, hW'.alike.method?]
      exact Option.some.inj (hc₂.symm.trans (h1.trans h.code))
    subst hcc
    have hlen : len₂ = len := by rw [hdg] at hd₂; cases hd₂; rfl
    subst hlen
    have hs₂ : s₂ = (({ U with heap := s₂.heap, slotsUsed := s₂.slotsUsed } : State).setVm s₂.vm).setTop { g with pc := g.pc + len₂, stack := v.toList ++ g.stack } := by
      refine e3.trans ?_
      rw [hf₂, State.calling_eq h.top, State.setFrames_setFrames, State.setTop_of_frames _ hr', hr]
      rfl
    have hsame : U.sameButNew ({ U with heap := s₂.heap, slotsUsed := s₂.slotsUsed } : State) L mc ms := by
      refine ⟨?_, q2, q3, q4, q5, q6⟩
      obtain ⟨t, ht, -⟩ := State.frames_cons hr
      show ({ U with heap := s₂.heap, slotsUsed := s₂.slotsUsed } : State) = { U.setFrames U.frames with heap := s₂.heap, slotsUsed := s₂.slotsUsed }
      rw [State.setFrames_self ht]
    subst hg
    refine Or.inl ⟨v, ⟨(({ U with heap := s₂.heap, slotsUsed := s₂.slotsUsed } : State).setVm s₂.vm), Ls ++ L, c0 + mc, s0 + ms⟩,
      ⟨X.admits, X.cas, X.clock, X.frames, X.room, X.hears, X.method, X.code, (X.here.setHeapUsed s₂.heap s₂.slotsUsed).setVm hW'.alike, X.tail, State.WarmedH.trans X.warmed hW', X.limits, X.bytes, X.same.trans (hsame.setVm s.vm)⟩,
      ⟨g, mk, s₂, L, rfl, rfl, hqc, rfl, hL, rfl, rfl⟩, ?_⟩
    show Steps p.tables e below _ ((({ U with heap := s₂.heap, slotsUsed := s₂.slotsUsed } : State).setVm s₂.vm).setTop { g with pc := g.pc + len₂, stack := v.toList ++ g.stack })
    rw [← hs₂]
    exact hsteps
  · obtain ⟨e2, q2, q3, q4, q5, q6⟩ := id hsm
    have e3 : s₂ = ({ (U.calling g mk a).setFrames s₂.frames with heap := s₂.heap, slotsUsed := s₂.slotsUsed } : State).setVm s₂.vm := by
      have : s₂ = ({ s₂ with vm := (U.calling g mk a).vm } : State).setVm s₂.vm := rfl
      rw [e2] at this
      exact this
    have hf₂ : s₂.frames = .throwing q :: .java g :: U.frames.tail := hend
    have hW' : U.WarmedH s₂.vm := hW₂
    have hs₂ : s₂ = ((({ U with heap := s₂.heap, slotsUsed := s₂.slotsUsed } : State).setVm s₂.vm).setTop g).pushFrame (.throwing q) := by
      refine e3.trans ?_
      rw [hf₂, State.calling_eq h.top, State.setFrames_setFrames, State.pushFrame, State.frames_setTop _ hr', State.setTop_of_frames _ hr', State.setFrames_setFrames, hr]
      rfl
    have hsame : U.sameButNew ({ U with heap := s₂.heap, slotsUsed := s₂.slotsUsed } : State) L mc ms := by
      refine ⟨?_, q2, q3, q4, q5, q6⟩
      obtain ⟨t, ht, -⟩ := State.frames_cons hr
      show ({ U with heap := s₂.heap, slotsUsed := s₂.slotsUsed } : State) = { U.setFrames U.frames with heap := s₂.heap, slotsUsed := s₂.slotsUsed }
      rw [State.setFrames_self ht]
    subst hg
    refine Or.inr ⟨q, ⟨(({ U with heap := s₂.heap, slotsUsed := s₂.slotsUsed } : State).setVm s₂.vm), Ls ++ L, c0 + mc, s0 + ms⟩,
      ⟨X.admits, X.cas, X.clock, X.frames, X.room, X.hears, X.method, X.code, (X.here.setHeapUsed s₂.heap s₂.slotsUsed).setVm hW'.alike, X.tail, State.WarmedH.trans X.warmed hW', X.limits, X.bytes, X.same.trans (hsame.setVm s.vm)⟩,
      ⟨g, mk, s₂, L, E, ce, rfl, rfl, hx, hce, hcv, hcl, rfl, hL, rfl, rfl⟩, ?_⟩
    show Steps p.tables e below _ (((({ U with heap := s₂.heap, slotsUsed := s₂.slotsUsed } : State).setVm s₂.vm).setTop g).pushFrame (.throwing q))
    rw [← hs₂]
    exact hsteps
end
variable {p : Program} {l : Launch} {e : Env} {R : Room} {s : State} {m : MethodId} {args : Array Value} {below : List Frame} {meth : Method} {c : Code} {T : State} {H : Heap} {locs : List Loc} {cells slots : Nat}
theorem vx_callVX (X : Stand p l e R s m args below meth c T locs cells slots) (hexec : p.tables.exec = Jvm.exec) {own C : String} {index : Nat} {y : MethodName} {bytes : ByteArray} {maxL : Nat} {ret : Option FieldType} {hh : List (Nat × Nat × Nat × Nat)}
    (hown : s.vm.findClass own = some m.cls) (hlink : (Cond.methodLink own index y).before args s = true) (hinst : (Cond.instanceMethod y).before args s = true) (hsel : (Cond.selects C y y).before args s = true)
    (hcode : (Cond.codeWith y bytes maxL ret hh).before args s = true) (hy : y.cls ≠ "java/lang/invoke/MethodHandle" ∧ y.cls ≠ "java/lang/invoke/VarHandle")
    {W9 : Nat} {Pre : Pt → Array Value → Prop} {Post : Pt → Array Value → Option Value → Pt → Prop} {PostX : Pt → Array Value → Addr → Pt → Prop} (hK : vx_Back l R p e below s args y 3 W9 Pre Post PostX)
    {b : Addr} {cellB : Cell} (hcell : T.heap[b]? = some cellB) (hobj : cellB.vm.isStatics = false) (hcls : s.vm.findClass C = some cellB.cls)
    {g : JFrame} (hg : g.method = m) (hsize : g.locals.size = c.maxLocals) {argsL rest : List Value} (hlen : ∀ sig, parseMethodDescriptor y.desc = some sig → argsL.length = sig.parameters.length)
    (hstack : g.stack = argsL.reverse ++ .ref b :: rest) (hW : 2 * g.monitorRoom + (rest.map fun v => v.category).sum ≤ W9) (hdg : decode c.code g.pc = .ok (.invokevirtual index, 3))
    (hpre : ∀ vm₁, s.WarmedH vm₁ → Pre ⟨T.setVm vm₁, locs, cells, slots⟩ (Value.ref b :: argsL).toArray) :
    (∃ (v : Option Value) (vm₁ : Vm) (B : Pt), s.WarmedH vm₁ ∧ Stand p l e R s m args below meth c B.U B.locs B.cells B.slots ∧ Post ⟨T.setVm vm₁, locs, cells, slots⟩ (Value.ref b :: argsL).toArray v B ∧
      ∀ target, Steps p.tables e below (B.U.setTop { g with pc := g.pc + 3, stack := v.toList ++ rest }) target → Steps p.tables e below (T.setTop g) target) ∨
    (∃ (q : Addr) (vm₁ : Vm) (B : Pt), s.WarmedH vm₁ ∧ Stand p l e R s m args below meth c B.U B.locs B.cells B.slots ∧ PostX ⟨T.setVm vm₁, locs, cells, slots⟩ (Value.ref b :: argsL).toArray q B ∧
      Steps p.tables e below (T.setTop g) ((B.U.setTop { g with stack := rest }).pushFrame (.throwing q))) := by
  obtain ⟨mk, methM, hnamed, hmethM, hstM, habM⟩ := Cond.instanceMethod_spec hinst
  obtain ⟨m8, methM', cM, hn8, hmethM', -, -, -, -, -, -, hsigM⟩ := Cond.codeWith_spec hcode
  cases Option.some.inj (hn8.symm.trans hnamed)
  cases hmethM.symm.trans hmethM'
  obtain ⟨c2, r2, m2, q1, q2, q3, q4, kP, hkP, hkPi⟩ := Cond.selects_spec hsel
  cases hcls.symm.trans q1
  cases (State.methodFound?_of_named hnamed hy).symm.trans q2
  cases hnamed.symm.trans q3
  have hselP : selectMethod e.platform s.vm cellB.cls mk = .method mk := by rw [Launch.admits_selectMethod X.admits]; exact q4
  obtain ⟨vm₁, X₁, hstep₁⟩ := X.invokevirtual hexec hown hlink hnamed hmethM hstM hkP hkPi hy (a := b) (cell := cellB) hcell
    (fun z h => by rw [h] at hobj; cases hobj) hselP hmethM habM hkP hkPi (g := g) hg (argsL := argsL) (rest := rest) (hlen _ hsigM) hstack hdg
  rcases hK m meth c ⟨T.setVm vm₁, locs, cells, slots⟩ { g with stack := rest } (.invokevirtual index) mk (Value.ref b :: argsL).toArray X₁ hg hsize hdg hW (X₁.named hnamed) (hpre vm₁ X₁.warmed) with ⟨v, B, X', hpost, hsteps⟩ | ⟨q, B, X', hpost, hsteps⟩
  · exact Or.inl ⟨v, vm₁, B, X₁.warmed, X', hpost, fun target h => hstep₁ _ fun acts => by rw [doInvoke_state]; exact hsteps.trans h⟩
  · exact Or.inr ⟨q, vm₁, B, X₁.warmed, X', hpost, hstep₁ _ fun acts => by rw [doInvoke_state]; exact hsteps⟩
theorem vx_callSX (X : Stand p l e R s m args below meth c T locs cells slots) (hexec : p.tables.exec = Jvm.exec) {own : String} {index : Nat} {y : MethodName} {bytes : ByteArray} {maxL : Nat} {ret : Option FieldType} {hh : List (Nat × Nat × Nat × Nat)}
    (hown : s.vm.findClass own = some m.cls) (hlink : (Cond.methodLink own index y).before args s = true) (hstat : (Cond.static y).before args s = true) (hinit : (Cond.initialized y.cls).before args s = true)
    (hcode : (Cond.codeWith y bytes maxL ret hh).before args s = true) (hy : y.cls ≠ "java/lang/invoke/MethodHandle" ∧ y.cls ≠ "java/lang/invoke/VarHandle")
    {W9 : Nat} {Pre : Pt → Array Value → Prop} {Post : Pt → Array Value → Option Value → Pt → Prop} {PostX : Pt → Array Value → Addr → Pt → Prop} (hK : vx_Back l R p e below s args y 3 W9 Pre Post PostX)
    {g : JFrame} (hg : g.method = m) (hsize : g.locals.size = c.maxLocals) {argsL rest : List Value} (hlen : ∀ sig, parseMethodDescriptor y.desc = some sig → argsL.length = sig.parameters.length)
    (hstack : g.stack = argsL.reverse ++ rest) (hW : 2 * g.monitorRoom + (rest.map fun v => v.category).sum ≤ W9) (hdg : decode c.code g.pc = .ok (.invokestatic index, 3))
    (hpre : ∀ vm₁, s.WarmedH vm₁ → Pre ⟨T.setVm vm₁, locs, cells, slots⟩ argsL.toArray) :
    (∃ (v : Option Value) (vm₁ : Vm) (B : Pt), s.WarmedH vm₁ ∧ Stand p l e R s m args below meth c B.U B.locs B.cells B.slots ∧ Post ⟨T.setVm vm₁, locs, cells, slots⟩ argsL.toArray v B ∧
      ∀ target, Steps p.tables e below (B.U.setTop { g with pc := g.pc + 3, stack := v.toList ++ rest }) target → Steps p.tables e below (T.setTop g) target) ∨
    (∃ (q : Addr) (vm₁ : Vm) (B : Pt), s.WarmedH vm₁ ∧ Stand p l e R s m args below meth c B.U B.locs B.cells B.slots ∧ PostX ⟨T.setVm vm₁, locs, cells, slots⟩ argsL.toArray q B ∧
      Steps p.tables e below (T.setTop g) ((B.U.setTop { g with stack := rest }).pushFrame (.throwing q))) := by
  obtain ⟨mk, methM, cM, hnamed, hmethM, -, -, -, -, -, -, hsigM⟩ := Cond.codeWith_spec hcode
  have hstatic : methM.isStatic = true := Cond.static_spec hnamed hmethM hstat
  obtain ⟨kP, hkP, -⟩ := className_of_methodNamed hnamed
  have hinitP : kP.init = .initialized := Cond.initialized_spec (findClass_of_methodNamed hnamed) hkP hinit
  obtain ⟨vm₁, X₁, hstep₁⟩ := X.invokestatic hexec hown hlink hnamed hmethM hstatic hkP hinitP hy (g := g) hg (argsL := argsL) (rest := rest) (hlen _ hsigM) hstack hdg
  rcases hK m meth c ⟨T.setVm vm₁, locs, cells, slots⟩ { g with stack := rest } (.invokestatic index) mk argsL.toArray X₁ hg hsize hdg hW (X₁.named hnamed) (hpre vm₁ X₁.warmed) with ⟨v, B, X', hpost, hsteps⟩ | ⟨q, B, X', hpost, hsteps⟩
  · exact Or.inl ⟨v, vm₁, B, X₁.warmed, X', hpost, fun target h => hstep₁ _ fun acts => by rw [doInvoke_state]; exact hsteps.trans h⟩
  · exact Or.inr ⟨q, vm₁, B, X₁.warmed, X', hpost, hstep₁ _ fun acts => by rw [doInvoke_state]; exact hsteps⟩
theorem vx_callVW (X : Stand p l e R s m args below meth c T locs cells slots) (hexec : p.tables.exec = Jvm.exec) {own C : String} {index : Nat} {y : MethodName} {bytes : ByteArray} {maxL : Nat} {ret : Option FieldType} {hh : List (Nat × Nat × Nat × Nat)}
    (hown : s.vm.findClass own = some m.cls) (hlink : (Cond.methodLink own index y).before args s = true) (hinst : (Cond.instanceMethod y).before args s = true) (hsel : (Cond.selects C y y).before args s = true)
    (hcode : (Cond.codeWith y bytes maxL ret hh).before args s = true) (hy : y.cls ≠ "java/lang/invoke/MethodHandle" ∧ y.cls ≠ "java/lang/invoke/VarHandle")
    {W9 : Nat} {Pre : Pt → Array Value → Prop} {Post : Pt → Array Value → Option Value → Pt → Prop} (hK : Back l R p e below s args y 3 W9 Pre Post)
    {b : Addr} {cellB : Cell} (hcell : T.heap[b]? = some cellB) (hobj : cellB.vm.isStatics = false) (hcls : s.vm.findClass C = some cellB.cls)
    {g : JFrame} (hg : g.method = m) (hsize : g.locals.size = c.maxLocals) {argsL rest : List Value} (hlen : ∀ sig, parseMethodDescriptor y.desc = some sig → argsL.length = sig.parameters.length)
    (hstack : g.stack = argsL.reverse ++ .ref b :: rest) (hW : 2 * g.monitorRoom + (rest.map fun v => v.category).sum ≤ W9) (hdg : decode c.code g.pc = .ok (.invokevirtual index, 3))
    (hpre : ∀ vm₁, s.WarmedH vm₁ → Pre ⟨T.setVm vm₁, locs, cells, slots⟩ (Value.ref b :: argsL).toArray) :
    ∃ (v : Option Value) (vm₁ : Vm) (B : Pt), s.WarmedH vm₁ ∧ Stand p l e R s m args below meth c B.U B.locs B.cells B.slots ∧ Post ⟨T.setVm vm₁, locs, cells, slots⟩ (Value.ref b :: argsL).toArray v B ∧
      ∀ target, Steps p.tables e below (B.U.setTop { g with pc := g.pc + 3, stack := v.toList ++ rest }) target → Steps p.tables e below (T.setTop g) target := by
  obtain ⟨mk, methM, hnamed, hmethM, hstM, habM⟩ := Cond.instanceMethod_spec hinst
  obtain ⟨m8, methM', cM, hn8, hmethM', -, -, -, -, -, -, hsigM⟩ := Cond.codeWith_spec hcode
  cases Option.some.inj (hn8.symm.trans hnamed)
  cases hmethM.symm.trans hmethM'
  obtain ⟨c2, r2, m2, q1, q2, q3, q4, kP, hkP, hkPi⟩ := Cond.selects_spec hsel
  cases hcls.symm.trans q1
  cases (State.methodFound?_of_named hnamed hy).symm.trans q2
  cases hnamed.symm.trans q3
  have hselP : selectMethod e.platform s.vm cellB.cls mk = .method mk := by rw [Launch.admits_selectMethod X.admits]; exact q4
  obtain ⟨vm₁, X₁, hstep₁⟩ := X.invokevirtual hexec hown hlink hnamed hmethM hstM hkP hkPi hy (a := b) (cell := cellB) hcell
    (fun z h => by rw [h] at hobj; cases hobj) hselP hmethM habM hkP hkPi (g := g) hg (argsL := argsL) (rest := rest) (hlen _ hsigM) hstack hdg
  obtain ⟨v, B, X', hpost, hsteps⟩ := hK m meth c ⟨T.setVm vm₁, locs, cells, slots⟩ { g with stack := rest } (.invokevirtual index) mk (Value.ref b :: argsL).toArray X₁ hg hsize hdg hW (X₁.named hnamed) (hpre vm₁ X₁.warmed)
  exact ⟨v, vm₁, B, X₁.warmed, X', hpost, fun target h => hstep₁ _ fun acts => by rw [doInvoke_state]; exact hsteps.trans h⟩
abbrev vx_CVW (R : Room) (s : State) (args : Array Value) (own C : String) (index : Nat) (y : MethodName) (bytes : ByteArray) (maxL : Nat) (ret : Option FieldType) (hh : List (Nat × Nat × Nat × Nat)) (ws : List Cond) (rm : Room) (mc ms n : Nat) : Prop :=
  (rm.cells = mc ∧ rm.slots = ms ∧ rm.frames + 1 ≤ R.frames ∧ 8 + (maxL + 11) + rm.locals ≤ R.locals ∧ (∀ w ∈ ws, ∀ (a' : Array Value) (U : State), s.WarmedH U.vm → w.before a' U = true) ∧ Cond.codeWith y bytes maxL ret hh ∈ ws) ∧
  (Cond.codeWith y bytes maxL ret hh).before args s = true ∧ (Cond.initialized y.cls).before args s = true ∧ (y.cls ≠ "java/lang/invoke/MethodHandle" ∧ y.cls ≠ "java/lang/invoke/VarHandle") ∧
  (∀ sig, parseMethodDescriptor y.desc = some sig → n = sig.parameters.length) ∧ (Cond.methodLink own index y).before args s = true ∧ (Cond.instanceMethod y).before args s = true ∧ (Cond.selects C y y).before args s = true
theorem vx_cwVW {own C : String} {index maxL mc ms : Nat} {y : MethodName} {bytes : ByteArray} {ret : Option FieldType} {hh : List (Nat × Nat × Nat × Nat)} {Ts ws ws' : List Cond} {rm : Room} (n : Nat) (ht : ∀ w ∈ Ts, w.before args s = true) (hT : GoodIn Ts (wsV own index C y ws)) (hw : ws = Cond.codeWith y bytes maxL ret hh :: ws') (hrc : rm.cells = mc) (hrs : rm.slots = ms)
    (hd : y.cls = C ∧ y.cls ≠ "java/lang/invoke/MethodHandle" ∧ y.cls ≠ "java/lang/invoke/VarHandle" ∧ (parseMethodDescriptor y.desc).map (fun d => d.parameters.length) = some n) (hR : rm.frames + 1 ≤ R.frames ∧ 8 + (maxL + 11) + rm.locals ≤ R.locals) :
    vx_CVW R s args own C index y bytes maxL ret hh ws rm mc ms n := by
  obtain ⟨hC, hd⟩ := hd
  subst hC
  have ok : ∀ w ∈ wsV own index y.cls y ws, w.before args s = true := fun w h => ht w (hT w h).1
  have hG : GoodIn Ts ws := fun w h => hT w (by unfold wsV; exact List.mem_append_right _ h)
  have hc : Cond.codeWith y bytes maxL ret hh ∈ ws := by rw [hw]; exact List.mem_cons_self
  refine ⟨⟨hrc, hrs, hR.1, hR.2, pay_in ht hG, hc⟩, ht _ (hG _ hc).1, ok _ (by simp [wsV]), ⟨hd.1, hd.2.1⟩, fun sig h => ?_, ok _ (by simp [wsV]), ok _ (by simp [wsV]), ok _ (by simp [wsV])⟩
  have h2 := hd.2.2
  rw [h] at h2
  exact (Option.some.inj h2).symm
theorem vx_runVW {y : MethodName} {bytes cc : ByteArray} {maxL nL mc ms n index : Nat} {ret : Option FieldType} {hh : List (Nat × Nat × Nat × Nat)} {ws : List Cond} {rm : Room} {Pc : Array Value → State → Prop} {Qc : Array Value → State → Outcome → State → Prop} {free : Addr → Prop} {Ts : List Cond} {own C : String} {b : Addr} {As rest : List Value} {g : JFrame}
    (S : CallFix p m c cc nL s args Ts own) (hM : Met l y ws rm Pc Qc mc ms free) (cw : vx_CVW R s args own C index y bytes maxL ret hh ws rm mc ms n) (hp : PreV s H C b Pc As)
    (hg : g.method = m) (hn : As.length = n) (hsize : g.locals.size = nL) (hstack : g.stack = As.reverse ++ .ref b :: rest) (hW : 2 * g.monitorRoom + (rest.map fun v => v.category).sum ≤ 8) (hdg : decode cc g.pc = .ok (.invokevirtual index, 3)) (hf : cells + mc ≤ R.cells ∧ slots + ms ≤ R.slots) :
    va_Run p l e R s m args below meth c H locs cells slots mc ms g rest (Qc (Value.ref b :: As).toArray) free := by
  obtain ⟨⟨hrc, hrs, hfr, hlo, hws, hcw⟩, hcode, hini, hy, hlen, hl, hin, hse⟩ := cw
  have hK : Back l R p e below s args y 3 8 (PreOf R mc ms Pc) (PostOf Qc mc ms free) := va_backW (hh := hh) (bytes := bytes) (maxL := maxL) (ret := ret) hM hp.1 hrc hrs hfr hlo hws hcw (fun a' U hW => word_at hW (Or.inl (by first | rfl | simp [Cond.onTables, Cond.keeps, Cond.steady])) hini)
  obtain ⟨hx, hb, hml, ho, -⟩ := S
  obtain ⟨-, ⟨cellB, hcB, hoB, hclB⟩, hPc⟩ := hp
  intro T hT X
  obtain ⟨v, vm₁, ⟨U', l2, c2, s2⟩, hW₁, X', ⟨g', mk, t, L, e1, e2, hq, h1, hL, h2, h3⟩, st⟩ := vx_callVW X hx (C := C) (hh := hh) (bytes := bytes) (maxL := maxL) (ret := ret) ho hl hin hse hcode hy hK (by rw [hT]; exact hcB) hoB hclB hg (hsize.trans hml.symm) (argsL := As) (rest := rest) (fun sig h => hn.trans (hlen sig h)) hstack hW (by rw [hb]; exact hdg)
    (fun vm₁ hW₁ => ⟨hf.1, hf.2, hPc (T.setVm vm₁) hT hW₁⟩)
  dsimp only [Pt.U, Pt.locs, Pt.cells, Pt.slots] at X' e1 e2 h1 h2 h3 st
  subst h1; subst h2; subst h3
  exact ⟨v, (T.setVm vm₁).calling g' mk (Value.ref b :: As).toArray, t, U', L, hT, X', hL, e1, e2, hq, st⟩
section
variable {y : MethodName} {bytes cc : ByteArray} {maxL nL mc ms n index : Nat} {ret : Option FieldType} {ws : List Cond} {rm : Room} {Pc : Array Value → State → Prop} {Qc : Array Value → State → Outcome → State → Prop} {XC : String → State → State → Prop} {free : Addr → Prop} {Ts : List Cond} {own C : String} {b : Addr} {As rest : List Value} {g : JFrame}
theorem vx_runVX {hh : List (Nat × Nat × Nat × Nat)} (S : CallFix p m c cc nL s args Ts own) (hM : vx_Met l y ws rm Pc Qc XC mc ms free) (cw : vx_CVW R s args own C index y bytes maxL ret hh ws rm mc ms n) (hp : PreV s H C b Pc As)
    (hg : g.method = m) (hn : As.length = n) (hsize : g.locals.size = nL) (hstack : g.stack = As.reverse ++ .ref b :: rest) (hW : 2 * g.monitorRoom + (rest.map fun v => v.category).sum ≤ 8) (hdg : decode cc g.pc = .ok (.invokevirtual index, 3)) (hf : cells + mc ≤ R.cells ∧ slots + ms ≤ R.slots) :
    vx_Run p l e R s m args below meth c H locs cells slots mc ms g rest (Qc (Value.ref b :: As).toArray) XC free := by
  obtain ⟨⟨hrc, hrs, hfr, hlo, hws, hcw⟩, hcode, hini, hy, hlen, hl, hin, hse⟩ := cw
  have hK : vx_Back l R p e below s args y 3 8 (PreOf R mc ms Pc) (PostOf Qc mc ms free) (vx_Post XC mc ms free) := vx_backW (hh := hh) (bytes := bytes) (maxL := maxL) (ret := ret) hM hp.1 hrc hrs hfr hlo hws hcw (fun a' U hW => word_at hW (Or.inl (by first | rfl | simp [Cond.onTables, Cond.keeps, Cond.steady])) hini)
  obtain ⟨hx, hb, hml, ho, -⟩ := S
  obtain ⟨-, ⟨cellB, hcB, hoB, hclB⟩, hPc⟩ := hp
  intro T hT X
  rcases vx_callVX X hx (C := C) (hh := hh) (bytes := bytes) (maxL := maxL) (ret := ret) ho hl hin hse hcode hy hK (by rw [hT]; exact hcB) hoB hclB hg (hsize.trans hml.symm) (argsL := As) (rest := rest) (fun sig h => hn.trans (hlen sig h)) hstack hW (by rw [hb]; exact hdg)
    (fun vm₁ hW₁ => ⟨hf.1, hf.2, hPc (T.setVm vm₁) hT hW₁⟩) with ⟨v, vm₁, ⟨U', l2, c2, s2⟩, hW₁, X', ⟨g', mk, t, L, e1, e2, hq, h1, hL, h2, h3⟩, st⟩ | ⟨q, vm₁, ⟨U', l2, c2, s2⟩, hW₁, X', ⟨g', mk, t, L, E, ce, e1, e2, hq, hce, hcv, hcl, h1, hL, h2, h3⟩, st⟩
  · dsimp only [Pt.U, Pt.locs, Pt.cells, Pt.slots] at X' e1 e2 h1 h2 h3 st
    subst h1; subst h2; subst h3
    exact Or.inl ⟨v, (T.setVm vm₁).calling g' mk (Value.ref b :: As).toArray, t, U', L, hT, X', hL, e1, e2, hq, st⟩
  · dsimp only [Pt.U, Pt.locs, Pt.cells, Pt.slots] at X' e1 e2 h1 h2 h3 st hcl
    subst h1; subst h2; subst h3
    exact Or.inr ⟨q, (T.setVm vm₁).calling g' mk (Value.ref b :: As).toArray, t, U', L, E, ce, hT, X', hL, e1, e2, hq, hce, hcv, vx_cls hW₁ hcl, st⟩
theorem vx_runSX {hh : List (Nat × Nat × Nat × Nat)} (S : CallFix p m c cc nL s args Ts own) (hM : vx_Met l y ws rm Pc Qc XC mc ms free) (cw : vx_CSW R s args own index y bytes maxL ret hh ws rm mc ms n) (hp : PreS s H Pc As)
    (hg : g.method = m) (hn : As.length = n) (hsize : g.locals.size = nL) (hstack : g.stack = As.reverse ++ rest) (hW : 2 * g.monitorRoom + (rest.map fun v => v.category).sum ≤ 8) (hdg : decode cc g.pc = .ok (.invokestatic index, 3)) (hf : cells + mc ≤ R.cells ∧ slots + ms ≤ R.slots) :
    vx_Run p l e R s m args below meth c H locs cells slots mc ms g rest (Qc As.toArray) XC free := by
  obtain ⟨⟨hrc, hrs, hfr, hlo, hws, hcw⟩, hcode, hini, hy, hlen, hl, hstt⟩ := cw
  have hK : vx_Back l R p e below s args y 3 8 (PreOf R mc ms Pc) (PostOf Qc mc ms free) (vx_Post XC mc ms free) := vx_backW (hh := hh) (bytes := bytes) (maxL := maxL) (ret := ret) hM hp.1 hrc hrs hfr hlo hws hcw (fun a' U hW => word_at hW (Or.inl (by first | rfl | simp [Cond.onTables, Cond.keeps, Cond.steady])) hini)
  obtain ⟨hx, hb, hml, ho, -⟩ := S
  intro T hT X
  rcases vx_callSX X hx (hh := hh) (bytes := bytes) (maxL := maxL) (ret := ret) ho hl hstt hini hcode hy hK hg (hsize.trans hml.symm) (argsL := As) (rest := rest) (fun sig h => hn.trans (hlen sig h)) hstack hW (by rw [hb]; exact hdg)
    (fun vm₁ hW₁ => ⟨hf.1, hf.2, hp.2 (T.setVm vm₁) hT hW₁⟩) with ⟨v, vm₁, ⟨U', l2, c2, s2⟩, hW₁, X', ⟨g', mk, t, L, e1, e2, hq, h1, hL, h2, h3⟩, st⟩ | ⟨q, vm₁, ⟨U', l2, c2, s2⟩, hW₁, X', ⟨g', mk, t, L, E, ce, e1, e2, hq, hce, hcv, hcl, h1, hL, h2, h3⟩, st⟩
  · dsimp only [Pt.U, Pt.locs, Pt.cells, Pt.slots] at X' e1 e2 h1 h2 h3 st
    subst h1; subst h2; subst h3
    exact Or.inl ⟨v, (T.setVm vm₁).calling g' mk As.toArray, t, U', L, hT, X', hL, e1, e2, hq, st⟩
  · dsimp only [Pt.U, Pt.locs, Pt.cells, Pt.slots] at X' e1 e2 h1 h2 h3 st hcl
    subst h1; subst h2; subst h3
    exact Or.inr ⟨q, (T.setVm vm₁).calling g' mk As.toArray, t, U', L, E, ce, hT, X', hL, e1, e2, hq, hce, hcv, vx_cls hW₁ hcl, st⟩
end
end VXH
theorem vx_ofWH {l : Launch} {y : MethodName} {ws ws' : List Cond} {rm : Room} {Pc : Array Value → State → Prop} {Qc : Array Value → State → Outcome → State → Prop} {XC : String → State → State → Prop} {mc ms : Nat} {free : Addr → Prop} {cc : ByteArray} {maxL : Nat} {ret : Option FieldType} {hh : List (Nat × Nat × Nat × Nat)}
    (hy : plainName y.cls = true) (hw : ws = Cond.codeWith y cc maxL ret hh :: ws')
    (body : ∀ p e s m args below meth c s₁, BodyLoose p l y (headSpec ws rm) cc maxL ret e s m args below meth c s₁ → c.maxLocals = maxL → Pc args s →
      W p l e (headSpec ws rm).room s m args below meth c s.heap [] 0 0 (vx_MQ below Qc XC args s mc ms free) (entryFrame m args maxL)) : vx_Met l y ws rm Pc Qc XC mc ms free := by
  refine MetFree.of_bodyS (code := cc) (maxLocals := maxL) (ret := ret) hy ?_ ?_
  · intro args s m h hn
    obtain ⟨m9, meth, c, hn9, h1, h2, h3, h4, -, h5, h6, -⟩ := Cond.codeWith_spec (atoms_spec (ws := ws) h _ (by rw [hw]; exact List.mem_cons_self))
    cases hn.symm.trans hn9
    exact ⟨meth, c, h1, h2, h3, h4, h5, h6⟩
  · intro p e s m args below meth c s₁ B hml hP _
    have hh0 : s₁.heap = s.heap := by rw [B.state]; rfl
    obtain ⟨t, a1, o, b1, b2, b3⟩ := body p e s m args below meth c s₁ B hml hP s₁ hh0 (Stand.of_body B)
    exact ⟨t, o, a1, b1, b2, b3⟩
/-! ===== END ===== -/

def RX0 : String := "RowTriggers$Chains"
def TX0 : u_T := fun k => match k with
  | _ => ("RowTriggers$Chains", "table", "[I", true)
def tyX0 : Nat → FieldType := fun k => match k with
  | _ => .array .int
abbrev wsX00 : List Cond := u_ws RX0 TX0 1
theorem nmX0 : ∀ a, a < 1 → ∀ b, b < 1 → a ≠ b → (TX0 a).2.1 ≠ (TX0 b).2.1 := by decide +kernel
theorem tyX0_ok : ∀ k, k < 1 → parseFieldDescriptor (TX0 k).2.2.1 = some (tyX0 k) := by decide +kernel
abbrev cX0_init : ByteArray := prog_2_method_1_code
def yX0_init : MethodName := ⟨RX0, "<init>", "()V"⟩
abbrev cX0_nextOf : ByteArray := prog_2_method_2_code
def yX0_nextOf : MethodName := ⟨RX0, "nextOf", "(LRowTriggers$State;I)I"⟩
abbrev cX0_search : ByteArray := prog_2_method_3_code
def yX0_search : MethodName := ⟨RX0, "search", "(LRowTriggers$State;I)I"⟩
abbrev cX0_fillTable : ByteArray := prog_2_method_4_code
def yX0_fillTable : MethodName := ⟨RX0, "fillTable", "(LRowTriggers$State;)V"⟩
def RX1 : String := "RowTriggers$History"
def TX1 : u_T := fun k => match k with
  | 0 => ("RowTriggers$History", "states", "[LRowTriggers$State;", true)
  | 1 => ("RowTriggers$History", "size", "I", false)
  | _ => ("RowTriggers$History", "next", "I", false)
def tyX1 : Nat → FieldType := fun k => match k with
  | 0 => .array (.object "RowTriggers$State")
  | 1 => .int
  | _ => .int
abbrev wsX10 : List Cond := u_ws RX1 TX1 3
theorem nmX1 : ∀ a, a < 3 → ∀ b, b < 3 → a ≠ b → (TX1 a).2.1 ≠ (TX1 b).2.1 := by decide +kernel
theorem tyX1_ok : ∀ k, k < 3 → parseFieldDescriptor (TX1 k).2.2.1 = some (tyX1 k) := by decide +kernel
abbrev cX1_init : ByteArray := prog_3_method_1_code
def yX1_init : MethodName := ⟨RX1, "<init>", "()V"⟩
abbrev cX1_keep : ByteArray := prog_3_method_2_code
def yX1_keep : MethodName := ⟨RX1, "keep", "(LRowTriggers$State;)V"⟩
abbrev cX1_takeBack : ByteArray := prog_3_method_3_code
def yX1_takeBack : MethodName := ⟨RX1, "takeBack", "(LRowTriggers$State;)V"⟩
def RX2 : String := "RowTriggers$Log"
def TX2 : u_T := fun k => match k with
  | 0 => ("RowTriggers$Log", "rules", "[I", true)
  | 1 => ("RowTriggers$Log", "depths", "[I", true)
  | 2 => ("RowTriggers$Log", "size", "I", false)
  | _ => ("RowTriggers$Log", "latest", "I", false)
def tyX2 : Nat → FieldType := fun k => match k with
  | 0 => .array .int
  | 1 => .array .int
  | 2 => .int
  | _ => .int
abbrev wsX20 : List Cond := u_ws RX2 TX2 4
theorem nmX2 : ∀ a, a < 4 → ∀ b, b < 4 → a ≠ b → (TX2 a).2.1 ≠ (TX2 b).2.1 := by decide +kernel
theorem tyX2_ok : ∀ k, k < 4 → parseFieldDescriptor (TX2 k).2.2.1 = some (tyX2 k) := by decide +kernel
abbrev cX2_init : ByteArray := prog_4_method_1_code
def yX2_init : MethodName := ⟨RX2, "<init>", "()V"⟩
abbrev cX2_copyFrom : ByteArray := prog_4_method_2_code
def yX2_copyFrom : MethodName := ⟨RX2, "copyFrom", "(LRowTriggers$Log;)V"⟩
abbrev cX2_placeOf : ByteArray := prog_4_method_3_code
def yX2_placeOf : MethodName := ⟨RX2, "placeOf", "(I)I"⟩
abbrev cX2_note : ByteArray := prog_4_method_4_code
def yX2_note : MethodName := ⟨RX2, "note", "(II)V"⟩
abbrev cX2_forget : ByteArray := prog_4_method_5_code
def yX2_forget : MethodName := ⟨RX2, "forget", "(I)V"⟩
def RX3 : String := "RowTriggers$Rule"
def TX3 : u_T := fun k => match k with
  | 0 => ("RowTriggers$Rule", "event", "I", false)
  | 1 => ("RowTriggers$Rule", "column", "I", false)
  | 2 => ("RowTriggers$Rule", "least", "I", false)
  | 3 => ("RowTriggers$Rule", "action", "I", false)
  | 4 => ("RowTriggers$Rule", "targetRow", "I", false)
  | 5 => ("RowTriggers$Rule", "targetColumn", "I", false)
  | 6 => ("RowTriggers$Rule", "amount", "I", false)
  | 7 => ("RowTriggers$Rule", "muted", "Z", false)
  | _ => ("RowTriggers$Rule", "acts", "I", false)
def tyX3 : Nat → FieldType := fun k => match k with
  | 0 => .int
  | 1 => .int
  | 2 => .int
  | 3 => .int
  | 4 => .int
  | 5 => .int
  | 6 => .int
  | 7 => .boolean
  | _ => .int
abbrev wsX30 : List Cond := u_ws RX3 TX3 9
theorem nmX3 : ∀ a, a < 9 → ∀ b, b < 9 → a ≠ b → (TX3 a).2.1 ≠ (TX3 b).2.1 := by decide +kernel
theorem tyX3_ok : ∀ k, k < 9 → parseFieldDescriptor (TX3 k).2.2.1 = some (tyX3 k) := by decide +kernel
abbrev cX3_init : ByteArray := prog_5_method_1_code
def yX3_init : MethodName := ⟨RX3, "<init>", "()V"⟩
abbrev cX3_start : ByteArray := prog_5_method_2_code
def yX3_start : MethodName := ⟨RX3, "start", "(III)V"⟩
abbrev cX3_copyFrom : ByteArray := prog_5_method_3_code
def yX3_copyFrom : MethodName := ⟨RX3, "copyFrom", "(LRowTriggers$Rule;)V"⟩
abbrev cX3_setsOff : ByteArray := prog_5_method_4_code
def yX3_setsOff : MethodName := ⟨RX3, "setsOff", "(LRowTriggers$Rule;)Z"⟩
def RX4 : String := "RowTriggers$State"
def TX4 : u_T := fun k => match k with
  | 0 => ("RowTriggers$State", "there", "[Z", true)
  | 1 => ("RowTriggers$State", "values", "[I", true)
  | 2 => ("RowTriggers$State", "rules", "[LRowTriggers$Rule;", true)
  | 3 => ("RowTriggers$State", "log", "LRowTriggers$Log;", true)
  | 4 => ("RowTriggers$State", "rulesUsed", "I", false)
  | 5 => ("RowTriggers$State", "depth", "I", false)
  | _ => ("RowTriggers$State", "events", "I", false)
def tyX4 : Nat → FieldType := fun k => match k with
  | 0 => .array .boolean
  | 1 => .array .int
  | 2 => .array (.object "RowTriggers$Rule")
  | 3 => .object "RowTriggers$Log"
  | 4 => .int
  | 5 => .int
  | _ => .int
abbrev wsX40 : List Cond := u_ws RX4 TX4 7
theorem nmX4 : ∀ a, a < 7 → ∀ b, b < 7 → a ≠ b → (TX4 a).2.1 ≠ (TX4 b).2.1 := by decide +kernel
theorem tyX4_ok : ∀ k, k < 7 → parseFieldDescriptor (TX4 k).2.2.1 = some (tyX4 k) := by decide +kernel
abbrev cX4_init : ByteArray := prog_6_method_1_code
def yX4_init : MethodName := ⟨RX4, "<init>", "()V"⟩
abbrev cX4_copyFrom : ByteArray := prog_6_method_2_code
def yX4_copyFrom : MethodName := ⟨RX4, "copyFrom", "(LRowTriggers$State;)V"⟩
abbrev cX4_isThere : ByteArray := prog_6_method_3_code
def yX4_isThere : MethodName := ⟨RX4, "isThere", "(I)Z"⟩
abbrev cX4_rowsThere : ByteArray := prog_6_method_4_code
def yX4_rowsThere : MethodName := ⟨RX4, "rowsThere", "()I"⟩
abbrev cX4_takeRuleAway : ByteArray := prog_6_method_5_code
def yX4_takeRuleAway : MethodName := ⟨RX4, "takeRuleAway", "(I)V"⟩
def RX5 : String := "RowTriggers$Statement"
def TX5 : u_T := fun k => match k with
  | 0 => ("RowTriggers$Statement", "state", "LRowTriggers$State;", true)
  | 1 => ("RowTriggers$Statement", "events", "I", false)
  | 2 => ("RowTriggers$Statement", "deepest", "I", false)
  | _ => ("RowTriggers$Statement", "refusal", "I", false)
def tyX5 : Nat → FieldType := fun k => match k with
  | 0 => .object "RowTriggers$State"
  | 1 => .int
  | 2 => .int
  | _ => .int
abbrev wsX50 : List Cond := u_ws RX5 TX5 4
theorem nmX5 : ∀ a, a < 4 → ∀ b, b < 4 → a ≠ b → (TX5 a).2.1 ≠ (TX5 b).2.1 := by decide +kernel
theorem tyX5_ok : ∀ k, k < 4 → parseFieldDescriptor (TX5 k).2.2.1 = some (tyX5 k) := by decide +kernel
abbrev cX5_init : ByteArray := prog_7_method_1_code
def yX5_init : MethodName := ⟨RX5, "<init>", "()V"⟩
abbrev cX5_begin : ByteArray := prog_7_method_2_code
def yX5_begin : MethodName := ⟨RX5, "begin", "(LRowTriggers$State;)V"⟩
abbrev cX5_putIn : ByteArray := prog_7_method_3_code
def yX5_putIn : MethodName := ⟨RX5, "putIn", "(LRowTriggers$State;IIII)V"⟩
abbrev cX5_change : ByteArray := prog_7_method_4_code
def yX5_change : MethodName := ⟨RX5, "change", "(LRowTriggers$State;III)V"⟩
abbrev cX5_takeOut : ByteArray := prog_7_method_5_code
def yX5_takeOut : MethodName := ⟨RX5, "takeOut", "(LRowTriggers$State;I)V"⟩
abbrev cX5_happen : ByteArray := prog_7_method_6_code
def yX5_happen : MethodName := ⟨RX5, "happen", "(IIIII)V"⟩
abbrev cX5_act : ByteArray := prog_7_method_7_code
def yX5_act : MethodName := ⟨RX5, "act", "(II)V"⟩
abbrev cX5_alterTable : ByteArray := prog_7_method_8_code
def yX5_alterTable : MethodName := ⟨RX5, "alterTable", "(IIII)V"⟩
abbrev cX5_matchingRules : ByteArray := prog_7_method_9_code
def yX5_matchingRules : MethodName := ⟨RX5, "matchingRules", "(IIII)I"⟩
abbrev cX5_hasRefusing : ByteArray := prog_7_method_10_code
def yX5_hasRefusing : MethodName := ⟨RX5, "hasRefusing", "(I)Z"⟩
def RX6 : String := "RowTriggers$Text"
def TX6 : u_T := fun k => match k with
  | 0 => ("RowTriggers$Text", "signs", "[C", true)
  | 1 => ("RowTriggers$Text", "length", "I", false)
  | 2 => ("RowTriggers$Text", "at", "I", false)
  | 3 => ("RowTriggers$Text", "command", "C", false)
  | _ => ("RowTriggers$Text", "numbers", "[I", true)
def tyX6 : Nat → FieldType := fun k => match k with
  | 0 => .array .char
  | 1 => .int
  | 2 => .int
  | 3 => .char
  | _ => .array .int
abbrev wsX60 : List Cond := u_ws RX6 TX6 5
theorem nmX6 : ∀ a, a < 5 → ∀ b, b < 5 → a ≠ b → (TX6 a).2.1 ≠ (TX6 b).2.1 := by decide +kernel
theorem tyX6_ok : ∀ k, k < 5 → parseFieldDescriptor (TX6 k).2.2.1 = some (tyX6 k) := by decide +kernel
abbrev cX6_init : ByteArray := prog_8_method_1_code
def yX6_init : MethodName := ⟨RX6, "<init>", "()V"⟩
abbrev cX6_append : ByteArray := prog_8_method_2_code
def yX6_append : MethodName := ⟨RX6, "append", "(C)V"⟩
abbrev cX6_firstError : ByteArray := prog_8_method_3_code
def yX6_firstError : MethodName := ⟨RX6, "firstError", "()I"⟩
abbrev cX6_readCommand : ByteArray := prog_8_method_4_code
def yX6_readCommand : MethodName := ⟨RX6, "readCommand", "()Z"⟩
abbrev cX6_formOf : ByteArray := prog_8_method_5_code
def yX6_formOf : MethodName := ⟨RX6, "formOf", "(C)Ljava/lang/String;"⟩
abbrev cX6_readSign : ByteArray := prog_8_method_6_code
def yX6_readSign : MethodName := ⟨RX6, "readSign", "(C)Z"⟩
abbrev cX6_readNumber : ByteArray := prog_8_method_7_code
def yX6_readNumber : MethodName := ⟨RX6, "readNumber", "(I)I"⟩
abbrev cX6_isDigitNext : ByteArray := prog_8_method_8_code
def yX6_isDigitNext : MethodName := ⟨RX6, "isDigitNext", "()Z"⟩
def RX7 : String := "RowTriggers"
def TX7 : u_T := fun k => match k with
  | 0 => ("RowTriggers", "now", "LRowTriggers$State;", true)
  | 1 => ("RowTriggers", "trial", "LRowTriggers$Statement;", true)
  | 2 => ("RowTriggers", "chains", "LRowTriggers$Chains;", true)
  | 3 => ("RowTriggers", "text", "LRowTriggers$Text;", true)
  | 4 => ("RowTriggers", "history", "LRowTriggers$History;", true)
  | 5 => ("RowTriggers", "slots", "[LRowTriggers$State;", true)
  | _ => ("RowTriggers", "slotIsFilled", "[Z", true)
def tyX7 : Nat → FieldType := fun k => match k with
  | 0 => .object "RowTriggers$State"
  | 1 => .object "RowTriggers$Statement"
  | 2 => .object "RowTriggers$Chains"
  | 3 => .object "RowTriggers$Text"
  | 4 => .object "RowTriggers$History"
  | 5 => .array (.object "RowTriggers$State")
  | _ => .array .boolean
abbrev wsX70 : List Cond := u_ws RX7 TX7 7
theorem nmX7 : ∀ a, a < 7 → ∀ b, b < 7 → a ≠ b → (TX7 a).2.1 ≠ (TX7 b).2.1 := by decide +kernel
theorem tyX7_ok : ∀ k, k < 7 → parseFieldDescriptor (TX7 k).2.2.1 = some (tyX7 k) := by decide +kernel
abbrev cX7_init : ByteArray := prog_1_method_1_code
def yX7_init : MethodName := ⟨RX7, "<init>", "()V"⟩
abbrev cX7_addRule : ByteArray := prog_1_method_2_code
def yX7_addRule : MethodName := ⟨RX7, "addRule", "(III)I"⟩
abbrev cX7_setAction : ByteArray := prog_1_method_3_code
def yX7_setAction : MethodName := ⟨RX7, "setAction", "(IIIII)I"⟩
abbrev cX7_turnMute : ByteArray := prog_1_method_4_code
def yX7_turnMute : MethodName := ⟨RX7, "turnMute", "(I)Z"⟩
abbrev cX7_dropRule : ByteArray := prog_1_method_5_code
def yX7_dropRule : MethodName := ⟨RX7, "dropRule", "(I)I"⟩
abbrev cX7_setDepth : ByteArray := prog_1_method_6_code
def yX7_setDepth : MethodName := ⟨RX7, "setDepth", "(I)I"⟩
abbrev cX7_insert : ByteArray := prog_1_method_7_code
def yX7_insert : MethodName := ⟨RX7, "insert", "(IIII)I"⟩
abbrev cX7_update : ByteArray := prog_1_method_8_code
def yX7_update : MethodName := ⟨RX7, "update", "(III)I"⟩
abbrev cX7_remove : ByteArray := prog_1_method_9_code
def yX7_remove : MethodName := ⟨RX7, "remove", "(I)I"⟩
abbrev cX7_whyNotUpdate : ByteArray := prog_1_method_10_code
def yX7_whyNotUpdate : MethodName := ⟨RX7, "whyNotUpdate", "(III)I"⟩
abbrev cX7_eventsOfUpdate : ByteArray := prog_1_method_11_code
def yX7_eventsOfUpdate : MethodName := ⟨RX7, "eventsOfUpdate", "(III)I"⟩
abbrev cX7_depthOfUpdate : ByteArray := prog_1_method_12_code
def yX7_depthOfUpdate : MethodName := ⟨RX7, "depthOfUpdate", "(III)I"⟩
abbrev cX7_tryUpdate : ByteArray := prog_1_method_13_code
def yX7_tryUpdate : MethodName := ⟨RX7, "tryUpdate", "(III)V"⟩
abbrev cX7_finishStatement : ByteArray := prog_1_method_14_code
def yX7_finishStatement : MethodName := ⟨RX7, "finishStatement", "()I"⟩
abbrev cX7_hasRow : ByteArray := prog_1_method_15_code
def yX7_hasRow : MethodName := ⟨RX7, "hasRow", "(I)Z"⟩
abbrev cX7_rowCount : ByteArray := prog_1_method_16_code
def yX7_rowCount : MethodName := ⟨RX7, "rowCount", "()I"⟩
abbrev cX7_valueAt : ByteArray := prog_1_method_17_code
def yX7_valueAt : MethodName := ⟨RX7, "valueAt", "(II)I"⟩
abbrev cX7_sumOf : ByteArray := prog_1_method_18_code
def yX7_sumOf : MethodName := ⟨RX7, "sumOf", "(I)I"⟩
abbrev cX7_ruleCount : ByteArray := prog_1_method_19_code
def yX7_ruleCount : MethodName := ⟨RX7, "ruleCount", "()I"⟩
abbrev cX7_actionOf : ByteArray := prog_1_method_20_code
def yX7_actionOf : MethodName := ⟨RX7, "actionOf", "(I)I"⟩
abbrev cX7_isMuted : ByteArray := prog_1_method_21_code
def yX7_isMuted : MethodName := ⟨RX7, "isMuted", "(I)Z"⟩
abbrev cX7_actsOf : ByteArray := prog_1_method_22_code
def yX7_actsOf : MethodName := ⟨RX7, "actsOf", "(I)I"⟩
abbrev cX7_eventCount : ByteArray := prog_1_method_23_code
def yX7_eventCount : MethodName := ⟨RX7, "eventCount", "()I"⟩
abbrev cX7_logSize : ByteArray := prog_1_method_24_code
def yX7_logSize : MethodName := ⟨RX7, "logSize", "()I"⟩
abbrev cX7_loggedRule : ByteArray := prog_1_method_25_code
def yX7_loggedRule : MethodName := ⟨RX7, "loggedRule", "(I)I"⟩
abbrev cX7_loggedDepth : ByteArray := prog_1_method_26_code
def yX7_loggedDepth : MethodName := ⟨RX7, "loggedDepth", "(I)I"⟩
abbrev cX7_canSetOff : ByteArray := prog_1_method_27_code
def yX7_canSetOff : MethodName := ⟨RX7, "canSetOff", "(II)Z"⟩
abbrev cX7_reachOf : ByteArray := prog_1_method_28_code
def yX7_reachOf : MethodName := ⟨RX7, "reachOf", "(I)I"⟩
abbrev cX7_reachByTable : ByteArray := prog_1_method_29_code
def yX7_reachByTable : MethodName := ⟨RX7, "reachByTable", "(I)I"⟩
abbrev cX7_circularRules : ByteArray := prog_1_method_30_code
def yX7_circularRules : MethodName := ⟨RX7, "circularRules", "()I"⟩
abbrev cX7_appendText : ByteArray := prog_1_method_31_code
def yX7_appendText : MethodName := ⟨RX7, "appendText", "(J)I"⟩
abbrev cX7_clearText : ByteArray := prog_1_method_32_code
def yX7_clearText : MethodName := ⟨RX7, "clearText", "()I"⟩
abbrev cX7_textLength : ByteArray := prog_1_method_33_code
def yX7_textLength : MethodName := ⟨RX7, "textLength", "()I"⟩
abbrev cX7_textError : ByteArray := prog_1_method_34_code
def yX7_textError : MethodName := ⟨RX7, "textError", "()I"⟩
abbrev cX7_runText : ByteArray := prog_1_method_35_code
def yX7_runText : MethodName := ⟨RX7, "runText", "()I"⟩
abbrev cX7_execute : ByteArray := prog_1_method_36_code
def yX7_execute : MethodName := ⟨RX7, "execute", "()Z"⟩
abbrev cX7_codeOf : ByteArray := prog_1_method_37_code
def yX7_codeOf : MethodName := ⟨RX7, "codeOf", "(JI)I"⟩
abbrev cX7_charactersIn : ByteArray := prog_1_method_38_code
def yX7_charactersIn : MethodName := ⟨RX7, "charactersIn", "(J)I"⟩
abbrev cX7_undo : ByteArray := prog_1_method_39_code
def yX7_undo : MethodName := ⟨RX7, "undo", "()I"⟩
abbrev cX7_undoCount : ByteArray := prog_1_method_40_code
def yX7_undoCount : MethodName := ⟨RX7, "undoCount", "()I"⟩
abbrev cX7_saveState : ByteArray := prog_1_method_41_code
def yX7_saveState : MethodName := ⟨RX7, "saveState", "(I)I"⟩
abbrev cX7_loadState : ByteArray := prog_1_method_42_code
def yX7_loadState : MethodName := ⟨RX7, "loadState", "(I)I"⟩
abbrev cX7_isRow : ByteArray := prog_1_method_43_code
def yX7_isRow : MethodName := ⟨RX7, "isRow", "(I)Z"⟩
abbrev cX7_isColumn : ByteArray := prog_1_method_44_code
def yX7_isColumn : MethodName := ⟨RX7, "isColumn", "(I)Z"⟩
abbrev cX7_isValue : ByteArray := prog_1_method_45_code
def yX7_isValue : MethodName := ⟨RX7, "isValue", "(I)Z"⟩
abbrev cX7_cell : ByteArray := prog_1_method_46_code
def yX7_cell : MethodName := ⟨RX7, "cell", "(II)I"⟩
abbrev cX7_checkRow : ByteArray := prog_1_method_47_code
def yX7_checkRow : MethodName := ⟨RX7, "checkRow", "(I)V"⟩
abbrev cX7_checkColumn : ByteArray := prog_1_method_48_code
def yX7_checkColumn : MethodName := ⟨RX7, "checkColumn", "(I)V"⟩
abbrev cX7_checkValue : ByteArray := prog_1_method_49_code
def yX7_checkValue : MethodName := ⟨RX7, "checkValue", "(I)V"⟩
abbrev cX7_checkRule : ByteArray := prog_1_method_50_code
def yX7_checkRule : MethodName := ⟨RX7, "checkRule", "(I)V"⟩
abbrev cX7_checkAgo : ByteArray := prog_1_method_51_code
def yX7_checkAgo : MethodName := ⟨RX7, "checkAgo", "(I)V"⟩
abbrev cX7_checkSlot : ByteArray := prog_1_method_52_code
def yX7_checkSlot : MethodName := ⟨RX7, "checkSlot", "(I)V"⟩
def RX8 : String := "RowTriggersModel"
def TX8 : u_T := fun k => match k with
  | 0 => ("RowTriggersModel", "thrown", "I", false)
  | 1 => ("RowTriggersModel", "s", "[I", true)
  | 2 => ("RowTriggersModel", "aside", "[I", true)
  | 3 => ("RowTriggersModel", "history", "[I", true)
  | 4 => ("RowTriggersModel", "known", "I", false)
  | 5 => ("RowTriggersModel", "slots", "[I", true)
  | 6 => ("RowTriggersModel", "kept", "I", false)
  | 7 => ("RowTriggersModel", "text", "[I", true)
  | 8 => ("RowTriggersModel", "length", "I", false)
  | 9 => ("RowTriggersModel", "waiting", "[I", true)
  | 10 => ("RowTriggersModel", "depth", "I", false)
  | 11 => ("RowTriggersModel", "deepest", "I", false)
  | 12 => ("RowTriggersModel", "happened", "I", false)
  | 13 => ("RowTriggersModel", "refused", "I", false)
  | 14 => ("RowTriggersModel", "spot", "I", false)
  | 15 => ("RowTriggersModel", "isWrong", "Z", false)
  | 16 => ("RowTriggersModel", "sign", "I", false)
  | 17 => ("RowTriggersModel", "line", "I", false)
  | 18 => ("RowTriggersModel", "one", "I", false)
  | 19 => ("RowTriggersModel", "two", "I", false)
  | 20 => ("RowTriggersModel", "three", "I", false)
  | _ => ("RowTriggersModel", "done", "I", false)
def tyX8 : Nat → FieldType := fun k => match k with
  | 0 => .int
  | 1 => .array .int
  | 2 => .array .int
  | 3 => .array .int
  | 4 => .int
  | 5 => .array .int
  | 6 => .int
  | 7 => .array .int
  | 8 => .int
  | 9 => .array .int
  | 10 => .int
  | 11 => .int
  | 12 => .int
  | 13 => .int
  | 14 => .int
  | 15 => .boolean
  | 16 => .int
  | 17 => .int
  | 18 => .int
  | 19 => .int
  | 20 => .int
  | _ => .int
abbrev wsX80 : List Cond := u_ws RX8 TX8 22
theorem nmX8 : ∀ a, a < 22 → ∀ b, b < 22 → a ≠ b → (TX8 a).2.1 ≠ (TX8 b).2.1 := by decide +kernel
theorem tyX8_ok : ∀ k, k < 22 → parseFieldDescriptor (TX8 k).2.2.1 = some (tyX8 k) := by decide +kernel
abbrev cX8_init : ByteArray := prog_10_method_1_code
def yX8_init : MethodName := ⟨RX8, "<init>", "()V"⟩
abbrev cX8_thrown : ByteArray := prog_10_method_2_code
def yX8_thrown : MethodName := ⟨RX8, "thrown", "()I"⟩
abbrev cX8_in : ByteArray := prog_10_method_3_code
def yX8_in : MethodName := ⟨RX8, "in", "(III)Z"⟩
abbrev cX8_holds : ByteArray := prog_10_method_4_code
def yX8_holds : MethodName := ⟨RX8, "holds", "(I)Z"⟩
abbrev cX8_isRow : ByteArray := prog_10_method_5_code
def yX8_isRow : MethodName := ⟨RX8, "isRow", "(I)Z"⟩
abbrev cX8_isColumn : ByteArray := prog_10_method_6_code
def yX8_isColumn : MethodName := ⟨RX8, "isColumn", "(I)Z"⟩
abbrev cX8_isValue : ByteArray := prog_10_method_7_code
def yX8_isValue : MethodName := ⟨RX8, "isValue", "(I)Z"⟩
abbrev cX8_isRule : ByteArray := prog_10_method_8_code
def yX8_isRule : MethodName := ⟨RX8, "isRule", "(I)Z"⟩
abbrev cX8_of : ByteArray := prog_10_method_9_code
def yX8_of : MethodName := ⟨RX8, "of", "(II)I"⟩
abbrev cX8_at : ByteArray := prog_10_method_10_code
def yX8_at : MethodName := ⟨RX8, "at", "(II)I"⟩
abbrev cX8_recordAside : ByteArray := prog_10_method_11_code
def yX8_recordAside : MethodName := ⟨RX8, "recordAside", "()V"⟩
abbrev cX8_putAside : ByteArray := prog_10_method_12_code
def yX8_putAside : MethodName := ⟨RX8, "putAside", "()V"⟩
abbrev cX8_putBack : ByteArray := prog_10_method_13_code
def yX8_putBack : MethodName := ⟨RX8, "putBack", "()V"⟩
abbrev cX8_record : ByteArray := prog_10_method_14_code
def yX8_record : MethodName := ⟨RX8, "record", "()V"⟩
abbrev cX8_rowsNow : ByteArray := prog_10_method_15_code
def yX8_rowsNow : MethodName := ⟨RX8, "rowsNow", "()I"⟩
abbrev cX8_matching : ByteArray := prog_10_method_16_code
def yX8_matching : MethodName := ⟨RX8, "matching", "(IIIIZ)I"⟩
abbrev cX8_begins : ByteArray := prog_10_method_17_code
def yX8_begins : MethodName := ⟨RX8, "begins", "(IIIII)Z"⟩
abbrev cX8_logs : ByteArray := prog_10_method_18_code
def yX8_logs : MethodName := ⟨RX8, "logs", "(I)V"⟩
abbrev cX8_acts : ByteArray := prog_10_method_19_code
def yX8_acts : MethodName := ⟨RX8, "acts", "(I)Z"⟩
abbrev cX8_follows : ByteArray := prog_10_method_20_code
def yX8_follows : MethodName := ⟨RX8, "follows", "()Z"⟩
abbrev cX8_states : ByteArray := prog_10_method_21_code
def yX8_states : MethodName := ⟨RX8, "states", "(IIII)Z"⟩
abbrev cX8_inserts : ByteArray := prog_10_method_22_code
def yX8_inserts : MethodName := ⟨RX8, "inserts", "(IIII)Z"⟩
abbrev cX8_updates : ByteArray := prog_10_method_23_code
def yX8_updates : MethodName := ⟨RX8, "updates", "(III)Z"⟩
abbrev cX8_removes : ByteArray := prog_10_method_24_code
def yX8_removes : MethodName := ⟨RX8, "removes", "(I)Z"⟩
abbrev cX8_addRule : ByteArray := prog_10_method_25_code
def yX8_addRule : MethodName := ⟨RX8, "addRule", "(III)I"⟩
abbrev cX8_setAction : ByteArray := prog_10_method_26_code
def yX8_setAction : MethodName := ⟨RX8, "setAction", "(IIIII)I"⟩
abbrev cX8_turnMute : ByteArray := prog_10_method_27_code
def yX8_turnMute : MethodName := ⟨RX8, "turnMute", "(I)Z"⟩
abbrev cX8_dropRule : ByteArray := prog_10_method_28_code
def yX8_dropRule : MethodName := ⟨RX8, "dropRule", "(I)I"⟩
abbrev cX8_setDepth : ByteArray := prog_10_method_29_code
def yX8_setDepth : MethodName := ⟨RX8, "setDepth", "(I)I"⟩
abbrev cX8_insert : ByteArray := prog_10_method_30_code
def yX8_insert : MethodName := ⟨RX8, "insert", "(IIII)I"⟩
abbrev cX8_update : ByteArray := prog_10_method_31_code
def yX8_update : MethodName := ⟨RX8, "update", "(III)I"⟩
abbrev cX8_remove : ByteArray := prog_10_method_32_code
def yX8_remove : MethodName := ⟨RX8, "remove", "(I)I"⟩
abbrev cX8_triesUpdate : ByteArray := prog_10_method_33_code
def yX8_triesUpdate : MethodName := ⟨RX8, "triesUpdate", "(III)Z"⟩
abbrev cX8_whyNotUpdate : ByteArray := prog_10_method_34_code
def yX8_whyNotUpdate : MethodName := ⟨RX8, "whyNotUpdate", "(III)I"⟩
abbrev cX8_eventsOfUpdate : ByteArray := prog_10_method_35_code
def yX8_eventsOfUpdate : MethodName := ⟨RX8, "eventsOfUpdate", "(III)I"⟩
abbrev cX8_depthOfUpdate : ByteArray := prog_10_method_36_code
def yX8_depthOfUpdate : MethodName := ⟨RX8, "depthOfUpdate", "(III)I"⟩
abbrev cX8_hasRow : ByteArray := prog_10_method_37_code
def yX8_hasRow : MethodName := ⟨RX8, "hasRow", "(I)Z"⟩
abbrev cX8_rowCount : ByteArray := prog_10_method_38_code
def yX8_rowCount : MethodName := ⟨RX8, "rowCount", "()I"⟩
abbrev cX8_valueAt : ByteArray := prog_10_method_39_code
def yX8_valueAt : MethodName := ⟨RX8, "valueAt", "(II)I"⟩
abbrev cX8_sumOf : ByteArray := prog_10_method_40_code
def yX8_sumOf : MethodName := ⟨RX8, "sumOf", "(I)I"⟩
abbrev cX8_ruleCount : ByteArray := prog_10_method_41_code
def yX8_ruleCount : MethodName := ⟨RX8, "ruleCount", "()I"⟩
abbrev cX8_actionOf : ByteArray := prog_10_method_42_code
def yX8_actionOf : MethodName := ⟨RX8, "actionOf", "(I)I"⟩
abbrev cX8_isMuted : ByteArray := prog_10_method_43_code
def yX8_isMuted : MethodName := ⟨RX8, "isMuted", "(I)Z"⟩
abbrev cX8_actsOf : ByteArray := prog_10_method_44_code
def yX8_actsOf : MethodName := ⟨RX8, "actsOf", "(I)I"⟩
abbrev cX8_eventCount : ByteArray := prog_10_method_45_code
def yX8_eventCount : MethodName := ⟨RX8, "eventCount", "()I"⟩
abbrev cX8_logSize : ByteArray := prog_10_method_46_code
def yX8_logSize : MethodName := ⟨RX8, "logSize", "()I"⟩
abbrev cX8_loggedRule : ByteArray := prog_10_method_47_code
def yX8_loggedRule : MethodName := ⟨RX8, "loggedRule", "(I)I"⟩
abbrev cX8_loggedDepth : ByteArray := prog_10_method_48_code
def yX8_loggedDepth : MethodName := ⟨RX8, "loggedDepth", "(I)I"⟩
abbrev cX8_setsOff : ByteArray := prog_10_method_49_code
def yX8_setsOff : MethodName := ⟨RX8, "setsOff", "(II)Z"⟩
abbrev cX8_straight : ByteArray := prog_10_method_50_code
def yX8_straight : MethodName := ⟨RX8, "straight", "(I)I"⟩
abbrev cX8_reach : ByteArray := prog_10_method_51_code
def yX8_reach : MethodName := ⟨RX8, "reach", "(I)I"⟩
abbrev cX8_canSetOff : ByteArray := prog_10_method_52_code
def yX8_canSetOff : MethodName := ⟨RX8, "canSetOff", "(II)Z"⟩
abbrev cX8_reachOf : ByteArray := prog_10_method_53_code
def yX8_reachOf : MethodName := ⟨RX8, "reachOf", "(I)I"⟩
abbrev cX8_reachByTable : ByteArray := prog_10_method_54_code
def yX8_reachByTable : MethodName := ⟨RX8, "reachByTable", "(I)I"⟩
abbrev cX8_circularRules : ByteArray := prog_10_method_55_code
def yX8_circularRules : MethodName := ⟨RX8, "circularRules", "()I"⟩
abbrev cX8_appendText : ByteArray := prog_10_method_56_code
def yX8_appendText : MethodName := ⟨RX8, "appendText", "(J)I"⟩
abbrev cX8_clearText : ByteArray := prog_10_method_57_code
def yX8_clearText : MethodName := ⟨RX8, "clearText", "()I"⟩
abbrev cX8_textLength : ByteArray := prog_10_method_58_code
def yX8_textLength : MethodName := ⟨RX8, "textLength", "()I"⟩
abbrev cX8_takes : ByteArray := prog_10_method_59_code
def yX8_takes : MethodName := ⟨RX8, "takes", "(II)I"⟩
abbrev cX8_number : ByteArray := prog_10_method_60_code
def yX8_number : MethodName := ⟨RX8, "number", "()I"⟩
abbrev cX8_readCommand : ByteArray := prog_10_method_61_code
def yX8_readCommand : MethodName := ⟨RX8, "readCommand", "()V"⟩
abbrev cX8_does : ByteArray := prog_10_method_62_code
def yX8_does : MethodName := ⟨RX8, "does", "()Z"⟩
abbrev cX8_goesThrough : ByteArray := prog_10_method_63_code
def yX8_goesThrough : MethodName := ⟨RX8, "goesThrough", "(Z)V"⟩
abbrev cX8_textError : ByteArray := prog_10_method_64_code
def yX8_textError : MethodName := ⟨RX8, "textError", "()I"⟩
abbrev cX8_runText : ByteArray := prog_10_method_65_code
def yX8_runText : MethodName := ⟨RX8, "runText", "()I"⟩
abbrev cX8_undo : ByteArray := prog_10_method_66_code
def yX8_undo : MethodName := ⟨RX8, "undo", "()I"⟩
abbrev cX8_undoCount : ByteArray := prog_10_method_67_code
def yX8_undoCount : MethodName := ⟨RX8, "undoCount", "()I"⟩
abbrev cX8_saveState : ByteArray := prog_10_method_68_code
def yX8_saveState : MethodName := ⟨RX8, "saveState", "(I)I"⟩
abbrev cX8_loadState : ByteArray := prog_10_method_69_code
def yX8_loadState : MethodName := ⟨RX8, "loadState", "(I)I"⟩
def RJ9 : String := "java/lang/Math"
def TJ9 : u_T := fun k => match k with
  | _ => ("", "", "", false)
def tyJ9 : Nat → FieldType := fun k => match k with
  | _ => .int
abbrev wsJ90 : List Cond := u_ws RJ9 TJ9 0
theorem nmJ9 : ∀ a, a < 0 → ∀ b, b < 0 → a ≠ b → (TJ9 a).2.1 ≠ (TJ9 b).2.1 := by decide +kernel
theorem tyJ9_ok : ∀ k, k < 0 → parseFieldDescriptor (TJ9 k).2.2.1 = some (tyJ9 k) := by decide +kernel
abbrev cJ9_floorMod_7cf53 : ByteArray := prog_15_method_50_code
def yJ9_floorMod_7cf53 : MethodName := ⟨RJ9, "floorMod", "(II)I"⟩
abbrev cJ9_max_7cf53 : ByteArray := prog_15_method_65_code
def yJ9_max_7cf53 : MethodName := ⟨RJ9, "max", "(II)I"⟩
abbrev cJ9_min_7cf53 : ByteArray := prog_15_method_69_code
def yJ9_min_7cf53 : MethodName := ⟨RJ9, "min", "(II)I"⟩
def RJ0 : String := "java/lang/String"
def TJ0 : u_T := fun k => match k with
  | _ => ("", "", "", false)
def tyJ0 : Nat → FieldType := fun k => match k with
  | _ => .int
abbrev wsJ00 : List Cond := u_ws RJ0 TJ0 0
theorem nmJ0 : ∀ a, a < 0 → ∀ b, b < 0 → a ≠ b → (TJ0 a).2.1 ≠ (TJ0 b).2.1 := by decide +kernel
theorem tyJ0_ok : ∀ k, k < 0 → parseFieldDescriptor (TJ0 k).2.2.1 = some (tyJ0 k) := by decide +kernel
abbrev cJ0_length_8abf5 : ByteArray := prog_17_method_54_code
def yJ0_length_8abf5 : MethodName := ⟨RJ0, "length", "()I"⟩
abbrev cJ0_isEmpty_aae02 : ByteArray := prog_17_method_55_code
def yJ0_isEmpty_aae02 : MethodName := ⟨RJ0, "isEmpty", "()Z"⟩
abbrev cJ0_charAt_5068e : ByteArray := prog_17_method_56_code
def yJ0_charAt_5068e : MethodName := ⟨RJ0, "charAt", "(I)C"⟩
abbrev cJ0_coder_7d493 : ByteArray := prog_17_method_152_code
def yJ0_coder_7d493 : MethodName := ⟨RJ0, "coder", "()B"⟩
abbrev cJ0_isLatin1_aae02 : ByteArray := prog_17_method_154_code
def yJ0_isLatin1_aae02 : MethodName := ⟨RJ0, "isLatin1", "()Z"⟩
abbrev cJ0_checkIndex_df160 : ByteArray := prog_17_method_155_code
def yJ0_checkIndex_df160 : MethodName := ⟨RJ0, "checkIndex", "(II)V"⟩
def RJ1 : String := "java/lang/StringLatin1"
def TJ1 : u_T := fun k => match k with
  | _ => ("", "", "", false)
def tyJ1 : Nat → FieldType := fun k => match k with
  | _ => .int
abbrev wsJ10 : List Cond := u_ws RJ1 TJ1 0
theorem nmJ1 : ∀ a, a < 0 → ∀ b, b < 0 → a ≠ b → (TJ1 a).2.1 ≠ (TJ1 b).2.1 := by decide +kernel
theorem tyJ1_ok : ∀ k, k < 0 → parseFieldDescriptor (TJ1 k).2.2.1 = some (tyJ1 k) := by decide +kernel
abbrev cJ1_charAt_3b067 : ByteArray := prog_18_method_2_code
def yJ1_charAt_3b067 : MethodName := ⟨RJ1, "charAt", "([BI)C"⟩
def RJ2 : String := "java/lang/StringUTF16"
def TJ2 : u_T := fun k => match k with
  | _ => ("", "", "", false)
def tyJ2 : Nat → FieldType := fun k => match k with
  | _ => .int
abbrev wsJ20 : List Cond := u_ws RJ2 TJ2 0
theorem nmJ2 : ∀ a, a < 0 → ∀ b, b < 0 → a ≠ b → (TJ2 a).2.1 ≠ (TJ2 b).2.1 := by decide +kernel
theorem tyJ2_ok : ∀ k, k < 0 → parseFieldDescriptor (TJ2 k).2.2.1 = some (tyJ2 k) := by decide +kernel
abbrev cJ2_getChar_3b067 : ByteArray := prog_19_method_5_code
def yJ2_getChar_3b067 : MethodName := ⟨RJ2, "getChar", "([BI)C"⟩
abbrev cJ2_length_9d52b : ByteArray := prog_19_method_6_code
def yJ2_length_9d52b : MethodName := ⟨RJ2, "length", "([B)I"⟩
abbrev cJ2_charAt_3b067 : ByteArray := prog_19_method_83_code
def yJ2_charAt_3b067 : MethodName := ⟨RJ2, "charAt", "([BI)C"⟩
abbrev cJ2_checkIndex_2214a : ByteArray := prog_19_method_91_code
def yJ2_checkIndex_2214a : MethodName := ⟨RJ2, "checkIndex", "(I[B)V"⟩
def RJ10 : String := "java/lang/System"
def TJ10 : u_T := fun k => match k with
  | _ => ("", "", "", false)
def tyJ10 : Nat → FieldType := fun k => match k with
  | _ => .int
abbrev wsJ100 : List Cond := u_ws RJ10 TJ10 0
theorem nmJ10 : ∀ a, a < 0 → ∀ b, b < 0 → a ≠ b → (TJ10 a).2.1 ≠ (TJ10 b).2.1 := by decide +kernel
theorem tyJ10_ok : ∀ k, k < 0 → parseFieldDescriptor (TJ10 k).2.2.1 = some (tyJ10 k) := by decide +kernel
def RJ3 : String := "jdk/internal/util/Preconditions"
def TJ3 : u_T := fun k => match k with
  | _ => ("", "", "", false)
def tyJ3 : Nat → FieldType := fun k => match k with
  | _ => .int
abbrev wsJ30 : List Cond := u_ws RJ3 TJ3 0
theorem nmJ3 : ∀ a, a < 0 → ∀ b, b < 0 → a ≠ b → (TJ3 a).2.1 ≠ (TJ3 b).2.1 := by decide +kernel
theorem tyJ3_ok : ∀ k, k < 0 → parseFieldDescriptor (TJ3 k).2.2.1 = some (tyJ3 k) := by decide +kernel
abbrev cJ3_checkIndex_8e157 : ByteArray := prog_22_method_11_code
def yJ3_checkIndex_8e157 : MethodName := ⟨RJ3, "checkIndex", "(IILjava/util/function/BiFunction;)I"⟩
def RL : String := "RowTriggersLaw"
abbrev cL_addRule : ByteArray := method_3_code
def yL_addRule : MethodName := ⟨RL, "addRule", "(LRowTriggers;III[J)I"⟩
abbrev cL_setAction : ByteArray := method_4_code
def yL_setAction : MethodName := ⟨RL, "setAction", "(LRowTriggers;IIIII[J)I"⟩
abbrev cL_turnMute : ByteArray := method_5_code
def yL_turnMute : MethodName := ⟨RL, "turnMute", "(LRowTriggers;I[J)I"⟩
abbrev cL_dropRule : ByteArray := method_6_code
def yL_dropRule : MethodName := ⟨RL, "dropRule", "(LRowTriggers;I[J)I"⟩
abbrev cL_setDepth : ByteArray := method_7_code
def yL_setDepth : MethodName := ⟨RL, "setDepth", "(LRowTriggers;I[J)I"⟩
abbrev cL_insert : ByteArray := method_8_code
def yL_insert : MethodName := ⟨RL, "insert", "(LRowTriggers;IIII[J)I"⟩
abbrev cL_update : ByteArray := method_9_code
def yL_update : MethodName := ⟨RL, "update", "(LRowTriggers;III[J)I"⟩
abbrev cL_remove : ByteArray := method_10_code
def yL_remove : MethodName := ⟨RL, "remove", "(LRowTriggers;I[J)I"⟩
abbrev cL_whyNotUpdate : ByteArray := method_11_code
def yL_whyNotUpdate : MethodName := ⟨RL, "whyNotUpdate", "(LRowTriggers;III[J)I"⟩
abbrev cL_eventsOfUpdate : ByteArray := method_12_code
def yL_eventsOfUpdate : MethodName := ⟨RL, "eventsOfUpdate", "(LRowTriggers;III[J)I"⟩
abbrev cL_depthOfUpdate : ByteArray := method_13_code
def yL_depthOfUpdate : MethodName := ⟨RL, "depthOfUpdate", "(LRowTriggers;III[J)I"⟩
abbrev cL_hasRow : ByteArray := method_14_code
def yL_hasRow : MethodName := ⟨RL, "hasRow", "(LRowTriggers;I[J)I"⟩
abbrev cL_valueAt : ByteArray := method_15_code
def yL_valueAt : MethodName := ⟨RL, "valueAt", "(LRowTriggers;II[J)I"⟩
abbrev cL_sumOf : ByteArray := method_16_code
def yL_sumOf : MethodName := ⟨RL, "sumOf", "(LRowTriggers;I[J)I"⟩
abbrev cL_actionOf : ByteArray := method_17_code
def yL_actionOf : MethodName := ⟨RL, "actionOf", "(LRowTriggers;I[J)I"⟩
abbrev cL_isMuted : ByteArray := method_18_code
def yL_isMuted : MethodName := ⟨RL, "isMuted", "(LRowTriggers;I[J)I"⟩
abbrev cL_actsOf : ByteArray := method_19_code
def yL_actsOf : MethodName := ⟨RL, "actsOf", "(LRowTriggers;I[J)I"⟩
abbrev cL_loggedRule : ByteArray := method_20_code
def yL_loggedRule : MethodName := ⟨RL, "loggedRule", "(LRowTriggers;I[J)I"⟩
abbrev cL_loggedDepth : ByteArray := method_21_code
def yL_loggedDepth : MethodName := ⟨RL, "loggedDepth", "(LRowTriggers;I[J)I"⟩
abbrev cL_canSetOff : ByteArray := method_22_code
def yL_canSetOff : MethodName := ⟨RL, "canSetOff", "(LRowTriggers;II[J)I"⟩
abbrev cL_reachOf : ByteArray := method_23_code
def yL_reachOf : MethodName := ⟨RL, "reachOf", "(LRowTriggers;I[J)I"⟩
abbrev cL_reachByTable : ByteArray := method_24_code
def yL_reachByTable : MethodName := ⟨RL, "reachByTable", "(LRowTriggers;I[J)I"⟩
abbrev cL_appendText : ByteArray := method_25_code
def yL_appendText : MethodName := ⟨RL, "appendText", "(LRowTriggers;J[J)I"⟩
abbrev cL_runText : ByteArray := method_26_code
def yL_runText : MethodName := ⟨RL, "runText", "(LRowTriggers;[J)I"⟩
abbrev cL_undo : ByteArray := method_27_code
def yL_undo : MethodName := ⟨RL, "undo", "(LRowTriggers;[J)I"⟩
abbrev cL_saveState : ByteArray := method_28_code
def yL_saveState : MethodName := ⟨RL, "saveState", "(LRowTriggers;I[J)I"⟩
abbrev cL_loadState : ByteArray := method_29_code
def yL_loadState : MethodName := ⟨RL, "loadState", "(LRowTriggers;I[J)I"⟩
abbrev cL_law : ByteArray := code
def yL_law : MethodName := ⟨RL, "law", "([I)Z"⟩
abbrev vwCl : List vw_C := [(RX0, TX0, 1), (RX1, TX1, 3), (RX2, TX2, 4), (RX3, TX3, 9), (RX4, TX4, 7), (RX5, TX5, 4), (RX6, TX6, 5), (RX7, TX7, 7), (RX8, TX8, 22)]
/-! THE CLAIM OUT OF ONE WALK OF THE LAW'S BODY. Your part is whole_start (and what it stands on); all else here is the same for every law, but numbers. -/
def R_law : String := "RowTriggersLaw"
def lw_P (b : Addr) (xs : List Int32) (args : Array Value) (s : State) : Prop := args = #[.ref b] ∧ s.IntsAt b xs ∧ xs.length ≤ 3072 ∧ (Jvm.Cond.and given_1 narrow_1).before args s = true
def lw_Q (_ : Array Value) (s : State) (o : Outcome) (t : State) : Prop := o = .returned (some (.int 1)) ∧ Framed s o t [] 601024 7293034
def lw_Z (below : List Frame) (a : Array Value) (s : State) : State → Prop := fun t => ∃ o, t.status = .running ∧ Ended t below o ∧ lw_Q a s o t
/-- the law's own end, with 1 on the stack, nothing written that was there before, its room as the claim has it -/
theorem lw_ret {p : Program} {l : Launch} {e : Env} {s : State} {m : MethodId} {below : List Frame} {meth : Method} {c : Code} {b : Nat} (hx : p.tables.exec = Jvm.exec) (hb : c.code = code) (hr : meth.sig.returnType = ret) (hlocks : meth.locks = false) {pc : Nat} {H : Heap} {ls : Array Slot} (hdg : decode code pc = .ok (.ireturn, 1)) : W p l e room_1 s m #[Value.ref b] below meth c H [] 601024 7293034 (lw_Z below #[Value.ref b] s) (F0 m pc ls [.int 1]) := by
  intro T hT X
  obtain ⟨fs, hret, hrun, hended, hW, hframe⟩ := X.leave (v := some (.int 1)) (hlocks := hlocks) (fun h => by rw [hr] at h; cases h)
  have hmeth' : T.vm.method? m = some meth := X.method'
  refine ⟨T.setFrames fs, ?_, .returned (some (.int 1)), hrun, hended, rfl, ⟨_, rfl⟩, hW, hframe⟩
  jvm_step X.here [X.here.top, hx, hb, hdg, hmeth', hr, ret, narrow_b1]
  (try refine ⟨rfl, ?_⟩); (try refine ⟨rfl, ?_⟩)
  first | (intro acts; rw [hret _ acts rfl rfl rfl]) | rw [hret _ _ rfl rfl rfl]
  exact Steps.refl _
/-- what holds at the law's entry: the machine, the code, the tables' words (any of lw_tbl by 'hts w (by decide +kernel)'), the script of L ints xs at the cell b, what the Statement gives of the start (any of its parts by flat_of_before) -/
def lw_At (p : Program) (s : State) (m : MethodId) (meth : Method) (c : Code) (b L : Nat) (xs : Nat → Int32) : Prop :=
  p.tables.exec = Jvm.exec ∧ c.code = code ∧ meth.sig.returnType = ret ∧ c.maxLocals = 7 ∧ s.vm.findClass R_law = some m.cls ∧ (∀ w ∈ lw_tbl, w.before #[Value.ref b] s = true) ∧ va_X b L xs s s.heap ∧ b < s.heap.size ∧ meth.locks = false ∧ (Jvm.Cond.and given_1 narrow_1).before #[Value.ref b] s = true
end
section
abbrev tbX0_init : List (Nat × Instr × Nat) := [(0, .aload_n 0, 1), (1, .invokespecial 3, 3), (4, .aload_n 0, 1), (5, .bipush 8, 2), (7, .newarray .int, 2), (9, .putfield 9, 3), (12, .return_, 1)]
theorem tkX0_init : ∀ e ∈ tbX0_init, decode cX0_init e.1 = .ok e.2 := by decide +kernel
abbrev tbX0_nextOf : List (Nat × Instr × Nat) := [(0, .iconst 0, 1), (1, .istore_n 2, 1), (2, .iconst 0, 1), (3, .istore_n 3, 1), (4, .iload_n 3, 1), (5, .aload_n 0, 1), (6, .getfield 15, 3), (9, .if_icmp .ge 33, 3), (12, .aload_n 0, 1), (13, .getfield 21, 3), (16, .iload_n 1, 1), (17, .aaload, 1), (18, .aload_n 0, 1), (19, .getfield 21, 3), (22, .iload_n 3, 1), (23, .aaload, 1), (24, .invokevirtual 25, 3), (27, .ifCond .eq 9, 3), (30, .iload_n 2, 1), (31, .iconst 1, 1), (32, .iload_n 3, 1), (33, .ishl, 1), (34, .ior, 1), (35, .istore_n 2, 1), (36, .iinc 3 1, 3), (39, .goto (-35), 3), (42, .iload_n 2, 1), (43, .ireturn, 1)]
theorem tkX0_nextOf : ∀ e ∈ tbX0_nextOf, decode cX0_nextOf e.1 = .ok e.2 := by decide +kernel
abbrev tbX0_search : List (Nat × Instr × Nat) := [(0, .iconst 0, 1), (1, .istore_n 3, 1), (2, .aload_n 1, 1), (3, .iload_n 2, 1), (4, .invokestatic 31, 3), (7, .istore 4, 2), (9, .iconst 0, 1), (10, .istore 5, 2), (12, .iload 5, 2), (14, .bipush 8, 2), (16, .if_icmp .ge 69, 3), (19, .iload 4, 2), (21, .ifCond .eq 64, 3), (24, .iload_n 3, 1), (25, .iload 4, 2), (27, .ior, 1), (28, .istore_n 3, 1), (29, .iconst 0, 1), (30, .istore 6, 2), (32, .iconst 0, 1), (33, .istore 7, 2), (35, .iload 7, 2), (37, .aload_n 1, 1), (38, .getfield 15, 3), (41, .if_icmp .ge 30, 3), (44, .iload 4, 2), (46, .iconst 1, 1), (47, .iload 7, 2), (49, .ishl, 1), (50, .iand, 1), (51, .ifCond .eq 14, 3), (54, .iload 6, 2), (56, .aload_n 1, 1), (57, .iload 7, 2), (59, .invokestatic 31, 3), (62, .ior, 1), (63, .istore 6, 2), (65, .iinc 7 1, 3), (68, .goto (-33), 3), (71, .iload 6, 2), (73, .iload_n 3, 1), (74, .iconst (-1), 1), (75, .ixor, 1), (76, .iand, 1), (77, .istore 4, 2), (79, .iinc 5 1, 3), (82, .goto (-70), 3), (85, .iload_n 3, 1), (86, .ireturn, 1)]
theorem tkX0_search : ∀ e ∈ tbX0_search, decode cX0_search e.1 = .ok e.2 := by decide +kernel
abbrev tbX0_fillTable : List (Nat × Instr × Nat) := [(0, .iconst 0, 1), (1, .istore_n 2, 1), (2, .iload_n 2, 1), (3, .aload_n 1, 1), (4, .getfield 15, 3), (7, .if_icmp .ge 20, 3), (10, .aload_n 0, 1), (11, .getfield 9, 3), (14, .iload_n 2, 1), (15, .aload_n 1, 1), (16, .iload_n 2, 1), (17, .invokestatic 31, 3), (20, .iastore, 1), (21, .iinc 2 1, 3), (24, .goto (-22), 3), (27, .iconst 0, 1), (28, .istore_n 2, 1), (29, .iload_n 2, 1), (30, .aload_n 1, 1), (31, .getfield 15, 3), (34, .if_icmp .ge 53, 3), (37, .iconst 0, 1), (38, .istore_n 3, 1), (39, .iload_n 3, 1), (40, .aload_n 1, 1), (41, .getfield 15, 3), (44, .if_icmp .ge 37, 3), (47, .aload_n 0, 1), (48, .getfield 9, 3), (51, .iload_n 3, 1), (52, .iaload, 1), (53, .iconst 1, 1), (54, .iload_n 2, 1), (55, .ishl, 1), (56, .iand, 1), (57, .ifCond .eq 18, 3), (60, .aload_n 0, 1), (61, .getfield 9, 3), (64, .iload_n 3, 1), (65, .dup2, 1), (66, .iaload, 1), (67, .aload_n 0, 1), (68, .getfield 9, 3), (71, .iload_n 2, 1), (72, .iaload, 1), (73, .ior, 1), (74, .iastore, 1), (75, .iinc 3 1, 3), (78, .goto (-39), 3), (81, .iinc 2 1, 3), (84, .goto (-55), 3), (87, .return_, 1)]
theorem tkX0_fillTable : ∀ e ∈ tbX0_fillTable, decode cX0_fillTable e.1 = .ok e.2 := by decide +kernel
abbrev tbX1_init : List (Nat × Instr × Nat) := [(0, .aload_n 0, 1), (1, .invokespecial 3, 3), (4, .aload_n 0, 1), (5, .bipush 6, 2), (7, .anewarray 9, 3), (10, .putfield 11, 3), (13, .iconst 0, 1), (14, .istore_n 1, 1), (15, .iload_n 1, 1), (16, .bipush 6, 2), (18, .if_icmp .ge 22, 3), (21, .aload_n 0, 1), (22, .getfield 11, 3), (25, .iload_n 1, 1), (26, .new 9, 3), (29, .dup, 1), (30, .invokespecial 17, 3), (33, .aastore, 1), (34, .iinc 1 1, 3), (37, .goto (-22), 3), (40, .return_, 1)]
theorem tkX1_init : ∀ e ∈ tbX1_init, decode cX1_init e.1 = .ok e.2 := by decide +kernel
abbrev tbX1_keep : List (Nat × Instr × Nat) := [(0, .aload_n 0, 1), (1, .getfield 11, 3), (4, .aload_n 0, 1), (5, .getfield 18, 3), (8, .aaload, 1), (9, .aload_n 1, 1), (10, .invokevirtual 22, 3), (13, .aload_n 0, 1), (14, .aload_n 0, 1), (15, .getfield 18, 3), (18, .iconst 1, 1), (19, .iadd, 1), (20, .bipush 6, 2), (22, .irem, 1), (23, .putfield 18, 3), (26, .aload_n 0, 1), (27, .aload_n 0, 1), (28, .getfield 26, 3), (31, .iconst 1, 1), (32, .iadd, 1), (33, .bipush 6, 2), (35, .invokestatic 29, 3), (38, .putfield 26, 3), (41, .return_, 1)]
theorem tkX1_keep : ∀ e ∈ tbX1_keep, decode cX1_keep e.1 = .ok e.2 := by decide +kernel
abbrev tbX1_takeBack : List (Nat × Instr × Nat) := [(0, .aload_n 0, 1), (1, .getfield 26, 3), (4, .ifCond .le 41, 3), (7, .aload_n 0, 1), (8, .aload_n 0, 1), (9, .getfield 18, 3), (12, .iconst 1, 1), (13, .isub, 1), (14, .bipush 6, 2), (16, .invokestatic 35, 3), (19, .putfield 18, 3), (22, .aload_n 1, 1), (23, .aload_n 0, 1), (24, .getfield 11, 3), (27, .aload_n 0, 1), (28, .getfield 18, 3), (31, .aaload, 1), (32, .invokevirtual 22, 3), (35, .aload_n 0, 1), (36, .dup, 1), (37, .getfield 26, 3), (40, .iconst 1, 1), (41, .isub, 1), (42, .putfield 26, 3), (45, .return_, 1)]
theorem tkX1_takeBack : ∀ e ∈ tbX1_takeBack, decode cX1_takeBack e.1 = .ok e.2 := by decide +kernel
abbrev tbX2_init : List (Nat × Instr × Nat) := [(0, .aload_n 0, 1), (1, .invokespecial 3, 3), (4, .aload_n 0, 1), (5, .bipush 16, 2), (7, .newarray .int, 2), (9, .putfield 9, 3), (12, .aload_n 0, 1), (13, .bipush 16, 2), (15, .newarray .int, 2), (17, .putfield 15, 3), (20, .return_, 1)]
theorem tkX2_init : ∀ e ∈ tbX2_init, decode cX2_init e.1 = .ok e.2 := by decide +kernel
abbrev tbX2_copyFrom : List (Nat × Instr × Nat) := [(0, .aload_n 1, 1), (1, .getfield 9, 3), (4, .iconst 0, 1), (5, .aload_n 0, 1), (6, .getfield 9, 3), (9, .iconst 0, 1), (10, .bipush 16, 2), (12, .invokestatic 18, 3), (15, .aload_n 1, 1), (16, .getfield 15, 3), (19, .iconst 0, 1), (20, .aload_n 0, 1), (21, .getfield 15, 3), (24, .iconst 0, 1), (25, .bipush 16, 2), (27, .invokestatic 18, 3), (30, .aload_n 0, 1), (31, .aload_n 1, 1), (32, .getfield 24, 3), (35, .putfield 24, 3), (38, .aload_n 0, 1), (39, .aload_n 1, 1), (40, .getfield 28, 3), (43, .putfield 28, 3), (46, .return_, 1)]
theorem tkX2_copyFrom : ∀ e ∈ tbX2_copyFrom, decode cX2_copyFrom e.1 = .ok e.2 := by decide +kernel
abbrev tbX2_placeOf : List (Nat × Instr × Nat) := [(0, .aload_n 0, 1), (1, .getfield 28, 3), (4, .iload_n 1, 1), (5, .isub, 1), (6, .bipush 16, 2), (8, .invokestatic 31, 3), (11, .ireturn, 1)]
theorem tkX2_placeOf : ∀ e ∈ tbX2_placeOf, decode cX2_placeOf e.1 = .ok e.2 := by decide +kernel
abbrev tbX2_note : List (Nat × Instr × Nat) := [(0, .aload_n 0, 1), (1, .aload_n 0, 1), (2, .getfield 28, 3), (5, .iconst 1, 1), (6, .iadd, 1), (7, .bipush 16, 2), (9, .irem, 1), (10, .putfield 28, 3), (13, .aload_n 0, 1), (14, .getfield 9, 3), (17, .aload_n 0, 1), (18, .getfield 28, 3), (21, .iload_n 1, 1), (22, .iastore, 1), (23, .aload_n 0, 1), (24, .getfield 15, 3), (27, .aload_n 0, 1), (28, .getfield 28, 3), (31, .iload_n 2, 1), (32, .iastore, 1), (33, .aload_n 0, 1), (34, .aload_n 0, 1), (35, .getfield 24, 3), (38, .iconst 1, 1), (39, .iadd, 1), (40, .bipush 16, 2), (42, .invokestatic 37, 3), (45, .putfield 24, 3), (48, .return_, 1)]
theorem tkX2_note : ∀ e ∈ tbX2_note, decode cX2_note e.1 = .ok e.2 := by decide +kernel
abbrev tbX2_forget : List (Nat × Instr × Nat) := [(0, .aload_n 0, 1), (1, .getfield 24, 3), (4, .istore_n 2, 1), (5, .aload_n 0, 1), (6, .iload_n 2, 1), (7, .iconst 1, 1), (8, .isub, 1), (9, .invokevirtual 40, 3), (12, .istore_n 3, 1), (13, .aload_n 0, 1), (14, .iconst 0, 1), (15, .putfield 24, 3), (18, .aload_n 0, 1), (19, .iload_n 3, 1), (20, .iconst 1, 1), (21, .isub, 1), (22, .bipush 16, 2), (24, .invokestatic 31, 3), (27, .putfield 28, 3), (30, .iconst 0, 1), (31, .istore 4, 2), (33, .iload 4, 2), (35, .iload_n 2, 1), (36, .if_icmp .ge 61, 3), (39, .iload_n 3, 1), (40, .iload 4, 2), (42, .iadd, 1), (43, .bipush 16, 2), (45, .invokestatic 31, 3), (48, .istore 5, 2), (50, .aload_n 0, 1), (51, .getfield 9, 3), (54, .iload 5, 2), (56, .iaload, 1), (57, .istore 6, 2), (59, .iload 6, 2), (61, .iload_n 1, 1), (62, .if_icmp .eq 29, 3), (65, .aload_n 0, 1), (66, .iload 6, 2), (68, .iload_n 1, 1), (69, .if_icmp .le 10, 3), (72, .iload 6, 2), (74, .iconst 1, 1), (75, .isub, 1), (76, .goto 5, 3), (79, .iload 6, 2), (81, .aload_n 0, 1), (82, .getfield 15, 3), (85, .iload 5, 2), (87, .iaload, 1), (88, .invokevirtual 44, 3), (91, .iinc 4 1, 3), (94, .goto (-61), 3), (97, .return_, 1)]
theorem tkX2_forget : ∀ e ∈ tbX2_forget, decode cX2_forget e.1 = .ok e.2 := by decide +kernel
abbrev tbX3_init : List (Nat × Instr × Nat) := [(0, .aload_n 0, 1), (1, .invokespecial 3, 3), (4, .return_, 1)]
theorem tkX3_init : ∀ e ∈ tbX3_init, decode cX3_init e.1 = .ok e.2 := by decide +kernel
abbrev tbX3_start : List (Nat × Instr × Nat) := [(0, .aload_n 0, 1), (1, .iload_n 1, 1), (2, .putfield 9, 3), (5, .aload_n 0, 1), (6, .iload_n 2, 1), (7, .putfield 15, 3), (10, .aload_n 0, 1), (11, .iload_n 3, 1), (12, .putfield 18, 3), (15, .aload_n 0, 1), (16, .iconst 0, 1), (17, .putfield 21, 3), (20, .aload_n 0, 1), (21, .iconst 0, 1), (22, .putfield 24, 3), (25, .aload_n 0, 1), (26, .iconst 0, 1), (27, .putfield 27, 3), (30, .aload_n 0, 1), (31, .iconst 0, 1), (32, .putfield 30, 3), (35, .aload_n 0, 1), (36, .iconst 0, 1), (37, .putfield 33, 3), (40, .aload_n 0, 1), (41, .iconst 0, 1), (42, .putfield 37, 3), (45, .return_, 1)]
theorem tkX3_start : ∀ e ∈ tbX3_start, decode cX3_start e.1 = .ok e.2 := by decide +kernel
abbrev tbX3_copyFrom : List (Nat × Instr × Nat) := [(0, .aload_n 0, 1), (1, .aload_n 1, 1), (2, .getfield 9, 3), (5, .putfield 9, 3), (8, .aload_n 0, 1), (9, .aload_n 1, 1), (10, .getfield 15, 3), (13, .putfield 15, 3), (16, .aload_n 0, 1), (17, .aload_n 1, 1), (18, .getfield 18, 3), (21, .putfield 18, 3), (24, .aload_n 0, 1), (25, .aload_n 1, 1), (26, .getfield 21, 3), (29, .putfield 21, 3), (32, .aload_n 0, 1), (33, .aload_n 1, 1), (34, .getfield 24, 3), (37, .putfield 24, 3), (40, .aload_n 0, 1), (41, .aload_n 1, 1), (42, .getfield 27, 3), (45, .putfield 27, 3), (48, .aload_n 0, 1), (49, .aload_n 1, 1), (50, .getfield 30, 3), (53, .putfield 30, 3), (56, .aload_n 0, 1), (57, .aload_n 1, 1), (58, .getfield 33, 3), (61, .putfield 33, 3), (64, .aload_n 0, 1), (65, .aload_n 1, 1), (66, .getfield 37, 3), (69, .putfield 37, 3), (72, .return_, 1)]
theorem tkX3_copyFrom : ∀ e ∈ tbX3_copyFrom, decode cX3_copyFrom e.1 = .ok e.2 := by decide +kernel
abbrev tbX3_setsOff : List (Nat × Instr × Nat) := [(0, .aload_n 0, 1), (1, .getfield 33, 3), (4, .ifCond .ne 10, 3), (7, .aload_n 1, 1), (8, .getfield 33, 3), (11, .ifCond .eq 5, 3), (14, .iconst 0, 1), (15, .ireturn, 1), (16, .aload_n 0, 1), (17, .getfield 21, 3), (20, .iconst 2, 1), (21, .if_icmp .ne 28, 3), (24, .aload_n 1, 1), (25, .getfield 9, 3), (28, .iconst 1, 1), (29, .if_icmp .ne 18, 3), (32, .aload_n 1, 1), (33, .getfield 15, 3), (36, .aload_n 0, 1), (37, .getfield 27, 3), (40, .if_icmp .ne 7, 3), (43, .iconst 1, 1), (44, .goto 4, 3), (47, .iconst 0, 1), (48, .ireturn, 1), (49, .aload_n 0, 1), (50, .getfield 21, 3), (53, .iconst 3, 1), (54, .if_icmp .ne 15, 3), (57, .aload_n 1, 1), (58, .getfield 9, 3), (61, .iconst 2, 1), (62, .if_icmp .ne 7, 3), (65, .iconst 1, 1), (66, .goto 4, 3), (69, .iconst 0, 1), (70, .ireturn, 1)]
theorem tkX3_setsOff : ∀ e ∈ tbX3_setsOff, decode cX3_setsOff e.1 = .ok e.2 := by decide +kernel
abbrev tbX4_init : List (Nat × Instr × Nat) := [(0, .aload_n 0, 1), (1, .invokespecial 3, 3), (4, .aload_n 0, 1), (5, .bipush 6, 2), (7, .newarray .boolean, 2), (9, .putfield 9, 3), (12, .aload_n 0, 1), (13, .bipush 18, 2), (15, .newarray .int, 2), (17, .putfield 15, 3), (20, .aload_n 0, 1), (21, .bipush 8, 2), (23, .anewarray 19, 3), (26, .putfield 21, 3), (29, .aload_n 0, 1), (30, .new 25, 3), (33, .dup, 1), (34, .invokespecial 27, 3), (37, .putfield 28, 3), (40, .aload_n 0, 1), (41, .iconst 3, 1), (42, .putfield 32, 3), (45, .iconst 0, 1), (46, .istore_n 1, 1), (47, .iload_n 1, 1), (48, .bipush 8, 2), (50, .if_icmp .ge 22, 3), (53, .aload_n 0, 1), (54, .getfield 21, 3), (57, .iload_n 1, 1), (58, .new 19, 3), (61, .dup, 1), (62, .invokespecial 36, 3), (65, .aastore, 1), (66, .iinc 1 1, 3), (69, .goto (-22), 3), (72, .return_, 1)]
theorem tkX4_init : ∀ e ∈ tbX4_init, decode cX4_init e.1 = .ok e.2 := by decide +kernel
abbrev tbX4_copyFrom : List (Nat × Instr × Nat) := [(0, .aload_n 1, 1), (1, .getfield 15, 3), (4, .iconst 0, 1), (5, .aload_n 0, 1), (6, .getfield 15, 3), (9, .iconst 0, 1), (10, .bipush 18, 2), (12, .invokestatic 37, 3), (15, .iconst 0, 1), (16, .istore_n 2, 1), (17, .iload_n 2, 1), (18, .bipush 6, 2), (20, .if_icmp .ge 21, 3), (23, .aload_n 0, 1), (24, .getfield 9, 3), (27, .iload_n 2, 1), (28, .aload_n 1, 1), (29, .getfield 9, 3), (32, .iload_n 2, 1), (33, .baload, 1), (34, .bastore, 1), (35, .iinc 2 1, 3), (38, .goto (-21), 3), (41, .iconst 0, 1), (42, .istore_n 2, 1), (43, .iload_n 2, 1), (44, .aload_n 1, 1), (45, .getfield 43, 3), (48, .if_icmp .ge 24, 3), (51, .aload_n 0, 1), (52, .getfield 21, 3), (55, .iload_n 2, 1), (56, .aaload, 1), (57, .aload_n 1, 1), (58, .getfield 21, 3), (61, .iload_n 2, 1), (62, .aaload, 1), (63, .invokevirtual 46, 3), (66, .iinc 2 1, 3), (69, .goto (-26), 3), (72, .aload_n 0, 1), (73, .getfield 28, 3), (76, .aload_n 1, 1), (77, .getfield 28, 3), (80, .invokevirtual 50, 3), (83, .aload_n 0, 1), (84, .aload_n 1, 1), (85, .getfield 43, 3), (88, .putfield 43, 3), (91, .aload_n 0, 1), (92, .aload_n 1, 1), (93, .getfield 32, 3), (96, .putfield 32, 3), (99, .aload_n 0, 1), (100, .aload_n 1, 1), (101, .getfield 53, 3), (104, .putfield 53, 3), (107, .return_, 1)]
theorem tkX4_copyFrom : ∀ e ∈ tbX4_copyFrom, decode cX4_copyFrom e.1 = .ok e.2 := by decide +kernel
abbrev tbX4_isThere : List (Nat × Instr × Nat) := [(0, .iload_n 1, 1), (1, .invokestatic 56, 3), (4, .ifCond .eq 16, 3), (7, .aload_n 0, 1), (8, .getfield 9, 3), (11, .iload_n 1, 1), (12, .baload, 1), (13, .ifCond .eq 7, 3), (16, .iconst 1, 1), (17, .goto 4, 3), (20, .iconst 0, 1), (21, .ireturn, 1)]
theorem tkX4_isThere : ∀ e ∈ tbX4_isThere, decode cX4_isThere e.1 = .ok e.2 := by decide +kernel
abbrev tbX4_rowsThere : List (Nat × Instr × Nat) := [(0, .iconst 0, 1), (1, .istore_n 1, 1), (2, .iconst 0, 1), (3, .istore_n 2, 1), (4, .iload_n 2, 1), (5, .bipush 6, 2), (7, .if_icmp .ge 21, 3), (10, .aload_n 0, 1), (11, .getfield 9, 3), (14, .iload_n 2, 1), (15, .baload, 1), (16, .ifCond .eq 6, 3), (19, .iinc 1 1, 3), (22, .iinc 2 1, 3), (25, .goto (-21), 3), (28, .iload_n 1, 1), (29, .ireturn, 1)]
theorem tkX4_rowsThere : ∀ e ∈ tbX4_rowsThere, decode cX4_rowsThere e.1 = .ok e.2 := by decide +kernel
abbrev tbX4_takeRuleAway : List (Nat × Instr × Nat) := [(0, .iload_n 1, 1), (1, .istore_n 2, 1), (2, .iload_n 2, 1), (3, .iconst 1, 1), (4, .iadd, 1), (5, .aload_n 0, 1), (6, .getfield 43, 3), (9, .if_icmp .ge 26, 3), (12, .aload_n 0, 1), (13, .getfield 21, 3), (16, .iload_n 2, 1), (17, .aaload, 1), (18, .aload_n 0, 1), (19, .getfield 21, 3), (22, .iload_n 2, 1), (23, .iconst 1, 1), (24, .iadd, 1), (25, .aaload, 1), (26, .invokevirtual 46, 3), (29, .iinc 2 1, 3), (32, .goto (-30), 3), (35, .aload_n 0, 1), (36, .dup, 1), (37, .getfield 43, 3), (40, .iconst 1, 1), (41, .isub, 1), (42, .putfield 43, 3), (45, .aload_n 0, 1), (46, .getfield 28, 3), (49, .iload_n 1, 1), (50, .invokevirtual 60, 3), (53, .return_, 1)]
theorem tkX4_takeRuleAway : ∀ e ∈ tbX4_takeRuleAway, decode cX4_takeRuleAway e.1 = .ok e.2 := by decide +kernel
abbrev tbX5_init : List (Nat × Instr × Nat) := [(0, .aload_n 0, 1), (1, .invokespecial 3, 3), (4, .aload_n 0, 1), (5, .new 9, 3), (8, .dup, 1), (9, .invokespecial 11, 3), (12, .putfield 12, 3), (15, .return_, 1)]
theorem tkX5_init : ∀ e ∈ tbX5_init, decode cX5_init e.1 = .ok e.2 := by decide +kernel
abbrev tbX5_begin : List (Nat × Instr × Nat) := [(0, .aload_n 0, 1), (1, .getfield 12, 3), (4, .aload_n 1, 1), (5, .invokevirtual 18, 3), (8, .aload_n 0, 1), (9, .iconst 0, 1), (10, .putfield 22, 3), (13, .aload_n 0, 1), (14, .iconst (-1), 1), (15, .putfield 26, 3), (18, .aload_n 0, 1), (19, .iconst 0, 1), (20, .putfield 29, 3), (23, .return_, 1)]
theorem tkX5_begin : ∀ e ∈ tbX5_begin, decode cX5_begin e.1 = .ok e.2 := by decide +kernel
abbrev tbX5_putIn : List (Nat × Instr × Nat) := [(0, .aload_n 0, 1), (1, .aload_n 1, 1), (2, .invokevirtual 32, 3), (5, .iload_n 2, 1), (6, .invokestatic 35, 3), (9, .ifCond .eq 15, 3), (12, .aload_n 0, 1), (13, .getfield 12, 3), (16, .getfield 39, 3), (19, .iload_n 2, 1), (20, .baload, 1), (21, .ifCond .eq 9, 3), (24, .aload_n 0, 1), (25, .iconst 1, 1), (26, .putfield 29, 3), (29, .return_, 1), (30, .aload_n 0, 1), (31, .getfield 12, 3), (34, .getfield 43, 3), (37, .iload_n 2, 1), (38, .iconst 0, 1), (39, .invokestatic 47, 3), (42, .iload_n 3, 1), (43, .iastore, 1), (44, .aload_n 0, 1), (45, .getfield 12, 3), (48, .getfield 43, 3), (51, .iload_n 2, 1), (52, .iconst 1, 1), (53, .invokestatic 47, 3), (56, .iload 4, 2), (58, .iastore, 1), (59, .aload_n 0, 1), (60, .getfield 12, 3), (63, .getfield 43, 3), (66, .iload_n 2, 1), (67, .iconst 2, 1), (68, .invokestatic 47, 3), (71, .iload 5, 2), (73, .iastore, 1), (74, .aload_n 0, 1), (75, .iconst 0, 1), (76, .iload_n 2, 1), (77, .iconst 0, 1), (78, .iconst 0, 1), (79, .iconst 0, 1), (80, .invokevirtual 51, 3), (83, .return_, 1)]
theorem tkX5_putIn : ∀ e ∈ tbX5_putIn, decode cX5_putIn e.1 = .ok e.2 := by decide +kernel
abbrev tbX5_change : List (Nat × Instr × Nat) := [(0, .aload_n 0, 1), (1, .aload_n 1, 1), (2, .invokevirtual 32, 3), (5, .aload_n 0, 1), (6, .getfield 12, 3), (9, .iload_n 2, 1), (10, .invokevirtual 55, 3), (13, .ifCond .eq 10, 3), (16, .iload_n 3, 1), (17, .invokestatic 58, 3), (20, .ifCond .ne 11, 3), (23, .aload_n 0, 1), (24, .iconst 1, 1), (25, .putfield 29, 3), (28, .goto 31, 3), (31, .aload_n 0, 1), (32, .getfield 12, 3), (35, .getfield 43, 3), (38, .iload_n 2, 1), (39, .iload_n 3, 1), (40, .invokestatic 47, 3), (43, .iaload, 1), (44, .iload 4, 2), (46, .if_icmp .eq 13, 3), (49, .aload_n 0, 1), (50, .iconst 1, 1), (51, .iload_n 2, 1), (52, .iload_n 3, 1), (53, .iload 4, 2), (55, .iconst 0, 1), (56, .invokevirtual 51, 3), (59, .return_, 1)]
theorem tkX5_change : ∀ e ∈ tbX5_change, decode cX5_change e.1 = .ok e.2 := by decide +kernel
abbrev tbX5_takeOut : List (Nat × Instr × Nat) := [(0, .aload_n 0, 1), (1, .aload_n 1, 1), (2, .invokevirtual 32, 3), (5, .aload_n 0, 1), (6, .getfield 12, 3), (9, .iload_n 2, 1), (10, .invokevirtual 55, 3), (13, .ifCond .ne 11, 3), (16, .aload_n 0, 1), (17, .iconst 1, 1), (18, .putfield 29, 3), (21, .goto 12, 3), (24, .aload_n 0, 1), (25, .iconst 2, 1), (26, .iload_n 2, 1), (27, .iconst 0, 1), (28, .iconst 0, 1), (29, .iconst 0, 1), (30, .invokevirtual 51, 3), (33, .return_, 1)]
theorem tkX5_takeOut : ∀ e ∈ tbX5_takeOut, decode cX5_takeOut e.1 = .ok e.2 := by decide +kernel
abbrev tbX5_happen : List (Nat × Instr × Nat) := [(0, .iload 5, 2), (2, .aload_n 0, 1), (3, .getfield 12, 3), (6, .getfield 61, 3), (9, .if_icmp .le 9, 3), (12, .aload_n 0, 1), (13, .iconst 3, 1), (14, .putfield 29, 3), (17, .return_, 1), (18, .aload_n 0, 1), (19, .getfield 22, 3), (22, .bipush 100, 2), (24, .if_icmp .lt 9, 3), (27, .aload_n 0, 1), (28, .iconst 4, 1), (29, .putfield 29, 3), (32, .return_, 1), (33, .aload_n 0, 1), (34, .iload_n 1, 1), (35, .iload_n 2, 1), (36, .iload_n 3, 1), (37, .iload 4, 2), (39, .invokevirtual 64, 3), (42, .istore 6, 2), (44, .aload_n 0, 1), (45, .iload 6, 2), (47, .invokevirtual 68, 3), (50, .ifCond .eq 9, 3), (53, .aload_n 0, 1), (54, .iconst 5, 1), (55, .putfield 29, 3), (58, .return_, 1), (59, .aload_n 0, 1), (60, .iload_n 1, 1), (61, .iload_n 2, 1), (62, .iload_n 3, 1), (63, .iload 4, 2), (65, .invokevirtual 71, 3), (68, .aload_n 0, 1), (69, .dup, 1), (70, .getfield 22, 3), (73, .iconst 1, 1), (74, .iadd, 1), (75, .putfield 22, 3), (78, .aload_n 0, 1), (79, .getfield 12, 3), (82, .dup, 1), (83, .getfield 75, 3), (86, .iconst 1, 1), (87, .iadd, 1), (88, .putfield 75, 3), (91, .aload_n 0, 1), (92, .aload_n 0, 1), (93, .getfield 26, 3), (96, .iload 5, 2), (98, .invokestatic 76, 3), (101, .putfield 26, 3), (104, .iconst 0, 1), (105, .istore 7, 2), (107, .iload 7, 2), (109, .aload_n 0, 1), (110, .getfield 12, 3), (113, .getfield 81, 3), (116, .if_icmp .ge 34, 3), (119, .aload_n 0, 1), (120, .getfield 29, 3), (123, .ifCond .ne 27, 3), (126, .iload 6, 2), (128, .iconst 1, 1), (129, .iload 7, 2), (131, .ishl, 1), (132, .iand, 1), (133, .ifCond .eq 11, 3), (136, .aload_n 0, 1), (137, .iload 7, 2), (139, .iload 5, 2), (141, .invokevirtual 84, 3), (144, .iinc 7 1, 3), (147, .goto (-40), 3), (150, .return_, 1)]
theorem tkX5_happen : ∀ e ∈ tbX5_happen, decode cX5_happen e.1 = .ok e.2 := by decide +kernel
abbrev tbX5_act : List (Nat × Instr × Nat) := [(0, .aload_n 0, 1), (1, .getfield 12, 3), (4, .getfield 88, 3), (7, .iload_n 1, 1), (8, .aaload, 1), (9, .astore_n 3, 1), (10, .aload_n 3, 1), (11, .dup, 1), (12, .getfield 92, 3), (15, .iconst 1, 1), (16, .iadd, 1), (17, .putfield 92, 3), (20, .aload_n 0, 1), (21, .getfield 12, 3), (24, .getfield 97, 3), (27, .iload_n 1, 1), (28, .iload_n 2, 1), (29, .invokevirtual 101, 3), (32, .aload_n 3, 1), (33, .getfield 106, 3), (36, .istore 4, 2), (38, .aload_n 0, 1), (39, .getfield 12, 3), (42, .iload 4, 2), (44, .invokevirtual 55, 3), (47, .ifCond .ne 4, 3), (50, .return_, 1), (51, .aload_n 3, 1), (52, .getfield 109, 3), (55, .iconst 3, 1), (56, .if_icmp .ne 18, 3), (59, .aload_n 0, 1), (60, .iconst 2, 1), (61, .iload 4, 2), (63, .iconst 0, 1), (64, .iconst 0, 1), (65, .iload_n 2, 1), (66, .iconst 1, 1), (67, .iadd, 1), (68, .invokevirtual 51, 3), (71, .goto 74, 3), (74, .aload_n 3, 1), (75, .getfield 109, 3), (78, .iconst 2, 1), (79, .if_icmp .ne 66, 3), (82, .aload_n 0, 1), (83, .getfield 12, 3), (86, .getfield 43, 3), (89, .iload 4, 2), (91, .aload_n 3, 1), (92, .getfield 112, 3), (95, .invokestatic 47, 3), (98, .iaload, 1), (99, .aload_n 3, 1), (100, .getfield 115, 3), (103, .iadd, 1), (104, .istore 5, 2), (106, .iload 5, 2), (108, .invokestatic 118, 3), (111, .ifCond .ne 11, 3), (114, .aload_n 0, 1), (115, .iconst 2, 1), (116, .putfield 29, 3), (119, .goto 26, 3), (122, .aload_n 3, 1), (123, .getfield 115, 3), (126, .ifCond .eq 19, 3), (129, .aload_n 0, 1), (130, .iconst 1, 1), (131, .iload 4, 2), (133, .aload_n 3, 1), (134, .getfield 112, 3), (137, .iload 5, 2), (139, .iload_n 2, 1), (140, .iconst 1, 1), (141, .iadd, 1), (142, .invokevirtual 51, 3), (145, .return_, 1)]
theorem tkX5_act : ∀ e ∈ tbX5_act, decode cX5_act e.1 = .ok e.2 := by decide +kernel
abbrev tbX5_alterTable : List (Nat × Instr × Nat) := [(0, .iload_n 1, 1), (1, .iconst 1, 1), (2, .if_icmp .ne 21, 3), (5, .aload_n 0, 1), (6, .getfield 12, 3), (9, .getfield 43, 3), (12, .iload_n 2, 1), (13, .iload_n 3, 1), (14, .invokestatic 47, 3), (17, .iload 4, 2), (19, .iastore, 1), (20, .goto 21, 3), (23, .aload_n 0, 1), (24, .getfield 12, 3), (27, .getfield 39, 3), (30, .iload_n 2, 1), (31, .iload_n 1, 1), (32, .ifCond .ne 7, 3), (35, .iconst 1, 1), (36, .goto 4, 3), (39, .iconst 0, 1), (40, .bastore, 1), (41, .return_, 1)]
theorem tkX5_alterTable : ∀ e ∈ tbX5_alterTable, decode cX5_alterTable e.1 = .ok e.2 := by decide +kernel
abbrev tbX5_matchingRules : List (Nat × Instr × Nat) := [(0, .iconst 0, 1), (1, .istore 5, 2), (3, .iconst 0, 1), (4, .istore 6, 2), (6, .iload 6, 2), (8, .aload_n 0, 1), (9, .getfield 12, 3), (12, .getfield 81, 3), (15, .if_icmp .ge 104, 3), (18, .aload_n 0, 1), (19, .getfield 12, 3), (22, .getfield 88, 3), (25, .iload 6, 2), (27, .aaload, 1), (28, .astore 7, 2), (30, .aload 7, 2), (32, .getfield 121, 3), (35, .ifCond .ne 78, 3), (38, .aload 7, 2), (40, .getfield 125, 3), (43, .iload_n 1, 1), (44, .if_icmp .ne 69, 3), (47, .iload_n 1, 1), (48, .iconst 1, 1), (49, .if_icmp .ne 12, 3), (52, .aload 7, 2), (54, .getfield 128, 3), (57, .iload_n 3, 1), (58, .if_icmp .ne 55, 3), (61, .iload_n 1, 1), (62, .iconst 1, 1), (63, .if_icmp .ne 8, 3), (66, .iload 4, 2), (68, .goto 20, 3), (71, .aload_n 0, 1), (72, .getfield 12, 3), (75, .getfield 43, 3), (78, .iload_n 2, 1), (79, .aload 7, 2), (81, .getfield 128, 3), (84, .invokestatic 47, 3), (87, .iaload, 1), (88, .istore 8, 2), (90, .iload 5, 2), (92, .iload 8, 2), (94, .aload 7, 2), (96, .getfield 131, 3), (99, .if_icmp .lt 10, 3), (102, .iconst 1, 1), (103, .iload 6, 2), (105, .ishl, 1), (106, .goto 4, 3), (109, .iconst 0, 1), (110, .ior, 1), (111, .istore 5, 2), (113, .iinc 6 1, 3), (116, .goto (-110), 3), (119, .iload 5, 2), (121, .ireturn, 1)]
theorem tkX5_matchingRules : ∀ e ∈ tbX5_matchingRules, decode cX5_matchingRules e.1 = .ok e.2 := by decide +kernel
abbrev tbX5_hasRefusing : List (Nat × Instr × Nat) := [(0, .iconst 0, 1), (1, .istore_n 2, 1), (2, .iload_n 2, 1), (3, .aload_n 0, 1), (4, .getfield 12, 3), (7, .getfield 81, 3), (10, .if_icmp .ge 35, 3), (13, .iload_n 1, 1), (14, .iconst 1, 1), (15, .iload_n 2, 1), (16, .ishl, 1), (17, .iand, 1), (18, .ifCond .eq 21, 3), (21, .aload_n 0, 1), (22, .getfield 12, 3), (25, .getfield 88, 3), (28, .iload_n 2, 1), (29, .aaload, 1), (30, .getfield 109, 3), (33, .iconst 1, 1), (34, .if_icmp .ne 5, 3), (37, .iconst 1, 1), (38, .ireturn, 1), (39, .iinc 2 1, 3), (42, .goto (-40), 3), (45, .iconst 0, 1), (46, .ireturn, 1)]
theorem tkX5_hasRefusing : ∀ e ∈ tbX5_hasRefusing, decode cX5_hasRefusing e.1 = .ok e.2 := by decide +kernel
abbrev tbX6_init : List (Nat × Instr × Nat) := [(0, .aload_n 0, 1), (1, .invokespecial 3, 3), (4, .aload_n 0, 1), (5, .bipush 80, 2), (7, .newarray .char, 2), (9, .putfield 9, 3), (12, .aload_n 0, 1), (13, .iconst 4, 1), (14, .newarray .int, 2), (16, .putfield 15, 3), (19, .return_, 1)]
theorem tkX6_init : ∀ e ∈ tbX6_init, decode cX6_init e.1 = .ok e.2 := by decide +kernel
abbrev tbX6_append : List (Nat × Instr × Nat) := [(0, .aload_n 0, 1), (1, .getfield 19, 3), (4, .bipush 80, 2), (6, .if_icmp .ge 23, 3), (9, .aload_n 0, 1), (10, .getfield 9, 3), (13, .aload_n 0, 1), (14, .getfield 19, 3), (17, .iload_n 1, 1), (18, .castore, 1), (19, .aload_n 0, 1), (20, .dup, 1), (21, .getfield 19, 3), (24, .iconst 1, 1), (25, .iadd, 1), (26, .putfield 19, 3), (29, .return_, 1)]
theorem tkX6_append : ∀ e ∈ tbX6_append, decode cX6_append e.1 = .ok e.2 := by decide +kernel
abbrev tbX6_firstError : List (Nat × Instr × Nat) := [(0, .aload_n 0, 1), (1, .iconst 0, 1), (2, .putfield 23, 3), (5, .iconst 0, 1), (6, .istore_n 1, 1), (7, .iload_n 1, 1), (8, .bipush 80, 2), (10, .if_icmp .ge 48, 3), (13, .aload_n 0, 1), (14, .invokevirtual 26, 3), (17, .ifCond .ne 8, 3), (20, .aload_n 0, 1), (21, .getfield 23, 3), (24, .ireturn, 1), (25, .aload_n 0, 1), (26, .getfield 23, 3), (29, .aload_n 0, 1), (30, .getfield 19, 3), (33, .if_icmp .ne 5, 3), (36, .iconst (-1), 1), (37, .ireturn, 1), (38, .aload_n 0, 1), (39, .bipush 59, 2), (41, .invokevirtual 30, 3), (44, .ifCond .ne 8, 3), (47, .aload_n 0, 1), (48, .getfield 23, 3), (51, .ireturn, 1), (52, .iinc 1 1, 3), (55, .goto (-48), 3), (58, .aload_n 0, 1), (59, .getfield 23, 3), (62, .ireturn, 1)]
theorem tkX6_firstError : ∀ e ∈ tbX6_firstError, decode cX6_firstError e.1 = .ok e.2 := by decide +kernel
abbrev tbX6_readCommand : List (Nat × Instr × Nat) := [(0, .aload_n 0, 1), (1, .getfield 23, 3), (4, .aload_n 0, 1), (5, .getfield 19, 3), (8, .if_icmp .lt 5, 3), (11, .iconst 0, 1), (12, .ireturn, 1), (13, .aload_n 0, 1), (14, .aload_n 0, 1), (15, .getfield 9, 3), (18, .aload_n 0, 1), (19, .getfield 23, 3), (22, .caload, 1), (23, .putfield 34, 3), (26, .aload_n 0, 1), (27, .getfield 34, 3), (30, .invokestatic 38, 3), (33, .astore_n 1, 1), (34, .aload_n 1, 1), (35, .invokevirtual 42, 3), (38, .ifCond .eq 5, 3), (41, .iconst 0, 1), (42, .ireturn, 1), (43, .aload_n 0, 1), (44, .dup, 1), (45, .getfield 23, 3), (48, .iconst 1, 1), (49, .iadd, 1), (50, .putfield 23, 3), (53, .iconst 0, 1), (54, .istore_n 2, 1), (55, .iconst 0, 1), (56, .istore_n 3, 1), (57, .iload_n 3, 1), (58, .aload_n 1, 1), (59, .invokevirtual 47, 3), (62, .if_icmp .ge 86, 3), (65, .aload_n 1, 1), (66, .iload_n 3, 1), (67, .invokevirtual 50, 3), (70, .istore 4, 2), (72, .iload 4, 2), (74, .bipush 100, 2), (76, .if_icmp .eq 10, 3), (79, .iload 4, 2), (81, .bipush 118, 2), (83, .if_icmp .ne 48, 3), (86, .aload_n 0, 1), (87, .iload 4, 2), (89, .bipush 100, 2), (91, .if_icmp .ne 7, 3), (94, .iconst 1, 1), (95, .goto 4, 3), (98, .iconst 3, 1), (99, .invokevirtual 54, 3), (102, .istore 5, 2), (104, .iload 5, 2), (106, .iconst (-1), 1), (107, .if_icmp .eq 8, 3), (110, .iload_n 2, 1), (111, .iconst 4, 1), (112, .if_icmp .lt 5, 3), (115, .iconst 0, 1), (116, .ireturn, 1), (117, .aload_n 0, 1), (118, .getfield 15, 3), (121, .iload_n 2, 1), (122, .iload 5, 2), (124, .iastore, 1), (125, .iinc 2 1, 3), (128, .goto 14, 3), (131, .aload_n 0, 1), (132, .iload 4, 2), (134, .invokevirtual 30, 3), (137, .ifCond .ne 5, 3), (140, .iconst 0, 1), (141, .ireturn, 1), (142, .iinc 3 1, 3), (145, .goto (-88), 3), (148, .iconst 1, 1), (149, .ireturn, 1)]
theorem tkX6_readCommand : ∀ e ∈ tbX6_readCommand, decode cX6_readCommand e.1 = .ok e.2 := by decide +kernel
abbrev tbX6_formOf : List (Nat × Instr × Nat) := [(0, .iload_n 0, 1), (1, .bipush 105, 2), (3, .if_icmp .ne 6, 3), (6, .ldc 58, 2), (8, .areturn, 1), (9, .iload_n 0, 1), (10, .bipush 117, 2), (12, .if_icmp .ne 6, 3), (15, .ldc 60, 2), (17, .areturn, 1), (18, .iload_n 0, 1), (19, .bipush 114, 2), (21, .if_icmp .ne 8, 3), (24, .ldc 62, 2), (26, .goto 5, 3), (29, .ldc 64, 2), (31, .areturn, 1)]
theorem tkX6_formOf : ∀ e ∈ tbX6_formOf, decode cX6_formOf e.1 = .ok e.2 := by decide +kernel
abbrev tbX6_readSign : List (Nat × Instr × Nat) := [(0, .aload_n 0, 1), (1, .getfield 23, 3), (4, .aload_n 0, 1), (5, .getfield 19, 3), (8, .if_icmp .ge 16, 3), (11, .aload_n 0, 1), (12, .getfield 9, 3), (15, .aload_n 0, 1), (16, .getfield 23, 3), (19, .caload, 1), (20, .iload_n 1, 1), (21, .if_icmp .eq 5, 3), (24, .iconst 0, 1), (25, .ireturn, 1), (26, .aload_n 0, 1), (27, .dup, 1), (28, .getfield 23, 3), (31, .iconst 1, 1), (32, .iadd, 1), (33, .putfield 23, 3), (36, .iconst 1, 1), (37, .ireturn, 1)]
theorem tkX6_readSign : ∀ e ∈ tbX6_readSign, decode cX6_readSign e.1 = .ok e.2 := by decide +kernel
abbrev tbX6_readNumber : List (Nat × Instr × Nat) := [(0, .iconst (-1), 1), (1, .istore_n 2, 1), (2, .iconst 0, 1), (3, .istore_n 3, 1), (4, .iload_n 3, 1), (5, .iload_n 1, 1), (6, .if_icmp .ge 61, 3), (9, .iload_n 2, 1), (10, .ifCond .eq 57, 3), (13, .aload_n 0, 1), (14, .invokevirtual 66, 3), (17, .ifCond .eq 50, 3), (20, .aload_n 0, 1), (21, .getfield 9, 3), (24, .aload_n 0, 1), (25, .getfield 23, 3), (28, .caload, 1), (29, .bipush 48, 2), (31, .isub, 1), (32, .istore 4, 2), (34, .iload_n 3, 1), (35, .ifCond .ne 8, 3), (38, .iload 4, 2), (40, .goto 10, 3), (43, .iload_n 2, 1), (44, .bipush 10, 2), (46, .imul, 1), (47, .iload 4, 2), (49, .iadd, 1), (50, .istore_n 2, 1), (51, .aload_n 0, 1), (52, .dup, 1), (53, .getfield 23, 3), (56, .iconst 1, 1), (57, .iadd, 1), (58, .putfield 23, 3), (61, .iinc 3 1, 3), (64, .goto (-60), 3), (67, .iload_n 2, 1), (68, .ireturn, 1)]
theorem tkX6_readNumber : ∀ e ∈ tbX6_readNumber, decode cX6_readNumber e.1 = .ok e.2 := by decide +kernel
abbrev tbX6_isDigitNext : List (Nat × Instr × Nat) := [(0, .aload_n 0, 1), (1, .getfield 23, 3), (4, .aload_n 0, 1), (5, .getfield 19, 3), (8, .if_icmp .ge 35, 3), (11, .aload_n 0, 1), (12, .getfield 9, 3), (15, .aload_n 0, 1), (16, .getfield 23, 3), (19, .caload, 1), (20, .bipush 48, 2), (22, .if_icmp .lt 21, 3), (25, .aload_n 0, 1), (26, .getfield 9, 3), (29, .aload_n 0, 1), (30, .getfield 23, 3), (33, .caload, 1), (34, .bipush 57, 2), (36, .if_icmp .gt 7, 3), (39, .iconst 1, 1), (40, .goto 4, 3), (43, .iconst 0, 1), (44, .ireturn, 1)]
theorem tkX6_isDigitNext : ∀ e ∈ tbX6_isDigitNext, decode cX6_isDigitNext e.1 = .ok e.2 := by decide +kernel
abbrev tbX7_init : List (Nat × Instr × Nat) := [(0, .aload_n 0, 1), (1, .invokespecial 1, 3), (4, .aload_n 0, 1), (5, .new 7, 3), (8, .dup, 1), (9, .invokespecial 9, 3), (12, .putfield 10, 3), (15, .aload_n 0, 1), (16, .new 16, 3), (19, .dup, 1), (20, .invokespecial 18, 3), (23, .putfield 19, 3), (26, .aload_n 0, 1), (27, .new 23, 3), (30, .dup, 1), (31, .invokespecial 25, 3), (34, .putfield 26, 3), (37, .aload_n 0, 1), (38, .new 30, 3), (41, .dup, 1), (42, .invokespecial 32, 3), (45, .putfield 33, 3), (48, .aload_n 0, 1), (49, .new 37, 3), (52, .dup, 1), (53, .invokespecial 39, 3), (56, .putfield 40, 3), (59, .aload_n 0, 1), (60, .iconst 2, 1), (61, .anewarray 7, 3), (64, .putfield 44, 3), (67, .aload_n 0, 1), (68, .iconst 2, 1), (69, .newarray .boolean, 2), (71, .putfield 48, 3), (74, .iconst 0, 1), (75, .istore_n 1, 1), (76, .iload_n 1, 1), (77, .iconst 2, 1), (78, .if_icmp .ge 22, 3), (81, .aload_n 0, 1), (82, .getfield 44, 3), (85, .iload_n 1, 1), (86, .new 7, 3), (89, .dup, 1), (90, .invokespecial 9, 3), (93, .aastore, 1), (94, .iinc 1 1, 3), (97, .goto (-21), 3), (100, .return_, 1)]
theorem tkX7_init : ∀ e ∈ tbX7_init, decode cX7_init e.1 = .ok e.2 := by decide +kernel
abbrev tbX7_addRule : List (Nat × Instr × Nat) := [(0, .iload_n 1, 1), (1, .ifCond .lt 22, 3), (4, .iload_n 1, 1), (5, .iconst 2, 1), (6, .if_icmp .gt 17, 3), (9, .iload_n 2, 1), (10, .invokestatic 52, 3), (13, .ifCond .eq 10, 3), (16, .iload_n 3, 1), (17, .invokestatic 56, 3), (20, .ifCond .ne 13, 3), (23, .new 59, 3), (26, .dup, 1), (27, .ldc 61, 2), (29, .invokespecial 63, 3), (32, .athrow, 1), (33, .aload_n 0, 1), (34, .getfield 10, 3), (37, .getfield 66, 3), (40, .bipush 8, 2), (42, .if_icmp .lt 13, 3), (45, .new 70, 3), (48, .dup, 1), (49, .ldc 72, 2), (51, .invokespecial 74, 3), (54, .athrow, 1), (55, .aload_n 0, 1), (56, .getfield 40, 3), (59, .aload_n 0, 1), (60, .getfield 10, 3), (63, .invokevirtual 75, 3), (66, .aload_n 0, 1), (67, .getfield 10, 3), (70, .getfield 66, 3), (73, .istore 4, 2), (75, .aload_n 0, 1), (76, .getfield 10, 3), (79, .getfield 79, 3), (82, .iload 4, 2), (84, .aaload, 1), (85, .iload_n 1, 1), (86, .iload_n 2, 1), (87, .iload_n 3, 1), (88, .invokevirtual 83, 3), (91, .aload_n 0, 1), (92, .getfield 10, 3), (95, .dup, 1), (96, .getfield 66, 3), (99, .iconst 1, 1), (100, .iadd, 1), (101, .putfield 66, 3), (104, .iload 4, 2), (106, .ireturn, 1)]
theorem tkX7_addRule : ∀ e ∈ tbX7_addRule, decode cX7_addRule e.1 = .ok e.2 := by decide +kernel
abbrev tbX7_setAction : List (Nat × Instr × Nat) := [(0, .aload_n 0, 1), (1, .iload_n 1, 1), (2, .invokevirtual 89, 3), (5, .iload_n 2, 1), (6, .ifCond .lt 39, 3), (9, .iload_n 2, 1), (10, .iconst 3, 1), (11, .if_icmp .gt 34, 3), (14, .iload_n 3, 1), (15, .invokestatic 93, 3), (18, .ifCond .eq 27, 3), (21, .iload 4, 2), (23, .invokestatic 52, 3), (26, .ifCond .eq 19, 3), (29, .iload 5, 2), (31, .sipush (-999), 3), (34, .if_icmp .lt 11, 3), (37, .iload 5, 2), (39, .sipush 999, 3), (42, .if_icmp .le 13, 3), (45, .new 59, 3), (48, .dup, 1), (49, .ldc 96, 2), (51, .invokespecial 63, 3), (54, .athrow, 1), (55, .aload_n 0, 1), (56, .getfield 40, 3), (59, .aload_n 0, 1), (60, .getfield 10, 3), (63, .invokevirtual 75, 3), (66, .aload_n 0, 1), (67, .getfield 10, 3), (70, .getfield 79, 3), (73, .iload_n 1, 1), (74, .aaload, 1), (75, .astore 6, 2), (77, .aload 6, 2), (79, .getfield 98, 3), (82, .istore 7, 2), (84, .aload 6, 2), (86, .iload_n 2, 1), (87, .putfield 98, 3), (90, .aload 6, 2), (92, .iload_n 3, 1), (93, .putfield 101, 3), (96, .aload 6, 2), (98, .iload 4, 2), (100, .putfield 104, 3), (103, .aload 6, 2), (105, .iload 5, 2), (107, .putfield 107, 3), (110, .iload 7, 2), (112, .ireturn, 1)]
theorem tkX7_setAction : ∀ e ∈ tbX7_setAction, decode cX7_setAction e.1 = .ok e.2 := by decide +kernel
abbrev tbX7_turnMute : List (Nat × Instr × Nat) := [(0, .aload_n 0, 1), (1, .iload_n 1, 1), (2, .invokevirtual 89, 3), (5, .aload_n 0, 1), (6, .getfield 40, 3), (9, .aload_n 0, 1), (10, .getfield 10, 3), (13, .invokevirtual 75, 3), (16, .aload_n 0, 1), (17, .getfield 10, 3), (20, .getfield 79, 3), (23, .iload_n 1, 1), (24, .aaload, 1), (25, .astore_n 2, 1), (26, .aload_n 2, 1), (27, .aload_n 2, 1), (28, .getfield 110, 3), (31, .ifCond .ne 7, 3), (34, .iconst 1, 1), (35, .goto 4, 3), (38, .iconst 0, 1), (39, .putfield 110, 3), (42, .aload_n 2, 1), (43, .getfield 110, 3), (46, .ireturn, 1)]
theorem tkX7_turnMute : ∀ e ∈ tbX7_turnMute, decode cX7_turnMute e.1 = .ok e.2 := by decide +kernel
abbrev tbX7_dropRule : List (Nat × Instr × Nat) := [(0, .aload_n 0, 1), (1, .iload_n 1, 1), (2, .invokevirtual 89, 3), (5, .aload_n 0, 1), (6, .getfield 40, 3), (9, .aload_n 0, 1), (10, .getfield 10, 3), (13, .invokevirtual 75, 3), (16, .aload_n 0, 1), (17, .getfield 10, 3), (20, .getfield 79, 3), (23, .iload_n 1, 1), (24, .aaload, 1), (25, .getfield 114, 3), (28, .istore_n 2, 1), (29, .aload_n 0, 1), (30, .getfield 10, 3), (33, .iload_n 1, 1), (34, .invokevirtual 117, 3), (37, .iload_n 2, 1), (38, .ireturn, 1)]
theorem tkX7_dropRule : ∀ e ∈ tbX7_dropRule, decode cX7_dropRule e.1 = .ok e.2 := by decide +kernel
abbrev tbX7_setDepth : List (Nat × Instr × Nat) := [(0, .iload_n 1, 1), (1, .ifCond .lt 8, 3), (4, .iload_n 1, 1), (5, .iconst 5, 1), (6, .if_icmp .le 13, 3), (9, .new 59, 3), (12, .dup, 1), (13, .ldc 120, 2), (15, .invokespecial 63, 3), (18, .athrow, 1), (19, .aload_n 0, 1), (20, .getfield 40, 3), (23, .aload_n 0, 1), (24, .getfield 10, 3), (27, .invokevirtual 75, 3), (30, .aload_n 0, 1), (31, .getfield 10, 3), (34, .getfield 122, 3), (37, .istore_n 2, 1), (38, .aload_n 0, 1), (39, .getfield 10, 3), (42, .iload_n 1, 1), (43, .putfield 122, 3), (46, .iload_n 2, 1), (47, .ireturn, 1)]
theorem tkX7_setDepth : ∀ e ∈ tbX7_setDepth, decode cX7_setDepth e.1 = .ok e.2 := by decide +kernel
abbrev tbX7_insert : List (Nat × Instr × Nat) := [(0, .iload_n 1, 1), (1, .invokestatic 125, 3), (4, .iload_n 2, 1), (5, .invokestatic 128, 3), (8, .iload_n 3, 1), (9, .invokestatic 128, 3), (12, .iload 4, 2), (14, .invokestatic 128, 3), (17, .aload_n 0, 1), (18, .getfield 19, 3), (21, .aload_n 0, 1), (22, .getfield 10, 3), (25, .iload_n 1, 1), (26, .iload_n 2, 1), (27, .iload_n 3, 1), (28, .iload 4, 2), (30, .invokevirtual 131, 3), (33, .aload_n 0, 1), (34, .invokevirtual 135, 3), (37, .ireturn, 1)]
theorem tkX7_insert : ∀ e ∈ tbX7_insert, decode cX7_insert e.1 = .ok e.2 := by decide +kernel
abbrev tbX7_update : List (Nat × Instr × Nat) := [(0, .aload_n 0, 1), (1, .iload_n 1, 1), (2, .iload_n 2, 1), (3, .iload_n 3, 1), (4, .invokevirtual 139, 3), (7, .aload_n 0, 1), (8, .invokevirtual 135, 3), (11, .ireturn, 1)]
theorem tkX7_update : ∀ e ∈ tbX7_update, decode cX7_update e.1 = .ok e.2 := by decide +kernel
abbrev tbX7_remove : List (Nat × Instr × Nat) := [(0, .iload_n 1, 1), (1, .invokestatic 125, 3), (4, .aload_n 0, 1), (5, .getfield 19, 3), (8, .aload_n 0, 1), (9, .getfield 10, 3), (12, .iload_n 1, 1), (13, .invokevirtual 142, 3), (16, .aload_n 0, 1), (17, .invokevirtual 135, 3), (20, .ireturn, 1)]
theorem tkX7_remove : ∀ e ∈ tbX7_remove, decode cX7_remove e.1 = .ok e.2 := by decide +kernel
abbrev tbX7_whyNotUpdate : List (Nat × Instr × Nat) := [(0, .aload_n 0, 1), (1, .iload_n 1, 1), (2, .iload_n 2, 1), (3, .iload_n 3, 1), (4, .invokevirtual 139, 3), (7, .aload_n 0, 1), (8, .getfield 19, 3), (11, .getfield 146, 3), (14, .ireturn, 1)]
theorem tkX7_whyNotUpdate : ∀ e ∈ tbX7_whyNotUpdate, decode cX7_whyNotUpdate e.1 = .ok e.2 := by decide +kernel
abbrev tbX7_eventsOfUpdate : List (Nat × Instr × Nat) := [(0, .aload_n 0, 1), (1, .iload_n 1, 1), (2, .iload_n 2, 1), (3, .iload_n 3, 1), (4, .invokevirtual 139, 3), (7, .aload_n 0, 1), (8, .getfield 19, 3), (11, .getfield 146, 3), (14, .ifCond .ne 13, 3), (17, .aload_n 0, 1), (18, .getfield 19, 3), (21, .getfield 149, 3), (24, .goto 4, 3), (27, .iconst (-1), 1), (28, .ireturn, 1)]
theorem tkX7_eventsOfUpdate : ∀ e ∈ tbX7_eventsOfUpdate, decode cX7_eventsOfUpdate e.1 = .ok e.2 := by decide +kernel
abbrev tbX7_depthOfUpdate : List (Nat × Instr × Nat) := [(0, .aload_n 0, 1), (1, .iload_n 1, 1), (2, .iload_n 2, 1), (3, .iload_n 3, 1), (4, .invokevirtual 139, 3), (7, .aload_n 0, 1), (8, .getfield 19, 3), (11, .getfield 146, 3), (14, .ifCond .ne 13, 3), (17, .aload_n 0, 1), (18, .getfield 19, 3), (21, .getfield 152, 3), (24, .goto 4, 3), (27, .iconst (-1), 1), (28, .ireturn, 1)]
theorem tkX7_depthOfUpdate : ∀ e ∈ tbX7_depthOfUpdate, decode cX7_depthOfUpdate e.1 = .ok e.2 := by decide +kernel
abbrev tbX7_tryUpdate : List (Nat × Instr × Nat) := [(0, .iload_n 1, 1), (1, .invokestatic 125, 3), (4, .iload_n 2, 1), (5, .invokestatic 155, 3), (8, .iload_n 3, 1), (9, .invokestatic 128, 3), (12, .aload_n 0, 1), (13, .getfield 19, 3), (16, .aload_n 0, 1), (17, .getfield 10, 3), (20, .iload_n 1, 1), (21, .iload_n 2, 1), (22, .iload_n 3, 1), (23, .invokevirtual 158, 3), (26, .return_, 1)]
theorem tkX7_tryUpdate : ∀ e ∈ tbX7_tryUpdate, decode cX7_tryUpdate e.1 = .ok e.2 := by decide +kernel
abbrev tbX7_finishStatement : List (Nat × Instr × Nat) := [(0, .aload_n 0, 1), (1, .getfield 19, 3), (4, .getfield 146, 3), (7, .ifCond .eq 13, 3), (10, .new 70, 3), (13, .dup, 1), (14, .ldc 162, 2), (16, .invokespecial 74, 3), (19, .athrow, 1), (20, .aload_n 0, 1), (21, .getfield 40, 3), (24, .aload_n 0, 1), (25, .getfield 10, 3), (28, .invokevirtual 75, 3), (31, .aload_n 0, 1), (32, .getfield 10, 3), (35, .aload_n 0, 1), (36, .getfield 19, 3), (39, .getfield 164, 3), (42, .invokevirtual 167, 3), (45, .aload_n 0, 1), (46, .getfield 19, 3), (49, .getfield 149, 3), (52, .ireturn, 1)]
theorem tkX7_finishStatement : ∀ e ∈ tbX7_finishStatement, decode cX7_finishStatement e.1 = .ok e.2 := by decide +kernel
abbrev tbX7_hasRow : List (Nat × Instr × Nat) := [(0, .iload_n 1, 1), (1, .invokestatic 125, 3), (4, .aload_n 0, 1), (5, .getfield 10, 3), (8, .iload_n 1, 1), (9, .invokevirtual 170, 3), (12, .ireturn, 1)]
theorem tkX7_hasRow : ∀ e ∈ tbX7_hasRow, decode cX7_hasRow e.1 = .ok e.2 := by decide +kernel
abbrev tbX7_rowCount : List (Nat × Instr × Nat) := [(0, .aload_n 0, 1), (1, .getfield 10, 3), (4, .invokevirtual 173, 3), (7, .ireturn, 1)]
theorem tkX7_rowCount : ∀ e ∈ tbX7_rowCount, decode cX7_rowCount e.1 = .ok e.2 := by decide +kernel
abbrev tbX7_valueAt : List (Nat × Instr × Nat) := [(0, .iload_n 1, 1), (1, .invokestatic 125, 3), (4, .iload_n 2, 1), (5, .invokestatic 155, 3), (8, .aload_n 0, 1), (9, .getfield 10, 3), (12, .iload_n 1, 1), (13, .invokevirtual 170, 3), (16, .ifCond .ne 13, 3), (19, .new 70, 3), (22, .dup, 1), (23, .ldc 176, 2), (25, .invokespecial 74, 3), (28, .athrow, 1), (29, .aload_n 0, 1), (30, .getfield 10, 3), (33, .getfield 178, 3), (36, .iload_n 1, 1), (37, .iload_n 2, 1), (38, .invokestatic 182, 3), (41, .iaload, 1), (42, .ireturn, 1)]
theorem tkX7_valueAt : ∀ e ∈ tbX7_valueAt, decode cX7_valueAt e.1 = .ok e.2 := by decide +kernel
abbrev tbX7_sumOf : List (Nat × Instr × Nat) := [(0, .iload_n 1, 1), (1, .invokestatic 155, 3), (4, .iconst 0, 1), (5, .istore_n 2, 1), (6, .iconst 0, 1), (7, .istore_n 3, 1), (8, .iload_n 3, 1), (9, .bipush 6, 2), (11, .if_icmp .ge 36, 3), (14, .aload_n 0, 1), (15, .getfield 10, 3), (18, .iload_n 3, 1), (19, .invokevirtual 170, 3), (22, .ifCond .eq 19, 3), (25, .iload_n 2, 1), (26, .aload_n 0, 1), (27, .getfield 10, 3), (30, .getfield 178, 3), (33, .iload_n 3, 1), (34, .iload_n 1, 1), (35, .invokestatic 182, 3), (38, .iaload, 1), (39, .iadd, 1), (40, .istore_n 2, 1), (41, .iinc 3 1, 3), (44, .goto (-36), 3), (47, .iload_n 2, 1), (48, .ireturn, 1)]
theorem tkX7_sumOf : ∀ e ∈ tbX7_sumOf, decode cX7_sumOf e.1 = .ok e.2 := by decide +kernel
abbrev tbX7_ruleCount : List (Nat × Instr × Nat) := [(0, .aload_n 0, 1), (1, .getfield 10, 3), (4, .getfield 66, 3), (7, .ireturn, 1)]
theorem tkX7_ruleCount : ∀ e ∈ tbX7_ruleCount, decode cX7_ruleCount e.1 = .ok e.2 := by decide +kernel
abbrev tbX7_actionOf : List (Nat × Instr × Nat) := [(0, .aload_n 0, 1), (1, .iload_n 1, 1), (2, .invokevirtual 89, 3), (5, .aload_n 0, 1), (6, .getfield 10, 3), (9, .getfield 79, 3), (12, .iload_n 1, 1), (13, .aaload, 1), (14, .getfield 98, 3), (17, .ireturn, 1)]
theorem tkX7_actionOf : ∀ e ∈ tbX7_actionOf, decode cX7_actionOf e.1 = .ok e.2 := by decide +kernel
abbrev tbX7_isMuted : List (Nat × Instr × Nat) := [(0, .aload_n 0, 1), (1, .iload_n 1, 1), (2, .invokevirtual 89, 3), (5, .aload_n 0, 1), (6, .getfield 10, 3), (9, .getfield 79, 3), (12, .iload_n 1, 1), (13, .aaload, 1), (14, .getfield 110, 3), (17, .ireturn, 1)]
theorem tkX7_isMuted : ∀ e ∈ tbX7_isMuted, decode cX7_isMuted e.1 = .ok e.2 := by decide +kernel
abbrev tbX7_actsOf : List (Nat × Instr × Nat) := [(0, .aload_n 0, 1), (1, .iload_n 1, 1), (2, .invokevirtual 89, 3), (5, .aload_n 0, 1), (6, .getfield 10, 3), (9, .getfield 79, 3), (12, .iload_n 1, 1), (13, .aaload, 1), (14, .getfield 114, 3), (17, .ireturn, 1)]
theorem tkX7_actsOf : ∀ e ∈ tbX7_actsOf, decode cX7_actsOf e.1 = .ok e.2 := by decide +kernel
abbrev tbX7_eventCount : List (Nat × Instr × Nat) := [(0, .aload_n 0, 1), (1, .getfield 10, 3), (4, .getfield 186, 3), (7, .ireturn, 1)]
theorem tkX7_eventCount : ∀ e ∈ tbX7_eventCount, decode cX7_eventCount e.1 = .ok e.2 := by decide +kernel
abbrev tbX7_logSize : List (Nat × Instr × Nat) := [(0, .aload_n 0, 1), (1, .getfield 10, 3), (4, .getfield 187, 3), (7, .getfield 191, 3), (10, .ireturn, 1)]
theorem tkX7_logSize : ∀ e ∈ tbX7_logSize, decode cX7_logSize e.1 = .ok e.2 := by decide +kernel
abbrev tbX7_loggedRule : List (Nat × Instr × Nat) := [(0, .aload_n 0, 1), (1, .iload_n 1, 1), (2, .invokevirtual 196, 3), (5, .aload_n 0, 1), (6, .getfield 10, 3), (9, .getfield 187, 3), (12, .getfield 199, 3), (15, .aload_n 0, 1), (16, .getfield 10, 3), (19, .getfield 187, 3), (22, .iload_n 1, 1), (23, .invokevirtual 201, 3), (26, .iaload, 1), (27, .ireturn, 1)]
theorem tkX7_loggedRule : ∀ e ∈ tbX7_loggedRule, decode cX7_loggedRule e.1 = .ok e.2 := by decide +kernel
abbrev tbX7_loggedDepth : List (Nat × Instr × Nat) := [(0, .aload_n 0, 1), (1, .iload_n 1, 1), (2, .invokevirtual 196, 3), (5, .aload_n 0, 1), (6, .getfield 10, 3), (9, .getfield 187, 3), (12, .getfield 205, 3), (15, .aload_n 0, 1), (16, .getfield 10, 3), (19, .getfield 187, 3), (22, .iload_n 1, 1), (23, .invokevirtual 201, 3), (26, .iaload, 1), (27, .ireturn, 1)]
theorem tkX7_loggedDepth : ∀ e ∈ tbX7_loggedDepth, decode cX7_loggedDepth e.1 = .ok e.2 := by decide +kernel
abbrev tbX7_canSetOff : List (Nat × Instr × Nat) := [(0, .aload_n 0, 1), (1, .iload_n 1, 1), (2, .invokevirtual 89, 3), (5, .aload_n 0, 1), (6, .iload_n 2, 1), (7, .invokevirtual 89, 3), (10, .aload_n 0, 1), (11, .getfield 10, 3), (14, .getfield 79, 3), (17, .iload_n 1, 1), (18, .aaload, 1), (19, .aload_n 0, 1), (20, .getfield 10, 3), (23, .getfield 79, 3), (26, .iload_n 2, 1), (27, .aaload, 1), (28, .invokevirtual 208, 3), (31, .ireturn, 1)]
theorem tkX7_canSetOff : ∀ e ∈ tbX7_canSetOff, decode cX7_canSetOff e.1 = .ok e.2 := by decide +kernel
abbrev tbX7_reachOf : List (Nat × Instr × Nat) := [(0, .aload_n 0, 1), (1, .iload_n 1, 1), (2, .invokevirtual 89, 3), (5, .aload_n 0, 1), (6, .getfield 26, 3), (9, .aload_n 0, 1), (10, .getfield 10, 3), (13, .iload_n 1, 1), (14, .invokevirtual 212, 3), (17, .ireturn, 1)]
theorem tkX7_reachOf : ∀ e ∈ tbX7_reachOf, decode cX7_reachOf e.1 = .ok e.2 := by decide +kernel
abbrev tbX7_reachByTable : List (Nat × Instr × Nat) := [(0, .aload_n 0, 1), (1, .iload_n 1, 1), (2, .invokevirtual 89, 3), (5, .aload_n 0, 1), (6, .getfield 26, 3), (9, .aload_n 0, 1), (10, .getfield 10, 3), (13, .invokevirtual 216, 3), (16, .aload_n 0, 1), (17, .getfield 26, 3), (20, .getfield 219, 3), (23, .iload_n 1, 1), (24, .iaload, 1), (25, .ireturn, 1)]
theorem tkX7_reachByTable : ∀ e ∈ tbX7_reachByTable, decode cX7_reachByTable e.1 = .ok e.2 := by decide +kernel
abbrev tbX7_circularRules : List (Nat × Instr × Nat) := [(0, .aload_n 0, 1), (1, .getfield 26, 3), (4, .aload_n 0, 1), (5, .getfield 10, 3), (8, .invokevirtual 216, 3), (11, .iconst 0, 1), (12, .istore_n 1, 1), (13, .iconst 0, 1), (14, .istore_n 2, 1), (15, .iload_n 2, 1), (16, .aload_n 0, 1), (17, .getfield 10, 3), (20, .getfield 66, 3), (23, .if_icmp .ge 25, 3), (26, .iload_n 1, 1), (27, .aload_n 0, 1), (28, .getfield 26, 3), (31, .getfield 219, 3), (34, .iload_n 2, 1), (35, .iaload, 1), (36, .iconst 1, 1), (37, .iload_n 2, 1), (38, .ishl, 1), (39, .iand, 1), (40, .ior, 1), (41, .istore_n 1, 1), (42, .iinc 2 1, 3), (45, .goto (-30), 3), (48, .iload_n 1, 1), (49, .ireturn, 1)]
theorem tkX7_circularRules : ∀ e ∈ tbX7_circularRules, decode cX7_circularRules e.1 = .ok e.2 := by decide +kernel
abbrev tbX7_appendText : List (Nat × Instr × Nat) := [(0, .lload_n 1, 1), (1, .invokestatic 222, 3), (4, .istore_n 3, 1), (5, .iload_n 3, 1), (6, .iconst (-1), 1), (7, .if_icmp .ne 13, 3), (10, .new 59, 3), (13, .dup, 1), (14, .ldc 226, 2), (16, .invokespecial 63, 3), (19, .athrow, 1), (20, .aload_n 0, 1), (21, .getfield 33, 3), (24, .getfield 228, 3), (27, .iload_n 3, 1), (28, .iadd, 1), (29, .bipush 80, 2), (31, .if_icmp .le 13, 3), (34, .new 70, 3), (37, .dup, 1), (38, .ldc 231, 2), (40, .invokespecial 74, 3), (43, .athrow, 1), (44, .iload_n 3, 1), (45, .iconst 1, 1), (46, .isub, 1), (47, .istore 4, 2), (49, .iload 4, 2), (51, .ifCond .lt 23, 3), (54, .aload_n 0, 1), (55, .getfield 33, 3), (58, .lload_n 1, 1), (59, .iload 4, 2), (61, .invokestatic 233, 3), (64, .i2c, 1), (65, .invokevirtual 237, 3), (68, .iinc 4 (-1), 3), (71, .goto (-22), 3), (74, .aload_n 0, 1), (75, .getfield 33, 3), (78, .getfield 228, 3), (81, .ireturn, 1)]
theorem tkX7_appendText : ∀ e ∈ tbX7_appendText, decode cX7_appendText e.1 = .ok e.2 := by decide +kernel
abbrev tbX7_clearText : List (Nat × Instr × Nat) := [(0, .aload_n 0, 1), (1, .getfield 33, 3), (4, .getfield 228, 3), (7, .istore_n 1, 1), (8, .aload_n 0, 1), (9, .getfield 33, 3), (12, .iconst 0, 1), (13, .putfield 228, 3), (16, .iload_n 1, 1), (17, .ireturn, 1)]
theorem tkX7_clearText : ∀ e ∈ tbX7_clearText, decode cX7_clearText e.1 = .ok e.2 := by decide +kernel
abbrev tbX7_textLength : List (Nat × Instr × Nat) := [(0, .aload_n 0, 1), (1, .getfield 33, 3), (4, .getfield 228, 3), (7, .ireturn, 1)]
theorem tkX7_textLength : ∀ e ∈ tbX7_textLength, decode cX7_textLength e.1 = .ok e.2 := by decide +kernel
abbrev tbX7_textError : List (Nat × Instr × Nat) := [(0, .aload_n 0, 1), (1, .getfield 33, 3), (4, .invokevirtual 241, 3), (7, .ireturn, 1)]
theorem tkX7_textError : ∀ e ∈ tbX7_textError, decode cX7_textError e.1 = .ok e.2 := by decide +kernel
abbrev tbX7_runText : List (Nat × Instr × Nat) := [(0, .aload_n 0, 1), (1, .getfield 33, 3), (4, .invokevirtual 241, 3), (7, .iconst (-1), 1), (8, .if_icmp .eq 13, 3), (11, .new 70, 3), (14, .dup, 1), (15, .ldc 244, 2), (17, .invokespecial 74, 3), (20, .athrow, 1), (21, .aload_n 0, 1), (22, .getfield 40, 3), (25, .aload_n 0, 1), (26, .getfield 10, 3), (29, .invokevirtual 75, 3), (32, .iconst 0, 1), (33, .istore_n 1, 1), (34, .aload_n 0, 1), (35, .getfield 33, 3), (38, .iconst 0, 1), (39, .putfield 246, 3), (42, .iload_n 1, 1), (43, .bipush 80, 2), (45, .if_icmp .ge 36, 3), (48, .aload_n 0, 1), (49, .getfield 33, 3), (52, .invokevirtual 249, 3), (55, .ifCond .eq 26, 3), (58, .aload_n 0, 1), (59, .invokevirtual 253, 3), (62, .ifCond .eq 19, 3), (65, .iinc 1 1, 3), (68, .aload_n 0, 1), (69, .getfield 33, 3), (72, .bipush 59, 2), (74, .invokevirtual 256, 3), (77, .pop, 1), (78, .goto (-36), 3), (81, .aload_n 0, 1), (82, .getfield 33, 3), (85, .iconst 0, 1), (86, .putfield 228, 3), (89, .iload_n 1, 1), (90, .ireturn, 1)]
theorem tkX7_runText : ∀ e ∈ tbX7_runText, decode cX7_runText e.1 = .ok e.2 := by decide +kernel
abbrev tbX7_execute : List (Nat × Instr × Nat) := [(0, .aload_n 0, 1), (1, .getfield 33, 3), (4, .getfield 260, 3), (7, .iconst 0, 1), (8, .iaload, 1), (9, .istore_n 1, 1), (10, .aload_n 0, 1), (11, .getfield 33, 3), (14, .getfield 263, 3), (17, .bipush 105, 2), (19, .if_icmp .ne 45, 3), (22, .aload_n 0, 1), (23, .getfield 19, 3), (26, .aload_n 0, 1), (27, .getfield 10, 3), (30, .iload_n 1, 1), (31, .aload_n 0, 1), (32, .getfield 33, 3), (35, .getfield 260, 3), (38, .iconst 1, 1), (39, .iaload, 1), (40, .aload_n 0, 1), (41, .getfield 33, 3), (44, .getfield 260, 3), (47, .iconst 2, 1), (48, .iaload, 1), (49, .aload_n 0, 1), (50, .getfield 33, 3), (53, .getfield 260, 3), (56, .iconst 3, 1), (57, .iaload, 1), (58, .invokevirtual 131, 3), (61, .goto 60, 3), (64, .aload_n 0, 1), (65, .getfield 33, 3), (68, .getfield 263, 3), (71, .bipush 117, 2), (73, .if_icmp .ne 36, 3), (76, .aload_n 0, 1), (77, .getfield 19, 3), (80, .aload_n 0, 1), (81, .getfield 10, 3), (84, .iload_n 1, 1), (85, .aload_n 0, 1), (86, .getfield 33, 3), (89, .getfield 260, 3), (92, .iconst 1, 1), (93, .iaload, 1), (94, .aload_n 0, 1), (95, .getfield 33, 3), (98, .getfield 260, 3), (101, .iconst 2, 1), (102, .iaload, 1), (103, .invokevirtual 158, 3), (106, .goto 15, 3), (109, .aload_n 0, 1), (110, .getfield 19, 3), (113, .aload_n 0, 1), (114, .getfield 10, 3), (117, .iload_n 1, 1), (118, .invokevirtual 142, 3), (121, .aload_n 0, 1), (122, .getfield 19, 3), (125, .getfield 146, 3), (128, .ifCond .eq 5, 3), (131, .iconst 0, 1), (132, .ireturn, 1), (133, .aload_n 0, 1), (134, .getfield 10, 3), (137, .aload_n 0, 1), (138, .getfield 19, 3), (141, .getfield 164, 3), (144, .invokevirtual 167, 3), (147, .iconst 1, 1), (148, .ireturn, 1)]
theorem tkX7_execute : ∀ e ∈ tbX7_execute, decode cX7_execute e.1 = .ok e.2 := by decide +kernel
abbrev tbX7_codeOf : List (Nat × Instr × Nat) := [(0, .lload_n 0, 1), (1, .iload_n 2, 1), (2, .bipush 8, 2), (4, .imul, 1), (5, .lushr, 1), (6, .ldc2_w 267, 3), (9, .land, 1), (10, .l2i, 1), (11, .ireturn, 1)]
theorem tkX7_codeOf : ∀ e ∈ tbX7_codeOf, decode cX7_codeOf e.1 = .ok e.2 := by decide +kernel
abbrev tbX7_charactersIn : List (Nat × Instr × Nat) := [(0, .iconst 0, 1), (1, .istore_n 2, 1), (2, .iload_n 2, 1), (3, .bipush 8, 2), (5, .if_icmp .ge 37, 3), (8, .lload_n 0, 1), (9, .iload_n 2, 1), (10, .invokestatic 233, 3), (13, .ifCond .eq 29, 3), (16, .lload_n 0, 1), (17, .iload_n 2, 1), (18, .invokestatic 233, 3), (21, .istore_n 3, 1), (22, .iload_n 3, 1), (23, .bipush 33, 2), (25, .if_icmp .lt 9, 3), (28, .iload_n 3, 1), (29, .bipush 126, 2), (31, .if_icmp .le 5, 3), (34, .iconst (-1), 1), (35, .ireturn, 1), (36, .iinc 2 1, 3), (39, .goto (-37), 3), (42, .iload_n 2, 1), (43, .istore_n 3, 1), (44, .iload_n 3, 1), (45, .bipush 8, 2), (47, .if_icmp .ge 19, 3), (50, .lload_n 0, 1), (51, .iload_n 3, 1), (52, .invokestatic 233, 3), (55, .ifCond .eq 5, 3), (58, .iconst (-1), 1), (59, .ireturn, 1), (60, .iinc 3 1, 3), (63, .goto (-19), 3), (66, .iload_n 2, 1), (67, .ifCond .ne 7, 3), (70, .iconst (-1), 1), (71, .goto 4, 3), (74, .iload_n 2, 1), (75, .ireturn, 1)]
theorem tkX7_charactersIn : ∀ e ∈ tbX7_charactersIn, decode cX7_charactersIn e.1 = .ok e.2 := by decide +kernel
abbrev tbX7_undo : List (Nat × Instr × Nat) := [(0, .aload_n 0, 1), (1, .getfield 40, 3), (4, .getfield 269, 3), (7, .ifCond .ne 14, 3), (10, .new 70, 3), (13, .dup, 1), (14, .ldc_w 270, 3), (17, .invokespecial 74, 3), (20, .athrow, 1), (21, .aload_n 0, 1), (22, .getfield 40, 3), (25, .aload_n 0, 1), (26, .getfield 10, 3), (29, .invokevirtual 272, 3), (32, .aload_n 0, 1), (33, .getfield 40, 3), (36, .getfield 269, 3), (39, .ireturn, 1)]
theorem tkX7_undo : ∀ e ∈ tbX7_undo, decode cX7_undo e.1 = .ok e.2 := by decide +kernel
abbrev tbX7_undoCount : List (Nat × Instr × Nat) := [(0, .aload_n 0, 1), (1, .getfield 40, 3), (4, .getfield 269, 3), (7, .ireturn, 1)]
theorem tkX7_undoCount : ∀ e ∈ tbX7_undoCount, decode cX7_undoCount e.1 = .ok e.2 := by decide +kernel
abbrev tbX7_saveState : List (Nat × Instr × Nat) := [(0, .iload_n 1, 1), (1, .invokestatic 275, 3), (4, .aload_n 0, 1), (5, .getfield 44, 3), (8, .iload_n 1, 1), (9, .aaload, 1), (10, .aload_n 0, 1), (11, .getfield 10, 3), (14, .invokevirtual 167, 3), (17, .aload_n 0, 1), (18, .getfield 48, 3), (21, .iload_n 1, 1), (22, .iconst 1, 1), (23, .bastore, 1), (24, .aload_n 0, 1), (25, .getfield 10, 3), (28, .invokevirtual 173, 3), (31, .ireturn, 1)]
theorem tkX7_saveState : ∀ e ∈ tbX7_saveState, decode cX7_saveState e.1 = .ok e.2 := by decide +kernel
abbrev tbX7_loadState : List (Nat × Instr × Nat) := [(0, .iload_n 1, 1), (1, .invokestatic 275, 3), (4, .aload_n 0, 1), (5, .getfield 48, 3), (8, .iload_n 1, 1), (9, .baload, 1), (10, .ifCond .ne 14, 3), (13, .new 70, 3), (16, .dup, 1), (17, .ldc_w 278, 3), (20, .invokespecial 74, 3), (23, .athrow, 1), (24, .aload_n 0, 1), (25, .getfield 40, 3), (28, .aload_n 0, 1), (29, .getfield 10, 3), (32, .invokevirtual 75, 3), (35, .aload_n 0, 1), (36, .getfield 10, 3), (39, .aload_n 0, 1), (40, .getfield 44, 3), (43, .iload_n 1, 1), (44, .aaload, 1), (45, .invokevirtual 167, 3), (48, .aload_n 0, 1), (49, .getfield 10, 3), (52, .invokevirtual 173, 3), (55, .ireturn, 1)]
theorem tkX7_loadState : ∀ e ∈ tbX7_loadState, decode cX7_loadState e.1 = .ok e.2 := by decide +kernel
abbrev tbX7_isRow : List (Nat × Instr × Nat) := [(0, .iload_n 0, 1), (1, .ifCond .lt 13, 3), (4, .iload_n 0, 1), (5, .bipush 6, 2), (7, .if_icmp .ge 7, 3), (10, .iconst 1, 1), (11, .goto 4, 3), (14, .iconst 0, 1), (15, .ireturn, 1)]
theorem tkX7_isRow : ∀ e ∈ tbX7_isRow, decode cX7_isRow e.1 = .ok e.2 := by decide +kernel
abbrev tbX7_isColumn : List (Nat × Instr × Nat) := [(0, .iload_n 0, 1), (1, .ifCond .lt 12, 3), (4, .iload_n 0, 1), (5, .iconst 3, 1), (6, .if_icmp .ge 7, 3), (9, .iconst 1, 1), (10, .goto 4, 3), (13, .iconst 0, 1), (14, .ireturn, 1)]
theorem tkX7_isColumn : ∀ e ∈ tbX7_isColumn, decode cX7_isColumn e.1 = .ok e.2 := by decide +kernel
abbrev tbX7_isValue : List (Nat × Instr × Nat) := [(0, .iload_n 0, 1), (1, .ifCond .lt 14, 3), (4, .iload_n 0, 1), (5, .sipush 999, 3), (8, .if_icmp .gt 7, 3), (11, .iconst 1, 1), (12, .goto 4, 3), (15, .iconst 0, 1), (16, .ireturn, 1)]
theorem tkX7_isValue : ∀ e ∈ tbX7_isValue, decode cX7_isValue e.1 = .ok e.2 := by decide +kernel
abbrev tbX7_cell : List (Nat × Instr × Nat) := [(0, .iload_n 0, 1), (1, .iconst 3, 1), (2, .imul, 1), (3, .iload_n 1, 1), (4, .iadd, 1), (5, .ireturn, 1)]
theorem tkX7_cell : ∀ e ∈ tbX7_cell, decode cX7_cell e.1 = .ok e.2 := by decide +kernel
abbrev tbX7_checkRow : List (Nat × Instr × Nat) := [(0, .iload_n 0, 1), (1, .invokestatic 93, 3), (4, .ifCond .ne 14, 3), (7, .new 280, 3), (10, .dup, 1), (11, .ldc_w 282, 3), (14, .invokespecial 284, 3), (17, .athrow, 1), (18, .return_, 1)]
theorem tkX7_checkRow : ∀ e ∈ tbX7_checkRow, decode cX7_checkRow e.1 = .ok e.2 := by decide +kernel
abbrev tbX7_checkColumn : List (Nat × Instr × Nat) := [(0, .iload_n 0, 1), (1, .invokestatic 52, 3), (4, .ifCond .ne 14, 3), (7, .new 280, 3), (10, .dup, 1), (11, .ldc_w 285, 3), (14, .invokespecial 284, 3), (17, .athrow, 1), (18, .return_, 1)]
theorem tkX7_checkColumn : ∀ e ∈ tbX7_checkColumn, decode cX7_checkColumn e.1 = .ok e.2 := by decide +kernel
abbrev tbX7_checkValue : List (Nat × Instr × Nat) := [(0, .iload_n 0, 1), (1, .invokestatic 56, 3), (4, .ifCond .ne 14, 3), (7, .new 59, 3), (10, .dup, 1), (11, .ldc_w 287, 3), (14, .invokespecial 63, 3), (17, .athrow, 1), (18, .return_, 1)]
theorem tkX7_checkValue : ∀ e ∈ tbX7_checkValue, decode cX7_checkValue e.1 = .ok e.2 := by decide +kernel
abbrev tbX7_checkRule : List (Nat × Instr × Nat) := [(0, .iload_n 1, 1), (1, .ifCond .lt 14, 3), (4, .iload_n 1, 1), (5, .aload_n 0, 1), (6, .getfield 10, 3), (9, .getfield 66, 3), (12, .if_icmp .lt 14, 3), (15, .new 280, 3), (18, .dup, 1), (19, .ldc_w 289, 3), (22, .invokespecial 284, 3), (25, .athrow, 1), (26, .return_, 1)]
theorem tkX7_checkRule : ∀ e ∈ tbX7_checkRule, decode cX7_checkRule e.1 = .ok e.2 := by decide +kernel
abbrev tbX7_checkAgo : List (Nat × Instr × Nat) := [(0, .iload_n 1, 1), (1, .ifCond .lt 17, 3), (4, .iload_n 1, 1), (5, .aload_n 0, 1), (6, .getfield 10, 3), (9, .getfield 187, 3), (12, .getfield 191, 3), (15, .if_icmp .lt 14, 3), (18, .new 280, 3), (21, .dup, 1), (22, .ldc_w 291, 3), (25, .invokespecial 284, 3), (28, .athrow, 1), (29, .return_, 1)]
theorem tkX7_checkAgo : ∀ e ∈ tbX7_checkAgo, decode cX7_checkAgo e.1 = .ok e.2 := by decide +kernel
abbrev tbX7_checkSlot : List (Nat × Instr × Nat) := [(0, .iload_n 0, 1), (1, .ifCond .lt 8, 3), (4, .iload_n 0, 1), (5, .iconst 2, 1), (6, .if_icmp .lt 14, 3), (9, .new 280, 3), (12, .dup, 1), (13, .ldc_w 293, 3), (16, .invokespecial 284, 3), (19, .athrow, 1), (20, .return_, 1)]
theorem tkX7_checkSlot : ∀ e ∈ tbX7_checkSlot, decode cX7_checkSlot e.1 = .ok e.2 := by decide +kernel
abbrev tbX8_init : List (Nat × Instr × Nat) := [(0, .aload_n 0, 1), (1, .invokespecial 1, 3), (4, .aload_n 0, 1), (5, .sipush 132, 3), (8, .newarray .int, 2), (10, .putfield 7, 3), (13, .aload_n 0, 1), (14, .sipush 132, 3), (17, .newarray .int, 2), (19, .putfield 13, 3), (22, .aload_n 0, 1), (23, .sipush 792, 3), (26, .newarray .int, 2), (28, .putfield 16, 3), (31, .aload_n 0, 1), (32, .sipush 264, 3), (35, .newarray .int, 2), (37, .putfield 19, 3), (40, .aload_n 0, 1), (41, .bipush 80, 2), (43, .newarray .int, 2), (45, .putfield 22, 3), (48, .aload_n 0, 1), (49, .bipush 6, 2), (51, .newarray .int, 2), (53, .putfield 25, 3), (56, .aload_n 0, 1), (57, .getfield 7, 3), (60, .bipush 24, 2), (62, .iconst 3, 1), (63, .iastore, 1), (64, .return_, 1)]
theorem tkX8_init : ∀ e ∈ tbX8_init, decode cX8_init e.1 = .ok e.2 := by decide +kernel
abbrev tbX8_thrown : List (Nat × Instr × Nat) := [(0, .aload_n 0, 1), (1, .getfield 28, 3), (4, .ireturn, 1)]
theorem tkX8_thrown : ∀ e ∈ tbX8_thrown, decode cX8_thrown e.1 = .ok e.2 := by decide +kernel
abbrev tbX8_in : List (Nat × Instr × Nat) := [(0, .iload_n 0, 1), (1, .iload_n 1, 1), (2, .if_icmp .lt 12, 3), (5, .iload_n 0, 1), (6, .iload_n 2, 1), (7, .if_icmp .gt 7, 3), (10, .iconst 1, 1), (11, .goto 4, 3), (14, .iconst 0, 1), (15, .ireturn, 1)]
theorem tkX8_in : ∀ e ∈ tbX8_in, decode cX8_in e.1 = .ok e.2 := by decide +kernel
abbrev tbX8_holds : List (Nat × Instr × Nat) := [(0, .aload_n 0, 1), (1, .iload_n 1, 1), (2, .putfield 28, 3), (5, .iload_n 1, 1), (6, .ifCond .ne 7, 3), (9, .iconst 1, 1), (10, .goto 4, 3), (13, .iconst 0, 1), (14, .ireturn, 1)]
theorem tkX8_holds : ∀ e ∈ tbX8_holds, decode cX8_holds e.1 = .ok e.2 := by decide +kernel
abbrev tbX8_isRow : List (Nat × Instr × Nat) := [(0, .iload_n 0, 1), (1, .iconst 0, 1), (2, .iconst 5, 1), (3, .invokestatic 32, 3), (6, .ireturn, 1)]
theorem tkX8_isRow : ∀ e ∈ tbX8_isRow, decode cX8_isRow e.1 = .ok e.2 := by decide +kernel
abbrev tbX8_isColumn : List (Nat × Instr × Nat) := [(0, .iload_n 0, 1), (1, .iconst 0, 1), (2, .iconst 2, 1), (3, .invokestatic 32, 3), (6, .ireturn, 1)]
theorem tkX8_isColumn : ∀ e ∈ tbX8_isColumn, decode cX8_isColumn e.1 = .ok e.2 := by decide +kernel
abbrev tbX8_isValue : List (Nat × Instr × Nat) := [(0, .iload_n 0, 1), (1, .iconst 0, 1), (2, .sipush 999, 3), (5, .invokestatic 32, 3), (8, .ireturn, 1)]
theorem tkX8_isValue : ∀ e ∈ tbX8_isValue, decode cX8_isValue e.1 = .ok e.2 := by decide +kernel
abbrev tbX8_isRule : List (Nat × Instr × Nat) := [(0, .iload_n 1, 1), (1, .iconst 0, 1), (2, .aload_n 0, 1), (3, .getfield 7, 3), (6, .bipush 25, 2), (8, .iaload, 1), (9, .iconst 1, 1), (10, .isub, 1), (11, .invokestatic 32, 3), (14, .ireturn, 1)]
theorem tkX8_isRule : ∀ e ∈ tbX8_isRule, decode cX8_isRule e.1 = .ok e.2 := by decide +kernel
abbrev tbX8_of : List (Nat × Instr × Nat) := [(0, .bipush 6, 2), (2, .iconst 3, 1), (3, .iload_n 0, 1), (4, .imul, 1), (5, .iadd, 1), (6, .iload_n 1, 1), (7, .iadd, 1), (8, .ireturn, 1)]
theorem tkX8_of : ∀ e ∈ tbX8_of, decode cX8_of e.1 = .ok e.2 := by decide +kernel
abbrev tbX8_at : List (Nat × Instr × Nat) := [(0, .aload_n 0, 1), (1, .getfield 7, 3), (4, .bipush 26, 2), (6, .bipush 9, 2), (8, .iload_n 1, 1), (9, .imul, 1), (10, .iadd, 1), (11, .iload_n 2, 1), (12, .iadd, 1), (13, .iaload, 1), (14, .ireturn, 1)]
theorem tkX8_at : ∀ e ∈ tbX8_at, decode cX8_at e.1 = .ok e.2 := by decide +kernel
abbrev tbX8_recordAside : List (Nat × Instr × Nat) := [(0, .aload_n 0, 1), (1, .getfield 36, 3), (4, .bipush 6, 2), (6, .if_icmp .ne 44, 3), (9, .iconst 0, 1), (10, .istore_n 1, 1), (11, .iload_n 1, 1), (12, .sipush 660, 3), (15, .if_icmp .ge 25, 3), (18, .aload_n 0, 1), (19, .getfield 16, 3), (22, .iload_n 1, 1), (23, .aload_n 0, 1), (24, .getfield 16, 3), (27, .iload_n 1, 1), (28, .sipush 132, 3), (31, .iadd, 1), (32, .iaload, 1), (33, .iastore, 1), (34, .iinc 1 1, 3), (37, .goto (-26), 3), (40, .aload_n 0, 1), (41, .dup, 1), (42, .getfield 36, 3), (45, .iconst 1, 1), (46, .isub, 1), (47, .putfield 36, 3), (50, .iconst 0, 1), (51, .istore_n 1, 1), (52, .iload_n 1, 1), (53, .sipush 132, 3), (56, .if_icmp .ge 30, 3), (59, .aload_n 0, 1), (60, .getfield 16, 3), (63, .sipush 132, 3), (66, .aload_n 0, 1), (67, .getfield 36, 3), (70, .imul, 1), (71, .iload_n 1, 1), (72, .iadd, 1), (73, .aload_n 0, 1), (74, .getfield 13, 3), (77, .iload_n 1, 1), (78, .iaload, 1), (79, .iastore, 1), (80, .iinc 1 1, 3), (83, .goto (-31), 3), (86, .aload_n 0, 1), (87, .dup, 1), (88, .getfield 36, 3), (91, .iconst 1, 1), (92, .iadd, 1), (93, .putfield 36, 3), (96, .return_, 1)]
theorem tkX8_recordAside : ∀ e ∈ tbX8_recordAside, decode cX8_recordAside e.1 = .ok e.2 := by decide +kernel
abbrev tbX8_putAside : List (Nat × Instr × Nat) := [(0, .iconst 0, 1), (1, .istore_n 1, 1), (2, .iload_n 1, 1), (3, .sipush 132, 3), (6, .if_icmp .ge 21, 3), (9, .aload_n 0, 1), (10, .getfield 13, 3), (13, .iload_n 1, 1), (14, .aload_n 0, 1), (15, .getfield 7, 3), (18, .iload_n 1, 1), (19, .iaload, 1), (20, .iastore, 1), (21, .iinc 1 1, 3), (24, .goto (-22), 3), (27, .return_, 1)]
theorem tkX8_putAside : ∀ e ∈ tbX8_putAside, decode cX8_putAside e.1 = .ok e.2 := by decide +kernel
abbrev tbX8_putBack : List (Nat × Instr × Nat) := [(0, .iconst 0, 1), (1, .istore_n 1, 1), (2, .iload_n 1, 1), (3, .sipush 132, 3), (6, .if_icmp .ge 21, 3), (9, .aload_n 0, 1), (10, .getfield 7, 3), (13, .iload_n 1, 1), (14, .aload_n 0, 1), (15, .getfield 13, 3), (18, .iload_n 1, 1), (19, .iaload, 1), (20, .iastore, 1), (21, .iinc 1 1, 3), (24, .goto (-22), 3), (27, .return_, 1)]
theorem tkX8_putBack : ∀ e ∈ tbX8_putBack, decode cX8_putBack e.1 = .ok e.2 := by decide +kernel
abbrev tbX8_record : List (Nat × Instr × Nat) := [(0, .aload_n 0, 1), (1, .invokevirtual 39, 3), (4, .aload_n 0, 1), (5, .invokevirtual 42, 3), (8, .return_, 1)]
theorem tkX8_record : ∀ e ∈ tbX8_record, decode cX8_record e.1 = .ok e.2 := by decide +kernel
abbrev tbX8_rowsNow : List (Nat × Instr × Nat) := [(0, .iconst 0, 1), (1, .istore_n 1, 1), (2, .iconst 0, 1), (3, .istore_n 2, 1), (4, .iload_n 2, 1), (5, .bipush 6, 2), (7, .if_icmp .ge 20, 3), (10, .iload_n 1, 1), (11, .aload_n 0, 1), (12, .getfield 7, 3), (15, .iconst 0, 1), (16, .iload_n 2, 1), (17, .iadd, 1), (18, .iaload, 1), (19, .iadd, 1), (20, .istore_n 1, 1), (21, .iinc 2 1, 3), (24, .goto (-20), 3), (27, .iload_n 1, 1), (28, .ireturn, 1)]
theorem tkX8_rowsNow : ∀ e ∈ tbX8_rowsNow, decode cX8_rowsNow e.1 = .ok e.2 := by decide +kernel
abbrev tbX8_matching : List (Nat × Instr × Nat) := [(0, .iconst 0, 1), (1, .istore 6, 2), (3, .iconst 0, 1), (4, .istore 7, 2), (6, .iload 7, 2), (8, .aload_n 0, 1), (9, .getfield 7, 3), (12, .bipush 25, 2), (14, .iaload, 1), (15, .if_icmp .ge 132, 3), (18, .aload_n 0, 1), (19, .iload 7, 2), (21, .iconst 1, 1), (22, .invokevirtual 45, 3), (25, .istore 8, 2), (27, .iload_n 1, 1), (28, .iconst 1, 1), (29, .if_icmp .ne 8, 3), (32, .iload 4, 2), (34, .goto 14, 3), (37, .aload_n 0, 1), (38, .getfield 7, 3), (41, .iload_n 2, 1), (42, .iload 8, 2), (44, .invokestatic 49, 3), (47, .iaload, 1), (48, .istore 9, 2), (50, .aload_n 0, 1), (51, .iload 7, 2), (53, .bipush 7, 2), (55, .invokevirtual 45, 3), (58, .ifCond .ne 41, 3), (61, .aload_n 0, 1), (62, .iload 7, 2), (64, .iconst 0, 1), (65, .invokevirtual 45, 3), (68, .iload_n 1, 1), (69, .if_icmp .ne 30, 3), (72, .iload_n 1, 1), (73, .iconst 1, 1), (74, .if_icmp .ne 9, 3), (77, .iload 8, 2), (79, .iload_n 3, 1), (80, .if_icmp .ne 19, 3), (83, .iload 9, 2), (85, .aload_n 0, 1), (86, .iload 7, 2), (88, .iconst 2, 1), (89, .invokevirtual 45, 3), (92, .if_icmp .lt 7, 3), (95, .iconst 1, 1), (96, .goto 4, 3), (99, .iconst 0, 1), (100, .istore 10, 2), (102, .iload 6, 2), (104, .iload 10, 2), (106, .ifCond .eq 31, 3), (109, .aload_n 0, 1), (110, .iload 7, 2), (112, .iconst 3, 1), (113, .invokevirtual 45, 3), (116, .iconst 1, 1), (117, .if_icmp .ne 7, 3), (120, .iconst 1, 1), (121, .goto 4, 3), (124, .iconst 0, 1), (125, .iload 5, 2), (127, .if_icmp .ne 10, 3), (130, .iconst 1, 1), (131, .iload 7, 2), (133, .ishl, 1), (134, .goto 4, 3), (137, .iconst 0, 1), (138, .ior, 1), (139, .istore 6, 2), (141, .iinc 7 1, 3), (144, .goto (-138), 3), (147, .iload 6, 2), (149, .ireturn, 1)]
theorem tkX8_matching : ∀ e ∈ tbX8_matching, decode cX8_matching e.1 = .ok e.2 := by decide +kernel
abbrev tbX8_begins : List (Nat × Instr × Nat) := [(0, .aload_n 0, 1), (1, .iload 5, 2), (3, .aload_n 0, 1), (4, .getfield 7, 3), (7, .bipush 24, 2), (9, .iaload, 1), (10, .if_icmp .le 7, 3), (13, .iconst 3, 1), (14, .goto 34, 3), (17, .aload_n 0, 1), (18, .getfield 52, 3), (21, .bipush 100, 2), (23, .if_icmp .ne 7, 3), (26, .iconst 4, 1), (27, .goto 21, 3), (30, .aload_n 0, 1), (31, .iload_n 1, 1), (32, .iload_n 2, 1), (33, .iload_n 3, 1), (34, .iload 4, 2), (36, .iconst 1, 1), (37, .invokevirtual 55, 3), (40, .ifCond .eq 7, 3), (43, .iconst 5, 1), (44, .goto 4, 3), (47, .iconst 0, 1), (48, .putfield 59, 3), (51, .aload_n 0, 1), (52, .getfield 59, 3), (55, .ifCond .le 5, 3), (58, .iconst 0, 1), (59, .ireturn, 1), (60, .aload_n 0, 1), (61, .getfield 25, 3), (64, .iload 5, 2), (66, .aload_n 0, 1), (67, .iload_n 1, 1), (68, .iload_n 2, 1), (69, .iload_n 3, 1), (70, .iload 4, 2), (72, .iconst 0, 1), (73, .invokevirtual 55, 3), (76, .iastore, 1), (77, .aload_n 0, 1), (78, .iload 5, 2), (80, .putfield 62, 3), (83, .aload_n 0, 1), (84, .iload 5, 2), (86, .aload_n 0, 1), (87, .getfield 65, 3), (90, .if_icmp .le 8, 3), (93, .iload 5, 2), (95, .goto 7, 3), (98, .aload_n 0, 1), (99, .getfield 65, 3), (102, .putfield 65, 3), (105, .aload_n 0, 1), (106, .dup, 1), (107, .getfield 52, 3), (110, .iconst 1, 1), (111, .iadd, 1), (112, .putfield 52, 3), (115, .iload_n 1, 1), (116, .iconst 1, 1), (117, .if_icmp .ne 18, 3), (120, .aload_n 0, 1), (121, .getfield 7, 3), (124, .iload_n 2, 1), (125, .iload_n 3, 1), (126, .invokestatic 49, 3), (129, .iload 4, 2), (131, .iastore, 1), (132, .goto 20, 3), (135, .aload_n 0, 1), (136, .getfield 7, 3), (139, .iconst 0, 1), (140, .iload_n 2, 1), (141, .iadd, 1), (142, .iload_n 1, 1), (143, .ifCond .ne 7, 3), (146, .iconst 1, 1), (147, .goto 4, 3), (150, .iconst 0, 1), (151, .iastore, 1), (152, .iconst 1, 1), (153, .ireturn, 1)]
theorem tkX8_begins : ∀ e ∈ tbX8_begins, decode cX8_begins e.1 = .ok e.2 := by decide +kernel
abbrev tbX8_logs : List (Nat × Instr × Nat) := [(0, .aload_n 0, 1), (1, .getfield 7, 3), (4, .bipush 99, 2), (6, .iaload, 1), (7, .bipush 16, 2), (9, .if_icmp .ne 8, 3), (12, .bipush 15, 2), (14, .goto 10, 3), (17, .aload_n 0, 1), (18, .getfield 7, 3), (21, .bipush 99, 2), (23, .iaload, 1), (24, .istore_n 2, 1), (25, .iload_n 2, 1), (26, .istore_n 3, 1), (27, .iload_n 3, 1), (28, .ifCond .le 49, 3), (31, .aload_n 0, 1), (32, .getfield 7, 3), (35, .bipush 100, 2), (37, .iload_n 3, 1), (38, .iadd, 1), (39, .aload_n 0, 1), (40, .getfield 7, 3), (43, .bipush 100, 2), (45, .iload_n 3, 1), (46, .iadd, 1), (47, .iconst 1, 1), (48, .isub, 1), (49, .iaload, 1), (50, .iastore, 1), (51, .aload_n 0, 1), (52, .getfield 7, 3), (55, .bipush 116, 2), (57, .iload_n 3, 1), (58, .iadd, 1), (59, .aload_n 0, 1), (60, .getfield 7, 3), (63, .bipush 116, 2), (65, .iload_n 3, 1), (66, .iadd, 1), (67, .iconst 1, 1), (68, .isub, 1), (69, .iaload, 1), (70, .iastore, 1), (71, .iinc 3 (-1), 3), (74, .goto (-47), 3), (77, .aload_n 0, 1), (78, .getfield 7, 3), (81, .bipush 100, 2), (83, .iload_n 1, 1), (84, .iastore, 1), (85, .aload_n 0, 1), (86, .getfield 7, 3), (89, .bipush 116, 2), (91, .aload_n 0, 1), (92, .getfield 62, 3), (95, .iastore, 1), (96, .aload_n 0, 1), (97, .getfield 7, 3), (100, .bipush 99, 2), (102, .iload_n 2, 1), (103, .iconst 1, 1), (104, .iadd, 1), (105, .iastore, 1), (106, .aload_n 0, 1), (107, .getfield 7, 3), (110, .bipush 26, 2), (112, .bipush 9, 2), (114, .iload_n 1, 1), (115, .imul, 1), (116, .iadd, 1), (117, .bipush 8, 2), (119, .iadd, 1), (120, .dup2, 1), (121, .iaload, 1), (122, .iconst 1, 1), (123, .iadd, 1), (124, .iastore, 1), (125, .return_, 1)]
theorem tkX8_logs : ∀ e ∈ tbX8_logs, decode cX8_logs e.1 = .ok e.2 := by decide +kernel
abbrev tbX8_acts : List (Nat × Instr × Nat) := [(0, .aload_n 0, 1), (1, .iload_n 1, 1), (2, .iconst 3, 1), (3, .invokevirtual 45, 3), (6, .istore_n 2, 1), (7, .aload_n 0, 1), (8, .iload_n 1, 1), (9, .iconst 4, 1), (10, .invokevirtual 45, 3), (13, .istore_n 3, 1), (14, .aload_n 0, 1), (15, .iload_n 1, 1), (16, .invokevirtual 68, 3), (19, .iload_n 2, 1), (20, .ifCond .eq 14, 3), (23, .aload_n 0, 1), (24, .getfield 7, 3), (27, .iconst 0, 1), (28, .iload_n 3, 1), (29, .iadd, 1), (30, .iaload, 1), (31, .ifCond .ne 5, 3), (34, .iconst 1, 1), (35, .ireturn, 1), (36, .iload_n 2, 1), (37, .iconst 3, 1), (38, .if_icmp .ne 18, 3), (41, .aload_n 0, 1), (42, .iconst 2, 1), (43, .iload_n 3, 1), (44, .iconst 0, 1), (45, .iconst 0, 1), (46, .aload_n 0, 1), (47, .getfield 62, 3), (50, .iconst 1, 1), (51, .iadd, 1), (52, .invokevirtual 72, 3), (55, .ireturn, 1), (56, .aload_n 0, 1), (57, .iload_n 1, 1), (58, .iconst 5, 1), (59, .invokevirtual 45, 3), (62, .istore 4, 2), (64, .aload_n 0, 1), (65, .getfield 7, 3), (68, .iload_n 3, 1), (69, .iload 4, 2), (71, .invokestatic 49, 3), (74, .iaload, 1), (75, .aload_n 0, 1), (76, .iload_n 1, 1), (77, .bipush 6, 2), (79, .invokevirtual 45, 3), (82, .iadd, 1), (83, .istore 5, 2), (85, .iload 5, 2), (87, .invokestatic 76, 3), (90, .ifCond .ne 10, 3), (93, .aload_n 0, 1), (94, .iconst 2, 1), (95, .putfield 59, 3), (98, .iconst 0, 1), (99, .ireturn, 1), (100, .iload 5, 2), (102, .aload_n 0, 1), (103, .getfield 7, 3), (106, .iload_n 3, 1), (107, .iload 4, 2), (109, .invokestatic 49, 3), (112, .iaload, 1), (113, .if_icmp .eq 22, 3), (116, .aload_n 0, 1), (117, .iconst 1, 1), (118, .iload_n 3, 1), (119, .iload 4, 2), (121, .iload 5, 2), (123, .aload_n 0, 1), (124, .getfield 62, 3), (127, .iconst 1, 1), (128, .iadd, 1), (129, .invokevirtual 72, 3), (132, .ifCond .eq 7, 3), (135, .iconst 1, 1), (136, .goto 4, 3), (139, .iconst 0, 1), (140, .ireturn, 1)]
theorem tkX8_acts : ∀ e ∈ tbX8_acts, decode cX8_acts e.1 = .ok e.2 := by decide +kernel
abbrev tbX8_follows : List (Nat × Instr × Nat) := [(0, .aload_n 0, 1), (1, .getfield 62, 3), (4, .ifCond .lt 82, 3), (7, .aload_n 0, 1), (8, .getfield 25, 3), (11, .aload_n 0, 1), (12, .getfield 62, 3), (15, .iaload, 1), (16, .ifCond .ne 16, 3), (19, .aload_n 0, 1), (20, .dup, 1), (21, .getfield 62, 3), (24, .iconst 1, 1), (25, .isub, 1), (26, .putfield 62, 3), (29, .goto (-29), 3), (32, .iconst 0, 1), (33, .istore_n 1, 1), (34, .aload_n 0, 1), (35, .getfield 25, 3), (38, .aload_n 0, 1), (39, .getfield 62, 3), (42, .iaload, 1), (43, .iload_n 1, 1), (44, .ishr, 1), (45, .iconst 1, 1), (46, .iand, 1), (47, .ifCond .ne 9, 3), (50, .iinc 1 1, 3), (53, .goto (-19), 3), (56, .aload_n 0, 1), (57, .getfield 25, 3), (60, .aload_n 0, 1), (61, .getfield 62, 3), (64, .dup2, 1), (65, .iaload, 1), (66, .iconst 1, 1), (67, .iload_n 1, 1), (68, .ishl, 1), (69, .iconst (-1), 1), (70, .ixor, 1), (71, .iand, 1), (72, .iastore, 1), (73, .aload_n 0, 1), (74, .iload_n 1, 1), (75, .invokevirtual 80, 3), (78, .ifCond .ne 5, 3), (81, .iconst 0, 1), (82, .ireturn, 1), (83, .goto (-83), 3), (86, .iconst 1, 1), (87, .ireturn, 1)]
theorem tkX8_follows : ∀ e ∈ tbX8_follows, decode cX8_follows e.1 = .ok e.2 := by decide +kernel
abbrev tbX8_states : List (Nat × Instr × Nat) := [(0, .aload_n 0, 1), (1, .iconst 0, 1), (2, .putfield 52, 3), (5, .aload_n 0, 1), (6, .iconst (-1), 1), (7, .putfield 65, 3), (10, .aload_n 0, 1), (11, .iconst 0, 1), (12, .putfield 59, 3), (15, .aload_n 0, 1), (16, .iconst (-1), 1), (17, .putfield 62, 3), (20, .aload_n 0, 1), (21, .iload_n 1, 1), (22, .iload_n 2, 1), (23, .iload_n 3, 1), (24, .iload 4, 2), (26, .iconst 0, 1), (27, .invokevirtual 72, 3), (30, .ifCond .eq 14, 3), (33, .aload_n 0, 1), (34, .invokevirtual 83, 3), (37, .ifCond .eq 7, 3), (40, .iconst 1, 1), (41, .goto 4, 3), (44, .iconst 0, 1), (45, .istore 5, 2), (47, .iload 5, 2), (49, .ifCond .eq 20, 3), (52, .aload_n 0, 1), (53, .getfield 7, 3), (56, .bipush 98, 2), (58, .dup2, 1), (59, .iaload, 1), (60, .aload_n 0, 1), (61, .getfield 52, 3), (64, .iadd, 1), (65, .iastore, 1), (66, .goto 7, 3), (69, .aload_n 0, 1), (70, .invokevirtual 87, 3), (73, .iload 5, 2), (75, .ireturn, 1)]
theorem tkX8_states : ∀ e ∈ tbX8_states, decode cX8_states e.1 = .ok e.2 := by decide +kernel
abbrev tbX8_inserts : List (Nat × Instr × Nat) := [(0, .aload_n 0, 1), (1, .invokevirtual 39, 3), (4, .aload_n 0, 1), (5, .getfield 7, 3), (8, .iconst 0, 1), (9, .iload_n 1, 1), (10, .iadd, 1), (11, .iaload, 1), (12, .iconst 1, 1), (13, .if_icmp .ne 5, 3), (16, .iconst 0, 1), (17, .ireturn, 1), (18, .aload_n 0, 1), (19, .getfield 7, 3), (22, .iload_n 1, 1), (23, .iconst 0, 1), (24, .invokestatic 49, 3), (27, .iload_n 2, 1), (28, .iastore, 1), (29, .aload_n 0, 1), (30, .getfield 7, 3), (33, .iload_n 1, 1), (34, .iconst 1, 1), (35, .invokestatic 49, 3), (38, .iload_n 3, 1), (39, .iastore, 1), (40, .aload_n 0, 1), (41, .getfield 7, 3), (44, .iload_n 1, 1), (45, .iconst 2, 1), (46, .invokestatic 49, 3), (49, .iload 4, 2), (51, .iastore, 1), (52, .aload_n 0, 1), (53, .iconst 0, 1), (54, .iload_n 1, 1), (55, .iconst 0, 1), (56, .iconst 0, 1), (57, .invokevirtual 90, 3), (60, .ireturn, 1)]
theorem tkX8_inserts : ∀ e ∈ tbX8_inserts, decode cX8_inserts e.1 = .ok e.2 := by decide +kernel
abbrev tbX8_updates : List (Nat × Instr × Nat) := [(0, .aload_n 0, 1), (1, .invokevirtual 39, 3), (4, .aload_n 0, 1), (5, .iconst 0, 1), (6, .putfield 52, 3), (9, .aload_n 0, 1), (10, .iconst (-1), 1), (11, .putfield 65, 3), (14, .aload_n 0, 1), (15, .aload_n 0, 1), (16, .getfield 7, 3), (19, .iconst 0, 1), (20, .iload_n 1, 1), (21, .iadd, 1), (22, .iaload, 1), (23, .ifCond .ne 7, 3), (26, .iconst 1, 1), (27, .goto 4, 3), (30, .iconst 0, 1), (31, .putfield 59, 3), (34, .aload_n 0, 1), (35, .getfield 59, 3), (38, .ifCond .ne 32, 3), (41, .aload_n 0, 1), (42, .getfield 7, 3), (45, .iload_n 1, 1), (46, .iload_n 2, 1), (47, .invokestatic 49, 3), (50, .iaload, 1), (51, .iload_n 3, 1), (52, .if_icmp .eq 14, 3), (55, .aload_n 0, 1), (56, .iconst 1, 1), (57, .iload_n 1, 1), (58, .iload_n 2, 1), (59, .iload_n 3, 1), (60, .invokevirtual 90, 3), (63, .ifCond .eq 7, 3), (66, .iconst 1, 1), (67, .goto 4, 3), (70, .iconst 0, 1), (71, .ireturn, 1)]
theorem tkX8_updates : ∀ e ∈ tbX8_updates, decode cX8_updates e.1 = .ok e.2 := by decide +kernel
abbrev tbX8_removes : List (Nat × Instr × Nat) := [(0, .aload_n 0, 1), (1, .invokevirtual 39, 3), (4, .aload_n 0, 1), (5, .getfield 7, 3), (8, .iconst 0, 1), (9, .iload_n 1, 1), (10, .iadd, 1), (11, .iaload, 1), (12, .iconst 1, 1), (13, .if_icmp .ne 18, 3), (16, .aload_n 0, 1), (17, .iconst 2, 1), (18, .iload_n 1, 1), (19, .iconst 0, 1), (20, .iconst 0, 1), (21, .invokevirtual 90, 3), (24, .ifCond .eq 7, 3), (27, .iconst 1, 1), (28, .goto 4, 3), (31, .iconst 0, 1), (32, .ireturn, 1)]
theorem tkX8_removes : ∀ e ∈ tbX8_removes, decode cX8_removes e.1 = .ok e.2 := by decide +kernel
abbrev tbX8_addRule : List (Nat × Instr × Nat) := [(0, .aload_n 0, 1), (1, .iload_n 1, 1), (2, .iconst 0, 1), (3, .iconst 2, 1), (4, .invokestatic 32, 3), (7, .ifCond .eq 17, 3), (10, .iload_n 2, 1), (11, .invokestatic 94, 3), (14, .ifCond .eq 10, 3), (17, .iload_n 3, 1), (18, .invokestatic 76, 3), (21, .ifCond .ne 7, 3), (24, .iconst 1, 1), (25, .goto 20, 3), (28, .aload_n 0, 1), (29, .getfield 7, 3), (32, .bipush 25, 2), (34, .iaload, 1), (35, .bipush 8, 2), (37, .if_icmp .ne 7, 3), (40, .iconst 2, 1), (41, .goto 4, 3), (44, .iconst 0, 1), (45, .invokevirtual 97, 3), (48, .ifCond .ne 5, 3), (51, .iconst 0, 1), (52, .ireturn, 1), (53, .aload_n 0, 1), (54, .invokevirtual 100, 3), (57, .bipush 26, 2), (59, .bipush 9, 2), (61, .aload_n 0, 1), (62, .getfield 7, 3), (65, .bipush 25, 2), (67, .iaload, 1), (68, .imul, 1), (69, .iadd, 1), (70, .istore 4, 2), (72, .iconst 0, 1), (73, .istore 5, 2), (75, .iload 5, 2), (77, .bipush 9, 2), (79, .if_icmp .ge 20, 3), (82, .aload_n 0, 1), (83, .getfield 7, 3), (86, .iload 4, 2), (88, .iload 5, 2), (90, .iadd, 1), (91, .iconst 0, 1), (92, .iastore, 1), (93, .iinc 5 1, 3), (96, .goto (-21), 3), (99, .aload_n 0, 1), (100, .getfield 7, 3), (103, .iload 4, 2), (105, .iconst 0, 1), (106, .iadd, 1), (107, .iload_n 1, 1), (108, .iastore, 1), (109, .aload_n 0, 1), (110, .getfield 7, 3), (113, .iload 4, 2), (115, .iconst 1, 1), (116, .iadd, 1), (117, .iload_n 2, 1), (118, .iastore, 1), (119, .aload_n 0, 1), (120, .getfield 7, 3), (123, .iload 4, 2), (125, .iconst 2, 1), (126, .iadd, 1), (127, .iload_n 3, 1), (128, .iastore, 1), (129, .aload_n 0, 1), (130, .getfield 7, 3), (133, .bipush 25, 2), (135, .dup2, 1), (136, .iaload, 1), (137, .iconst 1, 1), (138, .iadd, 1), (139, .iastore, 1), (140, .aload_n 0, 1), (141, .getfield 7, 3), (144, .bipush 25, 2), (146, .iaload, 1), (147, .iconst 1, 1), (148, .isub, 1), (149, .ireturn, 1)]
theorem tkX8_addRule : ∀ e ∈ tbX8_addRule, decode cX8_addRule e.1 = .ok e.2 := by decide +kernel
abbrev tbX8_setAction : List (Nat × Instr × Nat) := [(0, .aload_n 0, 1), (1, .aload_n 0, 1), (2, .iload_n 1, 1), (3, .invokevirtual 103, 3), (6, .ifCond .ne 7, 3), (9, .iconst 1, 1), (10, .goto 46, 3), (13, .iload_n 2, 1), (14, .iconst 0, 1), (15, .iconst 3, 1), (16, .invokestatic 32, 3), (19, .ifCond .eq 36, 3), (22, .iload_n 3, 1), (23, .invokestatic 106, 3), (26, .ifCond .eq 29, 3), (29, .iload 4, 2), (31, .invokestatic 94, 3), (34, .ifCond .eq 21, 3), (37, .iload 5, 2), (39, .sipush (-999), 3), (42, .sipush 999, 3), (45, .invokestatic 32, 3), (48, .ifCond .eq 7, 3), (51, .iconst 0, 1), (52, .goto 4, 3), (55, .iconst 2, 1), (56, .invokevirtual 97, 3), (59, .ifCond .ne 5, 3), (62, .iconst 0, 1), (63, .ireturn, 1), (64, .aload_n 0, 1), (65, .invokevirtual 100, 3), (68, .bipush 26, 2), (70, .bipush 9, 2), (72, .iload_n 1, 1), (73, .imul, 1), (74, .iadd, 1), (75, .istore 6, 2), (77, .aload_n 0, 1), (78, .getfield 7, 3), (81, .iload 6, 2), (83, .iconst 3, 1), (84, .iadd, 1), (85, .iaload, 1), (86, .istore 7, 2), (88, .aload_n 0, 1), (89, .getfield 7, 3), (92, .iload 6, 2), (94, .iconst 3, 1), (95, .iadd, 1), (96, .iload_n 2, 1), (97, .iastore, 1), (98, .aload_n 0, 1), (99, .getfield 7, 3), (102, .iload 6, 2), (104, .iconst 4, 1), (105, .iadd, 1), (106, .iload_n 3, 1), (107, .iastore, 1), (108, .aload_n 0, 1), (109, .getfield 7, 3), (112, .iload 6, 2), (114, .iconst 5, 1), (115, .iadd, 1), (116, .iload 4, 2), (118, .iastore, 1), (119, .aload_n 0, 1), (120, .getfield 7, 3), (123, .iload 6, 2), (125, .bipush 6, 2), (127, .iadd, 1), (128, .iload 5, 2), (130, .iastore, 1), (131, .iload 7, 2), (133, .ireturn, 1)]
theorem tkX8_setAction : ∀ e ∈ tbX8_setAction, decode cX8_setAction e.1 = .ok e.2 := by decide +kernel
abbrev tbX8_turnMute : List (Nat × Instr × Nat) := [(0, .aload_n 0, 1), (1, .aload_n 0, 1), (2, .iload_n 1, 1), (3, .invokevirtual 103, 3), (6, .ifCond .eq 7, 3), (9, .iconst 0, 1), (10, .goto 4, 3), (13, .iconst 1, 1), (14, .invokevirtual 97, 3), (17, .ifCond .ne 5, 3), (20, .iconst 0, 1), (21, .ireturn, 1), (22, .aload_n 0, 1), (23, .invokevirtual 100, 3), (26, .bipush 26, 2), (28, .bipush 9, 2), (30, .iload_n 1, 1), (31, .imul, 1), (32, .iadd, 1), (33, .bipush 7, 2), (35, .iadd, 1), (36, .istore_n 2, 1), (37, .aload_n 0, 1), (38, .getfield 7, 3), (41, .iload_n 2, 1), (42, .iconst 1, 1), (43, .aload_n 0, 1), (44, .getfield 7, 3), (47, .iload_n 2, 1), (48, .iaload, 1), (49, .isub, 1), (50, .iastore, 1), (51, .aload_n 0, 1), (52, .getfield 7, 3), (55, .iload_n 2, 1), (56, .iaload, 1), (57, .iconst 1, 1), (58, .if_icmp .ne 7, 3), (61, .iconst 1, 1), (62, .goto 4, 3), (65, .iconst 0, 1), (66, .ireturn, 1)]
theorem tkX8_turnMute : ∀ e ∈ tbX8_turnMute, decode cX8_turnMute e.1 = .ok e.2 := by decide +kernel
abbrev tbX8_dropRule : List (Nat × Instr × Nat) := [(0, .aload_n 0, 1), (1, .aload_n 0, 1), (2, .iload_n 1, 1), (3, .invokevirtual 103, 3), (6, .ifCond .eq 7, 3), (9, .iconst 0, 1), (10, .goto 4, 3), (13, .iconst 1, 1), (14, .invokevirtual 97, 3), (17, .ifCond .ne 5, 3), (20, .iconst 0, 1), (21, .ireturn, 1), (22, .aload_n 0, 1), (23, .invokevirtual 100, 3), (26, .aload_n 0, 1), (27, .iload_n 1, 1), (28, .bipush 8, 2), (30, .invokevirtual 45, 3), (33, .istore_n 2, 1), (34, .aload_n 0, 1), (35, .getfield 7, 3), (38, .bipush 25, 2), (40, .dup2, 1), (41, .iaload, 1), (42, .iconst 1, 1), (43, .isub, 1), (44, .iastore, 1), (45, .bipush 26, 2), (47, .bipush 9, 2), (49, .iload_n 1, 1), (50, .imul, 1), (51, .iadd, 1), (52, .istore_n 3, 1), (53, .iload_n 3, 1), (54, .bipush 26, 2), (56, .bipush 9, 2), (58, .aload_n 0, 1), (59, .getfield 7, 3), (62, .bipush 25, 2), (64, .iaload, 1), (65, .imul, 1), (66, .iadd, 1), (67, .if_icmp .ge 24, 3), (70, .aload_n 0, 1), (71, .getfield 7, 3), (74, .iload_n 3, 1), (75, .aload_n 0, 1), (76, .getfield 7, 3), (79, .iload_n 3, 1), (80, .bipush 9, 2), (82, .iadd, 1), (83, .iaload, 1), (84, .iastore, 1), (85, .iinc 3 1, 3), (88, .goto (-35), 3), (91, .iconst 0, 1), (92, .istore_n 3, 1), (93, .iconst 0, 1), (94, .istore 4, 2), (96, .iload 4, 2), (98, .aload_n 0, 1), (99, .getfield 7, 3), (102, .bipush 99, 2), (104, .iaload, 1), (105, .if_icmp .ge 78, 3), (108, .aload_n 0, 1), (109, .getfield 7, 3), (112, .bipush 100, 2), (114, .iload 4, 2), (116, .iadd, 1), (117, .iaload, 1), (118, .istore 5, 2), (120, .aload_n 0, 1), (121, .getfield 7, 3), (124, .bipush 100, 2), (126, .iload_n 3, 1), (127, .iadd, 1), (128, .iload 5, 2), (130, .iload_n 1, 1), (131, .if_icmp .le 10, 3), (134, .iload 5, 2), (136, .iconst 1, 1), (137, .isub, 1), (138, .goto 5, 3), (141, .iload 5, 2), (143, .iastore, 1), (144, .aload_n 0, 1), (145, .getfield 7, 3), (148, .bipush 116, 2), (150, .iload_n 3, 1), (151, .iadd, 1), (152, .aload_n 0, 1), (153, .getfield 7, 3), (156, .bipush 116, 2), (158, .iload 4, 2), (160, .iadd, 1), (161, .iaload, 1), (162, .iastore, 1), (163, .iload_n 3, 1), (164, .iload 5, 2), (166, .iload_n 1, 1), (167, .if_icmp .ne 7, 3), (170, .iconst 0, 1), (171, .goto 4, 3), (174, .iconst 1, 1), (175, .iadd, 1), (176, .istore_n 3, 1), (177, .iinc 4 1, 3), (180, .goto (-84), 3), (183, .aload_n 0, 1), (184, .getfield 7, 3), (187, .bipush 99, 2), (189, .iload_n 3, 1), (190, .iastore, 1), (191, .iload_n 2, 1), (192, .ireturn, 1)]
theorem tkX8_dropRule : ∀ e ∈ tbX8_dropRule, decode cX8_dropRule e.1 = .ok e.2 := by decide +kernel
abbrev tbX8_setDepth : List (Nat × Instr × Nat) := [(0, .aload_n 0, 1), (1, .iload_n 1, 1), (2, .iconst 0, 1), (3, .iconst 5, 1), (4, .invokestatic 32, 3), (7, .ifCond .eq 7, 3), (10, .iconst 0, 1), (11, .goto 4, 3), (14, .iconst 1, 1), (15, .invokevirtual 97, 3), (18, .ifCond .ne 5, 3), (21, .iconst 0, 1), (22, .ireturn, 1), (23, .aload_n 0, 1), (24, .invokevirtual 100, 3), (27, .aload_n 0, 1), (28, .getfield 7, 3), (31, .bipush 24, 2), (33, .iaload, 1), (34, .istore_n 2, 1), (35, .aload_n 0, 1), (36, .getfield 7, 3), (39, .bipush 24, 2), (41, .iload_n 1, 1), (42, .iastore, 1), (43, .iload_n 2, 1), (44, .ireturn, 1)]
theorem tkX8_setDepth : ∀ e ∈ tbX8_setDepth, decode cX8_setDepth e.1 = .ok e.2 := by decide +kernel
abbrev tbX8_insert : List (Nat × Instr × Nat) := [(0, .iload_n 1, 1), (1, .invokestatic 106, 3), (4, .ifCond .ne 7, 3), (7, .iconst 1, 1), (8, .goto 30, 3), (11, .iload_n 2, 1), (12, .invokestatic 76, 3), (15, .ifCond .eq 18, 3), (18, .iload_n 3, 1), (19, .invokestatic 76, 3), (22, .ifCond .eq 11, 3), (25, .iload 4, 2), (27, .invokestatic 76, 3), (30, .ifCond .ne 7, 3), (33, .iconst 2, 1), (34, .goto 4, 3), (37, .iconst 0, 1), (38, .istore 5, 2), (40, .aload_n 0, 1), (41, .iload 5, 2), (43, .ifCond .le 8, 3), (46, .iload 5, 2), (48, .goto 20, 3), (51, .aload_n 0, 1), (52, .iload_n 1, 1), (53, .iload_n 2, 1), (54, .iload_n 3, 1), (55, .iload 4, 2), (57, .invokevirtual 109, 3), (60, .ifCond .eq 7, 3), (63, .iconst 0, 1), (64, .goto 4, 3), (67, .iconst 3, 1), (68, .invokevirtual 97, 3), (71, .ifCond .ne 5, 3), (74, .iconst 0, 1), (75, .ireturn, 1), (76, .aload_n 0, 1), (77, .invokevirtual 42, 3), (80, .aload_n 0, 1), (81, .getfield 52, 3), (84, .ireturn, 1)]
theorem tkX8_insert : ∀ e ∈ tbX8_insert, decode cX8_insert e.1 = .ok e.2 := by decide +kernel
abbrev tbX8_update : List (Nat × Instr × Nat) := [(0, .iload_n 1, 1), (1, .invokestatic 106, 3), (4, .ifCond .eq 10, 3), (7, .iload_n 2, 1), (8, .invokestatic 94, 3), (11, .ifCond .ne 7, 3), (14, .iconst 1, 1), (15, .goto 15, 3), (18, .iload_n 3, 1), (19, .invokestatic 76, 3), (22, .ifCond .ne 7, 3), (25, .iconst 2, 1), (26, .goto 4, 3), (29, .iconst 0, 1), (30, .istore 4, 2), (32, .aload_n 0, 1), (33, .iload 4, 2), (35, .ifCond .le 8, 3), (38, .iload 4, 2), (40, .goto 18, 3), (43, .aload_n 0, 1), (44, .iload_n 1, 1), (45, .iload_n 2, 1), (46, .iload_n 3, 1), (47, .invokevirtual 112, 3), (50, .ifCond .eq 7, 3), (53, .iconst 0, 1), (54, .goto 4, 3), (57, .iconst 3, 1), (58, .invokevirtual 97, 3), (61, .ifCond .ne 5, 3), (64, .iconst 0, 1), (65, .ireturn, 1), (66, .aload_n 0, 1), (67, .invokevirtual 42, 3), (70, .aload_n 0, 1), (71, .getfield 52, 3), (74, .ireturn, 1)]
theorem tkX8_update : ∀ e ∈ tbX8_update, decode cX8_update e.1 = .ok e.2 := by decide +kernel
abbrev tbX8_remove : List (Nat × Instr × Nat) := [(0, .aload_n 0, 1), (1, .iload_n 1, 1), (2, .invokestatic 106, 3), (5, .ifCond .ne 7, 3), (8, .iconst 1, 1), (9, .goto 16, 3), (12, .aload_n 0, 1), (13, .iload_n 1, 1), (14, .invokevirtual 115, 3), (17, .ifCond .eq 7, 3), (20, .iconst 0, 1), (21, .goto 4, 3), (24, .iconst 2, 1), (25, .invokevirtual 97, 3), (28, .ifCond .ne 5, 3), (31, .iconst 0, 1), (32, .ireturn, 1), (33, .aload_n 0, 1), (34, .invokevirtual 42, 3), (37, .aload_n 0, 1), (38, .getfield 52, 3), (41, .ireturn, 1)]
theorem tkX8_remove : ∀ e ∈ tbX8_remove, decode cX8_remove e.1 = .ok e.2 := by decide +kernel
abbrev tbX8_triesUpdate : List (Nat × Instr × Nat) := [(0, .aload_n 0, 1), (1, .iload_n 1, 1), (2, .invokestatic 106, 3), (5, .ifCond .eq 10, 3), (8, .iload_n 2, 1), (9, .invokestatic 94, 3), (12, .ifCond .ne 7, 3), (15, .iconst 1, 1), (16, .goto 15, 3), (19, .iload_n 3, 1), (20, .invokestatic 76, 3), (23, .ifCond .ne 7, 3), (26, .iconst 2, 1), (27, .goto 4, 3), (30, .iconst 0, 1), (31, .invokevirtual 97, 3), (34, .ifCond .ne 5, 3), (37, .iconst 0, 1), (38, .ireturn, 1), (39, .aload_n 0, 1), (40, .iload_n 1, 1), (41, .iload_n 2, 1), (42, .iload_n 3, 1), (43, .invokevirtual 112, 3), (46, .istore 4, 2), (48, .aload_n 0, 1), (49, .invokevirtual 87, 3), (52, .iconst 1, 1), (53, .ireturn, 1)]
theorem tkX8_triesUpdate : ∀ e ∈ tbX8_triesUpdate, decode cX8_triesUpdate e.1 = .ok e.2 := by decide +kernel
abbrev tbX8_whyNotUpdate : List (Nat × Instr × Nat) := [(0, .aload_n 0, 1), (1, .iload_n 1, 1), (2, .iload_n 2, 1), (3, .iload_n 3, 1), (4, .invokevirtual 118, 3), (7, .ifCond .eq 10, 3), (10, .aload_n 0, 1), (11, .getfield 59, 3), (14, .goto 4, 3), (17, .iconst 0, 1), (18, .ireturn, 1)]
theorem tkX8_whyNotUpdate : ∀ e ∈ tbX8_whyNotUpdate, decode cX8_whyNotUpdate e.1 = .ok e.2 := by decide +kernel
abbrev tbX8_eventsOfUpdate : List (Nat × Instr × Nat) := [(0, .aload_n 0, 1), (1, .iload_n 1, 1), (2, .iload_n 2, 1), (3, .iload_n 3, 1), (4, .invokevirtual 118, 3), (7, .ifCond .ne 7, 3), (10, .iconst 0, 1), (11, .goto 18, 3), (14, .aload_n 0, 1), (15, .getfield 59, 3), (18, .ifCond .le 7, 3), (21, .iconst (-1), 1), (22, .goto 7, 3), (25, .aload_n 0, 1), (26, .getfield 52, 3), (29, .ireturn, 1)]
theorem tkX8_eventsOfUpdate : ∀ e ∈ tbX8_eventsOfUpdate, decode cX8_eventsOfUpdate e.1 = .ok e.2 := by decide +kernel
abbrev tbX8_depthOfUpdate : List (Nat × Instr × Nat) := [(0, .aload_n 0, 1), (1, .iload_n 1, 1), (2, .iload_n 2, 1), (3, .iload_n 3, 1), (4, .invokevirtual 118, 3), (7, .ifCond .ne 7, 3), (10, .iconst 0, 1), (11, .goto 18, 3), (14, .aload_n 0, 1), (15, .getfield 59, 3), (18, .ifCond .le 7, 3), (21, .iconst (-1), 1), (22, .goto 7, 3), (25, .aload_n 0, 1), (26, .getfield 65, 3), (29, .ireturn, 1)]
theorem tkX8_depthOfUpdate : ∀ e ∈ tbX8_depthOfUpdate, decode cX8_depthOfUpdate e.1 = .ok e.2 := by decide +kernel
abbrev tbX8_hasRow : List (Nat × Instr × Nat) := [(0, .aload_n 0, 1), (1, .iload_n 1, 1), (2, .invokestatic 106, 3), (5, .ifCond .eq 7, 3), (8, .iconst 0, 1), (9, .goto 4, 3), (12, .iconst 1, 1), (13, .invokevirtual 97, 3), (16, .ifCond .eq 19, 3), (19, .aload_n 0, 1), (20, .getfield 7, 3), (23, .iconst 0, 1), (24, .iload_n 1, 1), (25, .iadd, 1), (26, .iaload, 1), (27, .iconst 1, 1), (28, .if_icmp .ne 7, 3), (31, .iconst 1, 1), (32, .goto 4, 3), (35, .iconst 0, 1), (36, .ireturn, 1)]
theorem tkX8_hasRow : ∀ e ∈ tbX8_hasRow, decode cX8_hasRow e.1 = .ok e.2 := by decide +kernel
abbrev tbX8_rowCount : List (Nat × Instr × Nat) := [(0, .aload_n 0, 1), (1, .iconst 0, 1), (2, .putfield 28, 3), (5, .aload_n 0, 1), (6, .invokevirtual 121, 3), (9, .ireturn, 1)]
theorem tkX8_rowCount : ∀ e ∈ tbX8_rowCount, decode cX8_rowCount e.1 = .ok e.2 := by decide +kernel
abbrev tbX8_valueAt : List (Nat × Instr × Nat) := [(0, .aload_n 0, 1), (1, .iload_n 1, 1), (2, .invokestatic 106, 3), (5, .ifCond .eq 10, 3), (8, .iload_n 2, 1), (9, .invokestatic 94, 3), (12, .ifCond .ne 7, 3), (15, .iconst 1, 1), (16, .goto 19, 3), (19, .aload_n 0, 1), (20, .getfield 7, 3), (23, .iconst 0, 1), (24, .iload_n 1, 1), (25, .iadd, 1), (26, .iaload, 1), (27, .ifCond .ne 7, 3), (30, .iconst 2, 1), (31, .goto 4, 3), (34, .iconst 0, 1), (35, .invokevirtual 97, 3), (38, .ifCond .eq 16, 3), (41, .aload_n 0, 1), (42, .getfield 7, 3), (45, .iload_n 1, 1), (46, .iload_n 2, 1), (47, .invokestatic 49, 3), (50, .iaload, 1), (51, .goto 4, 3), (54, .iconst 0, 1), (55, .ireturn, 1)]
theorem tkX8_valueAt : ∀ e ∈ tbX8_valueAt, decode cX8_valueAt e.1 = .ok e.2 := by decide +kernel
abbrev tbX8_sumOf : List (Nat × Instr × Nat) := [(0, .aload_n 0, 1), (1, .iload_n 1, 1), (2, .invokestatic 94, 3), (5, .ifCond .eq 7, 3), (8, .iconst 0, 1), (9, .goto 4, 3), (12, .iconst 1, 1), (13, .invokevirtual 97, 3), (16, .ifCond .ne 5, 3), (19, .iconst 0, 1), (20, .ireturn, 1), (21, .iconst 0, 1), (22, .istore_n 2, 1), (23, .iconst 0, 1), (24, .istore_n 3, 1), (25, .iload_n 3, 1), (26, .bipush 6, 2), (28, .if_icmp .ge 38, 3), (31, .iload_n 2, 1), (32, .aload_n 0, 1), (33, .getfield 7, 3), (36, .iconst 0, 1), (37, .iload_n 3, 1), (38, .iadd, 1), (39, .iaload, 1), (40, .iconst 1, 1), (41, .if_icmp .ne 16, 3), (44, .aload_n 0, 1), (45, .getfield 7, 3), (48, .iload_n 3, 1), (49, .iload_n 1, 1), (50, .invokestatic 49, 3), (53, .iaload, 1), (54, .goto 4, 3), (57, .iconst 0, 1), (58, .iadd, 1), (59, .istore_n 2, 1), (60, .iinc 3 1, 3), (63, .goto (-38), 3), (66, .iload_n 2, 1), (67, .ireturn, 1)]
theorem tkX8_sumOf : ∀ e ∈ tbX8_sumOf, decode cX8_sumOf e.1 = .ok e.2 := by decide +kernel
abbrev tbX8_ruleCount : List (Nat × Instr × Nat) := [(0, .aload_n 0, 1), (1, .iconst 0, 1), (2, .putfield 28, 3), (5, .aload_n 0, 1), (6, .getfield 7, 3), (9, .bipush 25, 2), (11, .iaload, 1), (12, .ireturn, 1)]
theorem tkX8_ruleCount : ∀ e ∈ tbX8_ruleCount, decode cX8_ruleCount e.1 = .ok e.2 := by decide +kernel
abbrev tbX8_actionOf : List (Nat × Instr × Nat) := [(0, .aload_n 0, 1), (1, .aload_n 0, 1), (2, .iload_n 1, 1), (3, .invokevirtual 103, 3), (6, .ifCond .eq 7, 3), (9, .iconst 0, 1), (10, .goto 4, 3), (13, .iconst 1, 1), (14, .invokevirtual 97, 3), (17, .ifCond .eq 12, 3), (20, .aload_n 0, 1), (21, .iload_n 1, 1), (22, .iconst 3, 1), (23, .invokevirtual 45, 3), (26, .goto 4, 3), (29, .iconst 0, 1), (30, .ireturn, 1)]
theorem tkX8_actionOf : ∀ e ∈ tbX8_actionOf, decode cX8_actionOf e.1 = .ok e.2 := by decide +kernel
abbrev tbX8_isMuted : List (Nat × Instr × Nat) := [(0, .aload_n 0, 1), (1, .aload_n 0, 1), (2, .iload_n 1, 1), (3, .invokevirtual 103, 3), (6, .ifCond .eq 7, 3), (9, .iconst 0, 1), (10, .goto 4, 3), (13, .iconst 1, 1), (14, .invokevirtual 97, 3), (17, .ifCond .eq 18, 3), (20, .aload_n 0, 1), (21, .iload_n 1, 1), (22, .bipush 7, 2), (24, .invokevirtual 45, 3), (27, .iconst 1, 1), (28, .if_icmp .ne 7, 3), (31, .iconst 1, 1), (32, .goto 4, 3), (35, .iconst 0, 1), (36, .ireturn, 1)]
theorem tkX8_isMuted : ∀ e ∈ tbX8_isMuted, decode cX8_isMuted e.1 = .ok e.2 := by decide +kernel
abbrev tbX8_actsOf : List (Nat × Instr × Nat) := [(0, .aload_n 0, 1), (1, .aload_n 0, 1), (2, .iload_n 1, 1), (3, .invokevirtual 103, 3), (6, .ifCond .eq 7, 3), (9, .iconst 0, 1), (10, .goto 4, 3), (13, .iconst 1, 1), (14, .invokevirtual 97, 3), (17, .ifCond .eq 13, 3), (20, .aload_n 0, 1), (21, .iload_n 1, 1), (22, .bipush 8, 2), (24, .invokevirtual 45, 3), (27, .goto 4, 3), (30, .iconst 0, 1), (31, .ireturn, 1)]
theorem tkX8_actsOf : ∀ e ∈ tbX8_actsOf, decode cX8_actsOf e.1 = .ok e.2 := by decide +kernel
abbrev tbX8_eventCount : List (Nat × Instr × Nat) := [(0, .aload_n 0, 1), (1, .iconst 0, 1), (2, .putfield 28, 3), (5, .aload_n 0, 1), (6, .getfield 7, 3), (9, .bipush 98, 2), (11, .iaload, 1), (12, .ireturn, 1)]
theorem tkX8_eventCount : ∀ e ∈ tbX8_eventCount, decode cX8_eventCount e.1 = .ok e.2 := by decide +kernel
abbrev tbX8_logSize : List (Nat × Instr × Nat) := [(0, .aload_n 0, 1), (1, .iconst 0, 1), (2, .putfield 28, 3), (5, .aload_n 0, 1), (6, .getfield 7, 3), (9, .bipush 99, 2), (11, .iaload, 1), (12, .ireturn, 1)]
theorem tkX8_logSize : ∀ e ∈ tbX8_logSize, decode cX8_logSize e.1 = .ok e.2 := by decide +kernel
abbrev tbX8_loggedRule : List (Nat × Instr × Nat) := [(0, .aload_n 0, 1), (1, .iload_n 1, 1), (2, .iconst 0, 1), (3, .aload_n 0, 1), (4, .getfield 7, 3), (7, .bipush 99, 2), (9, .iaload, 1), (10, .iconst 1, 1), (11, .isub, 1), (12, .invokestatic 32, 3), (15, .ifCond .eq 7, 3), (18, .iconst 0, 1), (19, .goto 4, 3), (22, .iconst 1, 1), (23, .invokevirtual 97, 3), (26, .ifCond .eq 15, 3), (29, .aload_n 0, 1), (30, .getfield 7, 3), (33, .bipush 100, 2), (35, .iload_n 1, 1), (36, .iadd, 1), (37, .iaload, 1), (38, .goto 4, 3), (41, .iconst 0, 1), (42, .ireturn, 1)]
theorem tkX8_loggedRule : ∀ e ∈ tbX8_loggedRule, decode cX8_loggedRule e.1 = .ok e.2 := by decide +kernel
abbrev tbX8_loggedDepth : List (Nat × Instr × Nat) := [(0, .aload_n 0, 1), (1, .iload_n 1, 1), (2, .iconst 0, 1), (3, .aload_n 0, 1), (4, .getfield 7, 3), (7, .bipush 99, 2), (9, .iaload, 1), (10, .iconst 1, 1), (11, .isub, 1), (12, .invokestatic 32, 3), (15, .ifCond .eq 7, 3), (18, .iconst 0, 1), (19, .goto 4, 3), (22, .iconst 1, 1), (23, .invokevirtual 97, 3), (26, .ifCond .eq 15, 3), (29, .aload_n 0, 1), (30, .getfield 7, 3), (33, .bipush 116, 2), (35, .iload_n 1, 1), (36, .iadd, 1), (37, .iaload, 1), (38, .goto 4, 3), (41, .iconst 0, 1), (42, .ireturn, 1)]
theorem tkX8_loggedDepth : ∀ e ∈ tbX8_loggedDepth, decode cX8_loggedDepth e.1 = .ok e.2 := by decide +kernel
abbrev tbX8_setsOff : List (Nat × Instr × Nat) := [(0, .aload_n 0, 1), (1, .iload_n 1, 1), (2, .iconst 3, 1), (3, .invokevirtual 45, 3), (6, .iconst 2, 1), (7, .if_icmp .ne 32, 3), (10, .aload_n 0, 1), (11, .iload_n 2, 1), (12, .iconst 0, 1), (13, .invokevirtual 45, 3), (16, .iconst 1, 1), (17, .if_icmp .ne 22, 3), (20, .aload_n 0, 1), (21, .iload_n 2, 1), (22, .iconst 1, 1), (23, .invokevirtual 45, 3), (26, .aload_n 0, 1), (27, .iload_n 1, 1), (28, .iconst 5, 1), (29, .invokevirtual 45, 3), (32, .if_icmp .ne 7, 3), (35, .iconst 1, 1), (36, .goto 4, 3), (39, .iconst 0, 1), (40, .istore_n 3, 1), (41, .aload_n 0, 1), (42, .iload_n 1, 1), (43, .iconst 3, 1), (44, .invokevirtual 45, 3), (47, .iconst 3, 1), (48, .if_icmp .ne 17, 3), (51, .aload_n 0, 1), (52, .iload_n 2, 1), (53, .iconst 0, 1), (54, .invokevirtual 45, 3), (57, .iconst 2, 1), (58, .if_icmp .ne 7, 3), (61, .iconst 1, 1), (62, .goto 4, 3), (65, .iconst 0, 1), (66, .istore 4, 2), (68, .aload_n 0, 1), (69, .iload_n 1, 1), (70, .bipush 7, 2), (72, .invokevirtual 45, 3), (75, .ifCond .ne 26, 3), (78, .aload_n 0, 1), (79, .iload_n 2, 1), (80, .bipush 7, 2), (82, .invokevirtual 45, 3), (85, .ifCond .ne 16, 3), (88, .iload_n 3, 1), (89, .ifCond .ne 8, 3), (92, .iload 4, 2), (94, .ifCond .eq 7, 3), (97, .iconst 1, 1), (98, .goto 4, 3), (101, .iconst 0, 1), (102, .ireturn, 1)]
theorem tkX8_setsOff : ∀ e ∈ tbX8_setsOff, decode cX8_setsOff e.1 = .ok e.2 := by decide +kernel
abbrev tbX8_straight : List (Nat × Instr × Nat) := [(0, .iconst 0, 1), (1, .istore_n 2, 1), (2, .iconst 0, 1), (3, .istore_n 3, 1), (4, .iload_n 3, 1), (5, .aload_n 0, 1), (6, .getfield 7, 3), (9, .bipush 25, 2), (11, .iaload, 1), (12, .if_icmp .ge 28, 3), (15, .iload_n 2, 1), (16, .aload_n 0, 1), (17, .iload_n 1, 1), (18, .iload_n 3, 1), (19, .invokevirtual 125, 3), (22, .ifCond .eq 9, 3), (25, .iconst 1, 1), (26, .iload_n 3, 1), (27, .ishl, 1), (28, .goto 4, 3), (31, .iconst 0, 1), (32, .ior, 1), (33, .istore_n 2, 1), (34, .iinc 3 1, 3), (37, .goto (-33), 3), (40, .iload_n 2, 1), (41, .ireturn, 1)]
theorem tkX8_straight : ∀ e ∈ tbX8_straight, decode cX8_straight e.1 = .ok e.2 := by decide +kernel
abbrev tbX8_reach : List (Nat × Instr × Nat) := [(0, .aload_n 0, 1), (1, .iload_n 1, 1), (2, .invokevirtual 129, 3), (5, .istore_n 2, 1), (6, .iconst 0, 1), (7, .istore_n 3, 1), (8, .iload_n 3, 1), (9, .bipush 8, 2), (11, .if_icmp .ge 61, 3), (14, .iload_n 2, 1), (15, .istore 4, 2), (17, .iconst 0, 1), (18, .istore 5, 2), (20, .iload 5, 2), (22, .aload_n 0, 1), (23, .getfield 7, 3), (26, .bipush 25, 2), (28, .iaload, 1), (29, .if_icmp .ge 34, 3), (32, .iload 4, 2), (34, .iload_n 2, 1), (35, .iload 5, 2), (37, .ishr, 1), (38, .iconst 1, 1), (39, .iand, 1), (40, .iconst 1, 1), (41, .if_icmp .ne 12, 3), (44, .aload_n 0, 1), (45, .iload 5, 2), (47, .invokevirtual 129, 3), (50, .goto 4, 3), (53, .iconst 0, 1), (54, .ior, 1), (55, .istore 4, 2), (57, .iinc 5 1, 3), (60, .goto (-40), 3), (63, .iload 4, 2), (65, .istore_n 2, 1), (66, .iinc 3 1, 3), (69, .goto (-61), 3), (72, .iload_n 2, 1), (73, .ireturn, 1)]
theorem tkX8_reach : ∀ e ∈ tbX8_reach, decode cX8_reach e.1 = .ok e.2 := by decide +kernel
abbrev tbX8_canSetOff : List (Nat × Instr × Nat) := [(0, .aload_n 0, 1), (1, .aload_n 0, 1), (2, .iload_n 1, 1), (3, .invokevirtual 103, 3), (6, .ifCond .eq 15, 3), (9, .aload_n 0, 1), (10, .iload_n 2, 1), (11, .invokevirtual 103, 3), (14, .ifCond .eq 7, 3), (17, .iconst 0, 1), (18, .goto 4, 3), (21, .iconst 1, 1), (22, .invokevirtual 97, 3), (25, .ifCond .eq 16, 3), (28, .aload_n 0, 1), (29, .iload_n 1, 1), (30, .iload_n 2, 1), (31, .invokevirtual 125, 3), (34, .ifCond .eq 7, 3), (37, .iconst 1, 1), (38, .goto 4, 3), (41, .iconst 0, 1), (42, .ireturn, 1)]
theorem tkX8_canSetOff : ∀ e ∈ tbX8_canSetOff, decode cX8_canSetOff e.1 = .ok e.2 := by decide +kernel
abbrev tbX8_reachOf : List (Nat × Instr × Nat) := [(0, .aload_n 0, 1), (1, .aload_n 0, 1), (2, .iload_n 1, 1), (3, .invokevirtual 103, 3), (6, .ifCond .eq 7, 3), (9, .iconst 0, 1), (10, .goto 4, 3), (13, .iconst 1, 1), (14, .invokevirtual 97, 3), (17, .ifCond .eq 11, 3), (20, .aload_n 0, 1), (21, .iload_n 1, 1), (22, .invokevirtual 133, 3), (25, .goto 4, 3), (28, .iconst 0, 1), (29, .ireturn, 1)]
theorem tkX8_reachOf : ∀ e ∈ tbX8_reachOf, decode cX8_reachOf e.1 = .ok e.2 := by decide +kernel
abbrev tbX8_reachByTable : List (Nat × Instr × Nat) := [(0, .aload_n 0, 1), (1, .iload_n 1, 1), (2, .invokevirtual 136, 3), (5, .ireturn, 1)]
theorem tkX8_reachByTable : ∀ e ∈ tbX8_reachByTable, decode cX8_reachByTable e.1 = .ok e.2 := by decide +kernel
abbrev tbX8_circularRules : List (Nat × Instr × Nat) := [(0, .aload_n 0, 1), (1, .iconst 0, 1), (2, .putfield 28, 3), (5, .iconst 0, 1), (6, .istore_n 1, 1), (7, .iconst 0, 1), (8, .istore_n 2, 1), (9, .iload_n 2, 1), (10, .aload_n 0, 1), (11, .getfield 7, 3), (14, .bipush 25, 2), (16, .iaload, 1), (17, .if_icmp .ge 21, 3), (20, .iload_n 1, 1), (21, .aload_n 0, 1), (22, .iload_n 2, 1), (23, .invokevirtual 133, 3), (26, .iconst 1, 1), (27, .iload_n 2, 1), (28, .ishl, 1), (29, .iand, 1), (30, .ior, 1), (31, .istore_n 1, 1), (32, .iinc 2 1, 3), (35, .goto (-26), 3), (38, .iload_n 1, 1), (39, .ireturn, 1)]
theorem tkX8_circularRules : ∀ e ∈ tbX8_circularRules, decode cX8_circularRules e.1 = .ok e.2 := by decide +kernel
abbrev tbX8_appendText : List (Nat × Instr × Nat) := [(0, .iconst 0, 1), (1, .istore_n 3, 1), (2, .iconst 1, 1), (3, .istore 4, 2), (5, .lload_n 1, 1), (6, .lstore 5, 2), (8, .lload 5, 2), (10, .lconst 0, 1), (11, .lcmp, 1), (12, .ifCond .eq 45, 3), (15, .iload 4, 2), (17, .ifCond .eq 24, 3), (20, .lload 5, 2), (22, .ldc2_w 139, 3), (25, .land, 1), (26, .l2i, 1), (27, .bipush 33, 2), (29, .bipush 126, 2), (31, .invokestatic 32, 3), (34, .ifCond .eq 7, 3), (37, .iconst 1, 1), (38, .goto 4, 3), (41, .iconst 0, 1), (42, .istore 4, 2), (44, .iinc 3 1, 3), (47, .lload 5, 2), (49, .bipush 8, 2), (51, .lushr, 1), (52, .lstore 5, 2), (54, .goto (-46), 3), (57, .aload_n 0, 1), (58, .iload_n 3, 1), (59, .ifCond .eq 8, 3), (62, .iload 4, 2), (64, .ifCond .ne 7, 3), (67, .iconst 1, 1), (68, .goto 19, 3), (71, .aload_n 0, 1), (72, .getfield 141, 3), (75, .iload_n 3, 1), (76, .iadd, 1), (77, .bipush 80, 2), (79, .if_icmp .le 7, 3), (82, .iconst 2, 1), (83, .goto 4, 3), (86, .iconst 0, 1), (87, .invokevirtual 97, 3), (90, .ifCond .ne 5, 3), (93, .iconst 0, 1), (94, .ireturn, 1), (95, .iload_n 3, 1), (96, .iconst 1, 1), (97, .isub, 1), (98, .istore 5, 2), (100, .iload 5, 2), (102, .ifCond .lt 40, 3), (105, .aload_n 0, 1), (106, .getfield 22, 3), (109, .aload_n 0, 1), (110, .getfield 141, 3), (113, .lload_n 1, 1), (114, .bipush 8, 2), (116, .iload 5, 2), (118, .imul, 1), (119, .lshr, 1), (120, .ldc2_w 139, 3), (123, .land, 1), (124, .l2i, 1), (125, .iastore, 1), (126, .aload_n 0, 1), (127, .dup, 1), (128, .getfield 141, 3), (131, .iconst 1, 1), (132, .iadd, 1), (133, .putfield 141, 3), (136, .iinc 5 (-1), 3), (139, .goto (-39), 3), (142, .aload_n 0, 1), (143, .getfield 141, 3), (146, .ireturn, 1)]
theorem tkX8_appendText : ∀ e ∈ tbX8_appendText, decode cX8_appendText e.1 = .ok e.2 := by decide +kernel
abbrev tbX8_clearText : List (Nat × Instr × Nat) := [(0, .aload_n 0, 1), (1, .iconst 0, 1), (2, .putfield 28, 3), (5, .aload_n 0, 1), (6, .getfield 141, 3), (9, .istore_n 1, 1), (10, .aload_n 0, 1), (11, .iconst 0, 1), (12, .putfield 141, 3), (15, .iload_n 1, 1), (16, .ireturn, 1)]
theorem tkX8_clearText : ∀ e ∈ tbX8_clearText, decode cX8_clearText e.1 = .ok e.2 := by decide +kernel
abbrev tbX8_textLength : List (Nat × Instr × Nat) := [(0, .aload_n 0, 1), (1, .iconst 0, 1), (2, .putfield 28, 3), (5, .aload_n 0, 1), (6, .getfield 141, 3), (9, .ireturn, 1)]
theorem tkX8_textLength : ∀ e ∈ tbX8_textLength, decode cX8_textLength e.1 = .ok e.2 := by decide +kernel
abbrev tbX8_takes : List (Nat × Instr × Nat) := [(0, .aload_n 0, 1), (1, .getfield 144, 3), (4, .ifCond .ne 35, 3), (7, .aload_n 0, 1), (8, .getfield 148, 3), (11, .aload_n 0, 1), (12, .getfield 141, 3), (15, .if_icmp .ge 24, 3), (18, .aload_n 0, 1), (19, .getfield 22, 3), (22, .aload_n 0, 1), (23, .getfield 148, 3), (26, .iaload, 1), (27, .iload_n 1, 1), (28, .iload_n 2, 1), (29, .invokestatic 32, 3), (32, .ifCond .eq 7, 3), (35, .iconst 1, 1), (36, .goto 4, 3), (39, .iconst 0, 1), (40, .istore_n 3, 1), (41, .iload_n 3, 1), (42, .ifCond .eq 15, 3), (45, .aload_n 0, 1), (46, .getfield 22, 3), (49, .aload_n 0, 1), (50, .getfield 148, 3), (53, .iaload, 1), (54, .goto 4, 3), (57, .iload_n 1, 1), (58, .istore 4, 2), (60, .aload_n 0, 1), (61, .dup, 1), (62, .getfield 148, 3), (65, .iload_n 3, 1), (66, .ifCond .eq 7, 3), (69, .iconst 1, 1), (70, .goto 4, 3), (73, .iconst 0, 1), (74, .iadd, 1), (75, .putfield 148, 3), (78, .aload_n 0, 1), (79, .aload_n 0, 1), (80, .getfield 144, 3), (83, .ifCond .ne 7, 3), (86, .iload_n 3, 1), (87, .ifCond .ne 7, 3), (90, .iconst 1, 1), (91, .goto 4, 3), (94, .iconst 0, 1), (95, .putfield 144, 3), (98, .iload 4, 2), (100, .ireturn, 1)]
theorem tkX8_takes : ∀ e ∈ tbX8_takes, decode cX8_takes e.1 = .ok e.2 := by decide +kernel
abbrev tbX8_number : List (Nat × Instr × Nat) := [(0, .aload_n 0, 1), (1, .bipush 48, 2), (3, .bipush 57, 2), (5, .invokevirtual 151, 3), (8, .bipush 48, 2), (10, .isub, 1), (11, .istore_n 1, 1), (12, .aload_n 0, 1), (13, .getfield 144, 3), (16, .ifCond .ne 74, 3), (19, .iload_n 1, 1), (20, .ifCond .le 70, 3), (23, .iload_n 1, 1), (24, .bipush 100, 2), (26, .if_icmp .ge 64, 3), (29, .aload_n 0, 1), (30, .getfield 148, 3), (33, .aload_n 0, 1), (34, .getfield 141, 3), (37, .if_icmp .ge 53, 3), (40, .aload_n 0, 1), (41, .getfield 22, 3), (44, .aload_n 0, 1), (45, .getfield 148, 3), (48, .iaload, 1), (49, .bipush 48, 2), (51, .bipush 57, 2), (53, .invokestatic 32, 3), (56, .ifCond .eq 34, 3), (59, .bipush 10, 2), (61, .iload_n 1, 1), (62, .imul, 1), (63, .aload_n 0, 1), (64, .getfield 22, 3), (67, .aload_n 0, 1), (68, .getfield 148, 3), (71, .iaload, 1), (72, .iadd, 1), (73, .bipush 48, 2), (75, .isub, 1), (76, .istore_n 1, 1), (77, .aload_n 0, 1), (78, .dup, 1), (79, .getfield 148, 3), (82, .iconst 1, 1), (83, .iadd, 1), (84, .putfield 148, 3), (87, .goto (-75), 3), (90, .iload_n 1, 1), (91, .ireturn, 1)]
theorem tkX8_number : ∀ e ∈ tbX8_number, decode cX8_number e.1 = .ok e.2 := by decide +kernel
abbrev tbX8_readCommand : List (Nat × Instr × Nat) := [(0, .aload_n 0, 1), (1, .getfield 148, 3), (4, .aload_n 0, 1), (5, .getfield 141, 3), (8, .if_icmp .eq 45, 3), (11, .aload_n 0, 1), (12, .getfield 22, 3), (15, .aload_n 0, 1), (16, .getfield 148, 3), (19, .iaload, 1), (20, .bipush 105, 2), (22, .if_icmp .eq 37, 3), (25, .aload_n 0, 1), (26, .getfield 22, 3), (29, .aload_n 0, 1), (30, .getfield 148, 3), (33, .iaload, 1), (34, .bipush 117, 2), (36, .if_icmp .eq 23, 3), (39, .aload_n 0, 1), (40, .getfield 22, 3), (43, .aload_n 0, 1), (44, .getfield 148, 3), (47, .iaload, 1), (48, .bipush 114, 2), (50, .if_icmp .eq 9, 3), (53, .aload_n 0, 1), (54, .iconst 1, 1), (55, .putfield 144, 3), (58, .return_, 1), (59, .aload_n 0, 1), (60, .aload_n 0, 1), (61, .getfield 22, 3), (64, .aload_n 0, 1), (65, .getfield 148, 3), (68, .iaload, 1), (69, .putfield 154, 3), (72, .aload_n 0, 1), (73, .dup, 1), (74, .getfield 148, 3), (77, .iconst 1, 1), (78, .iadd, 1), (79, .putfield 148, 3), (82, .aload_n 0, 1), (83, .aload_n 0, 1), (84, .bipush 48, 2), (86, .bipush 57, 2), (88, .invokevirtual 151, 3), (91, .bipush 48, 2), (93, .isub, 1), (94, .putfield 157, 3), (97, .aload_n 0, 1), (98, .getfield 154, 3), (101, .bipush 105, 2), (103, .if_icmp .ne 57, 3), (106, .aload_n 0, 1), (107, .bipush 61, 2), (109, .bipush 61, 2), (111, .invokevirtual 151, 3), (114, .istore_n 1, 1), (115, .aload_n 0, 1), (116, .aload_n 0, 1), (117, .invokevirtual 160, 3), (120, .putfield 163, 3), (123, .aload_n 0, 1), (124, .bipush 44, 2), (126, .bipush 44, 2), (128, .invokevirtual 151, 3), (131, .istore_n 1, 1), (132, .aload_n 0, 1), (133, .aload_n 0, 1), (134, .invokevirtual 160, 3), (137, .putfield 166, 3), (140, .aload_n 0, 1), (141, .bipush 44, 2), (143, .bipush 44, 2), (145, .invokevirtual 151, 3), (148, .istore_n 1, 1), (149, .aload_n 0, 1), (150, .aload_n 0, 1), (151, .invokevirtual 160, 3), (154, .putfield 169, 3), (157, .goto 53, 3), (160, .aload_n 0, 1), (161, .getfield 154, 3), (164, .bipush 117, 2), (166, .if_icmp .ne 44, 3), (169, .aload_n 0, 1), (170, .bipush 46, 2), (172, .bipush 46, 2), (174, .invokevirtual 151, 3), (177, .istore_n 1, 1), (178, .aload_n 0, 1), (179, .aload_n 0, 1), (180, .bipush 48, 2), (182, .bipush 57, 2), (184, .invokevirtual 151, 3), (187, .bipush 48, 2), (189, .isub, 1), (190, .putfield 163, 3), (193, .aload_n 0, 1), (194, .bipush 61, 2), (196, .bipush 61, 2), (198, .invokevirtual 151, 3), (201, .istore_n 1, 1), (202, .aload_n 0, 1), (203, .aload_n 0, 1), (204, .invokevirtual 160, 3), (207, .putfield 166, 3), (210, .return_, 1)]
theorem tkX8_readCommand : ∀ e ∈ tbX8_readCommand, decode cX8_readCommand e.1 = .ok e.2 := by decide +kernel
abbrev tbX8_does : List (Nat × Instr × Nat) := [(0, .aload_n 0, 1), (1, .getfield 157, 3), (4, .invokestatic 106, 3), (7, .ifCond .ne 5, 3), (10, .iconst 0, 1), (11, .ireturn, 1), (12, .aload_n 0, 1), (13, .getfield 154, 3), (16, .bipush 105, 2), (18, .if_icmp .ne 24, 3), (21, .aload_n 0, 1), (22, .aload_n 0, 1), (23, .getfield 157, 3), (26, .aload_n 0, 1), (27, .getfield 163, 3), (30, .aload_n 0, 1), (31, .getfield 166, 3), (34, .aload_n 0, 1), (35, .getfield 169, 3), (38, .invokevirtual 109, 3), (41, .ireturn, 1), (42, .aload_n 0, 1), (43, .getfield 154, 3), (46, .bipush 114, 2), (48, .if_icmp .ne 14, 3), (51, .aload_n 0, 1), (52, .aload_n 0, 1), (53, .getfield 157, 3), (56, .invokevirtual 115, 3), (59, .goto 37, 3), (62, .aload_n 0, 1), (63, .getfield 163, 3), (66, .invokestatic 94, 3), (69, .ifCond .eq 26, 3), (72, .aload_n 0, 1), (73, .aload_n 0, 1), (74, .getfield 157, 3), (77, .aload_n 0, 1), (78, .getfield 163, 3), (81, .aload_n 0, 1), (82, .getfield 166, 3), (85, .invokevirtual 112, 3), (88, .ifCond .eq 7, 3), (91, .iconst 1, 1), (92, .goto 4, 3), (95, .iconst 0, 1), (96, .ireturn, 1)]
theorem tkX8_does : ∀ e ∈ tbX8_does, decode cX8_does e.1 = .ok e.2 := by decide +kernel
abbrev tbX8_goesThrough : List (Nat × Instr × Nat) := [(0, .aload_n 0, 1), (1, .iconst 0, 1), (2, .putfield 148, 3), (5, .aload_n 0, 1), (6, .iconst 0, 1), (7, .putfield 144, 3), (10, .aload_n 0, 1), (11, .iconst 0, 1), (12, .putfield 172, 3), (15, .iload_n 1, 1), (16, .istore_n 2, 1), (17, .iconst 1, 1), (18, .istore_n 3, 1), (19, .iload_n 3, 1), (20, .ifCond .eq 103, 3), (23, .aload_n 0, 1), (24, .invokevirtual 175, 3), (27, .iload_n 2, 1), (28, .ifCond .eq 21, 3), (31, .aload_n 0, 1), (32, .getfield 144, 3), (35, .ifCond .ne 14, 3), (38, .aload_n 0, 1), (39, .invokevirtual 178, 3), (42, .ifCond .eq 7, 3), (45, .iconst 1, 1), (46, .goto 4, 3), (49, .iconst 0, 1), (50, .istore_n 2, 1), (51, .aload_n 0, 1), (52, .dup, 1), (53, .getfield 172, 3), (56, .iload_n 2, 1), (57, .ifCond .eq 7, 3), (60, .iconst 1, 1), (61, .goto 4, 3), (64, .iconst 0, 1), (65, .iadd, 1), (66, .putfield 172, 3), (69, .aload_n 0, 1), (70, .getfield 144, 3), (73, .ifCond .ne 18, 3), (76, .aload_n 0, 1), (77, .getfield 148, 3), (80, .aload_n 0, 1), (81, .getfield 141, 3), (84, .if_icmp .ge 7, 3), (87, .iconst 1, 1), (88, .goto 4, 3), (91, .iconst 0, 1), (92, .istore_n 3, 1), (93, .iload_n 3, 1), (94, .ifCond .eq (-75), 3), (97, .aload_n 0, 1), (98, .bipush 59, 2), (100, .bipush 59, 2), (102, .invokevirtual 151, 3), (105, .istore 4, 2), (107, .aload_n 0, 1), (108, .getfield 144, 3), (111, .ifCond .ne 7, 3), (114, .iconst 1, 1), (115, .goto 4, 3), (118, .iconst 0, 1), (119, .istore_n 3, 1), (120, .goto (-101), 3), (123, .return_, 1)]
theorem tkX8_goesThrough : ∀ e ∈ tbX8_goesThrough, decode cX8_goesThrough e.1 = .ok e.2 := by decide +kernel
abbrev tbX8_textError : List (Nat × Instr × Nat) := [(0, .aload_n 0, 1), (1, .iconst 0, 1), (2, .putfield 28, 3), (5, .aload_n 0, 1), (6, .iconst 0, 1), (7, .invokevirtual 181, 3), (10, .aload_n 0, 1), (11, .getfield 144, 3), (14, .ifCond .eq 10, 3), (17, .aload_n 0, 1), (18, .getfield 148, 3), (21, .goto 4, 3), (24, .iconst (-1), 1), (25, .ireturn, 1)]
theorem tkX8_textError : ∀ e ∈ tbX8_textError, decode cX8_textError e.1 = .ok e.2 := by decide +kernel
abbrev tbX8_runText : List (Nat × Instr × Nat) := [(0, .aload_n 0, 1), (1, .iconst 0, 1), (2, .invokevirtual 181, 3), (5, .aload_n 0, 1), (6, .aload_n 0, 1), (7, .getfield 144, 3), (10, .ifCond .eq 7, 3), (13, .iconst 1, 1), (14, .goto 4, 3), (17, .iconst 0, 1), (18, .invokevirtual 97, 3), (21, .ifCond .ne 5, 3), (24, .iconst 0, 1), (25, .ireturn, 1), (26, .aload_n 0, 1), (27, .invokevirtual 100, 3), (30, .aload_n 0, 1), (31, .iconst 1, 1), (32, .invokevirtual 181, 3), (35, .aload_n 0, 1), (36, .iconst 0, 1), (37, .putfield 141, 3), (40, .aload_n 0, 1), (41, .getfield 172, 3), (44, .ireturn, 1)]
theorem tkX8_runText : ∀ e ∈ tbX8_runText, decode cX8_runText e.1 = .ok e.2 := by decide +kernel
abbrev tbX8_undo : List (Nat × Instr × Nat) := [(0, .aload_n 0, 1), (1, .aload_n 0, 1), (2, .getfield 36, 3), (5, .ifCond .le 7, 3), (8, .iconst 0, 1), (9, .goto 4, 3), (12, .iconst 1, 1), (13, .invokevirtual 97, 3), (16, .ifCond .ne 5, 3), (19, .iconst 0, 1), (20, .ireturn, 1), (21, .aload_n 0, 1), (22, .dup, 1), (23, .getfield 36, 3), (26, .iconst 1, 1), (27, .isub, 1), (28, .putfield 36, 3), (31, .iconst 0, 1), (32, .istore_n 1, 1), (33, .iload_n 1, 1), (34, .sipush 132, 3), (37, .if_icmp .ge 30, 3), (40, .aload_n 0, 1), (41, .getfield 7, 3), (44, .iload_n 1, 1), (45, .aload_n 0, 1), (46, .getfield 16, 3), (49, .sipush 132, 3), (52, .aload_n 0, 1), (53, .getfield 36, 3), (56, .imul, 1), (57, .iload_n 1, 1), (58, .iadd, 1), (59, .iaload, 1), (60, .iastore, 1), (61, .iinc 1 1, 3), (64, .goto (-31), 3), (67, .aload_n 0, 1), (68, .getfield 36, 3), (71, .ireturn, 1)]
theorem tkX8_undo : ∀ e ∈ tbX8_undo, decode cX8_undo e.1 = .ok e.2 := by decide +kernel
abbrev tbX8_undoCount : List (Nat × Instr × Nat) := [(0, .aload_n 0, 1), (1, .iconst 0, 1), (2, .putfield 28, 3), (5, .aload_n 0, 1), (6, .getfield 36, 3), (9, .ireturn, 1)]
theorem tkX8_undoCount : ∀ e ∈ tbX8_undoCount, decode cX8_undoCount e.1 = .ok e.2 := by decide +kernel
abbrev tbX8_saveState : List (Nat × Instr × Nat) := [(0, .aload_n 0, 1), (1, .iload_n 1, 1), (2, .iconst 0, 1), (3, .iconst 1, 1), (4, .invokestatic 32, 3), (7, .ifCond .eq 7, 3), (10, .iconst 0, 1), (11, .goto 4, 3), (14, .iconst 1, 1), (15, .invokevirtual 97, 3), (18, .ifCond .ne 5, 3), (21, .iconst 0, 1), (22, .ireturn, 1), (23, .iconst 0, 1), (24, .istore_n 2, 1), (25, .iload_n 2, 1), (26, .sipush 132, 3), (29, .if_icmp .ge 27, 3), (32, .aload_n 0, 1), (33, .getfield 19, 3), (36, .sipush 132, 3), (39, .iload_n 1, 1), (40, .imul, 1), (41, .iload_n 2, 1), (42, .iadd, 1), (43, .aload_n 0, 1), (44, .getfield 7, 3), (47, .iload_n 2, 1), (48, .iaload, 1), (49, .iastore, 1), (50, .iinc 2 1, 3), (53, .goto (-28), 3), (56, .aload_n 0, 1), (57, .dup, 1), (58, .getfield 185, 3), (61, .iconst 1, 1), (62, .iload_n 1, 1), (63, .ishl, 1), (64, .ior, 1), (65, .putfield 185, 3), (68, .aload_n 0, 1), (69, .invokevirtual 121, 3), (72, .ireturn, 1)]
theorem tkX8_saveState : ∀ e ∈ tbX8_saveState, decode cX8_saveState e.1 = .ok e.2 := by decide +kernel
abbrev tbX8_loadState : List (Nat × Instr × Nat) := [(0, .aload_n 0, 1), (1, .iload_n 1, 1), (2, .iconst 0, 1), (3, .iconst 1, 1), (4, .invokestatic 32, 3), (7, .ifCond .ne 7, 3), (10, .iconst 1, 1), (11, .goto 19, 3), (14, .aload_n 0, 1), (15, .getfield 185, 3), (18, .iload_n 1, 1), (19, .ishr, 1), (20, .iconst 1, 1), (21, .iand, 1), (22, .ifCond .ne 7, 3), (25, .iconst 2, 1), (26, .goto 4, 3), (29, .iconst 0, 1), (30, .invokevirtual 97, 3), (33, .ifCond .ne 5, 3), (36, .iconst 0, 1), (37, .ireturn, 1), (38, .aload_n 0, 1), (39, .invokevirtual 100, 3), (42, .iconst 0, 1), (43, .istore_n 2, 1), (44, .iload_n 2, 1), (45, .sipush 132, 3), (48, .if_icmp .ge 27, 3), (51, .aload_n 0, 1), (52, .getfield 7, 3), (55, .iload_n 2, 1), (56, .aload_n 0, 1), (57, .getfield 19, 3), (60, .sipush 132, 3), (63, .iload_n 1, 1), (64, .imul, 1), (65, .iload_n 2, 1), (66, .iadd, 1), (67, .iaload, 1), (68, .iastore, 1), (69, .iinc 2 1, 3), (72, .goto (-28), 3), (75, .aload_n 0, 1), (76, .invokevirtual 121, 3), (79, .ireturn, 1)]
theorem tkX8_loadState : ∀ e ∈ tbX8_loadState, decode cX8_loadState e.1 = .ok e.2 := by decide +kernel
abbrev tbJ9_floorMod_7cf53 : List (Nat × Instr × Nat) := [(0, .iload_n 0, 1), (1, .iload_n 1, 1), (2, .irem, 1), (3, .istore_n 2, 1), (4, .iload_n 0, 1), (5, .iload_n 1, 1), (6, .ixor, 1), (7, .ifCond .ge 11, 3), (10, .iload_n 2, 1), (11, .ifCond .eq 7, 3), (14, .iload_n 2, 1), (15, .iload_n 1, 1), (16, .iadd, 1), (17, .ireturn, 1), (18, .iload_n 2, 1), (19, .ireturn, 1)]
theorem tkJ9_floorMod_7cf53 : ∀ e ∈ tbJ9_floorMod_7cf53, decode cJ9_floorMod_7cf53 e.1 = .ok e.2 := by decide +kernel
abbrev tbJ9_max_7cf53 : List (Nat × Instr × Nat) := [(0, .iload_n 0, 1), (1, .iload_n 1, 1), (2, .if_icmp .lt 7, 3), (5, .iload_n 0, 1), (6, .goto 4, 3), (9, .iload_n 1, 1), (10, .ireturn, 1)]
theorem tkJ9_max_7cf53 : ∀ e ∈ tbJ9_max_7cf53, decode cJ9_max_7cf53 e.1 = .ok e.2 := by decide +kernel
abbrev tbJ9_min_7cf53 : List (Nat × Instr × Nat) := [(0, .iload_n 0, 1), (1, .iload_n 1, 1), (2, .if_icmp .gt 7, 3), (5, .iload_n 0, 1), (6, .goto 4, 3), (9, .iload_n 1, 1), (10, .ireturn, 1)]
theorem tkJ9_min_7cf53 : ∀ e ∈ tbJ9_min_7cf53, decode cJ9_min_7cf53 e.1 = .ok e.2 := by decide +kernel
abbrev tbJ0_length_8abf5 : List (Nat × Instr × Nat) := [(0, .aload_n 0, 1), (1, .getfield 9, 3), (4, .arraylength, 1), (5, .aload_n 0, 1), (6, .invokevirtual 335, 3), (9, .ishr, 1), (10, .ireturn, 1)]
theorem tkJ0_length_8abf5 : ∀ e ∈ tbJ0_length_8abf5, decode cJ0_length_8abf5 e.1 = .ok e.2 := by decide +kernel
abbrev tbJ0_isEmpty_aae02 : List (Nat × Instr × Nat) := [(0, .aload_n 0, 1), (1, .getfield 9, 3), (4, .arraylength, 1), (5, .ifCond .ne 7, 3), (8, .iconst 1, 1), (9, .goto 4, 3), (12, .iconst 0, 1), (13, .ireturn, 1)]
theorem tkJ0_isEmpty_aae02 : ∀ e ∈ tbJ0_isEmpty_aae02, decode cJ0_isEmpty_aae02 e.1 = .ok e.2 := by decide +kernel
abbrev tbJ0_charAt_5068e : List (Nat × Instr × Nat) := [(0, .aload_n 0, 1), (1, .invokevirtual 492, 3), (4, .ifCond .eq 12, 3), (7, .aload_n 0, 1), (8, .getfield 9, 3), (11, .iload_n 1, 1), (12, .invokestatic 495, 3), (15, .ireturn, 1), (16, .aload_n 0, 1), (17, .getfield 9, 3), (20, .iload_n 1, 1), (21, .invokestatic 498, 3), (24, .ireturn, 1)]
theorem tkJ0_charAt_5068e : ∀ e ∈ tbJ0_charAt_5068e, decode cJ0_charAt_5068e e.1 = .ok e.2 := by decide +kernel
abbrev tbJ0_coder_7d493 : List (Nat × Instr × Nat) := [(0, .getstatic 38, 3), (3, .ifCond .eq 10, 3), (6, .aload_n 0, 1), (7, .getfield 15, 3), (10, .goto 4, 3), (13, .iconst 1, 1), (14, .ireturn, 1)]
theorem tkJ0_coder_7d493 : ∀ e ∈ tbJ0_coder_7d493, decode cJ0_coder_7d493 e.1 = .ok e.2 := by decide +kernel
abbrev tbJ0_isLatin1_aae02 : List (Nat × Instr × Nat) := [(0, .getstatic 38, 3), (3, .ifCond .eq 14, 3), (6, .aload_n 0, 1), (7, .getfield 15, 3), (10, .ifCond .ne 7, 3), (13, .iconst 1, 1), (14, .goto 4, 3), (17, .iconst 0, 1), (18, .ireturn, 1)]
theorem tkJ0_isLatin1_aae02 : ∀ e ∈ tbJ0_isLatin1_aae02, decode cJ0_isLatin1_aae02 e.1 = .ok e.2 := by decide +kernel
abbrev tbJ0_checkIndex_df160 : List (Nat × Instr × Nat) := [(0, .iload_n 0, 1), (1, .iload_n 1, 1), (2, .getstatic 1053, 3), (5, .invokestatic 1059, 3), (8, .pop, 1), (9, .return_, 1)]
theorem tkJ0_checkIndex_df160 : ∀ e ∈ tbJ0_checkIndex_df160, decode cJ0_checkIndex_df160 e.1 = .ok e.2 := by decide +kernel
abbrev tbJ1_charAt_3b067 : List (Nat × Instr × Nat) := [(0, .iload_n 1, 1), (1, .aload_n 0, 1), (2, .arraylength, 1), (3, .invokestatic 9, 3), (6, .aload_n 0, 1), (7, .iload_n 1, 1), (8, .baload, 1), (9, .sipush 255, 3), (12, .iand, 1), (13, .i2c, 1), (14, .ireturn, 1)]
theorem tkJ1_charAt_3b067 : ∀ e ∈ tbJ1_charAt_3b067, decode cJ1_charAt_3b067 e.1 = .ok e.2 := by decide +kernel
abbrev tbJ2_getChar_3b067 : List (Nat × Instr × Nat) := [(0, .getstatic 44, 3), (3, .ifCond .ne 25, 3), (6, .iload_n 1, 1), (7, .ifCond .lt 11, 3), (10, .iload_n 1, 1), (11, .aload_n 0, 1), (12, .invokestatic 48, 3), (15, .if_icmp .lt 13, 3), (18, .new 52, 3), (21, .dup, 1), (22, .ldc 54, 2), (24, .invokespecial 56, 3), (27, .athrow, 1), (28, .iload_n 1, 1), (29, .iconst 1, 1), (30, .ishl, 1), (31, .istore_n 1, 1), (32, .aload_n 0, 1), (33, .iload_n 1, 1), (34, .iinc 1 1, 3), (37, .baload, 1), (38, .sipush 255, 3), (41, .iand, 1), (42, .getstatic 59, 3), (45, .ishl, 1), (46, .aload_n 0, 1), (47, .iload_n 1, 1), (48, .baload, 1), (49, .sipush 255, 3), (52, .iand, 1), (53, .getstatic 63, 3), (56, .ishl, 1), (57, .ior, 1), (58, .i2c, 1), (59, .ireturn, 1)]
theorem tkJ2_getChar_3b067 : ∀ e ∈ tbJ2_getChar_3b067, decode cJ2_getChar_3b067 e.1 = .ok e.2 := by decide +kernel
abbrev tbJ2_length_9d52b : List (Nat × Instr × Nat) := [(0, .aload_n 0, 1), (1, .arraylength, 1), (2, .iconst 1, 1), (3, .ishr, 1), (4, .ireturn, 1)]
theorem tkJ2_length_9d52b : ∀ e ∈ tbJ2_length_9d52b, decode cJ2_length_9d52b e.1 = .ok e.2 := by decide +kernel
abbrev tbJ2_charAt_3b067 : List (Nat × Instr × Nat) := [(0, .iload_n 1, 1), (1, .aload_n 0, 1), (2, .invokestatic 67, 3), (5, .aload_n 0, 1), (6, .iload_n 1, 1), (7, .invokestatic 71, 3), (10, .ireturn, 1)]
theorem tkJ2_charAt_3b067 : ∀ e ∈ tbJ2_charAt_3b067, decode cJ2_charAt_3b067 e.1 = .ok e.2 := by decide +kernel
abbrev tbJ2_checkIndex_2214a : List (Nat × Instr × Nat) := [(0, .iload_n 0, 1), (1, .aload_n 1, 1), (2, .invokestatic 48, 3), (5, .invokestatic 414, 3), (8, .return_, 1)]
theorem tkJ2_checkIndex_2214a : ∀ e ∈ tbJ2_checkIndex_2214a, decode cJ2_checkIndex_2214a e.1 = .ok e.2 := by decide +kernel
abbrev tbJ3_checkIndex_8e157 : List (Nat × Instr × Nat) := [(0, .iload_n 0, 1), (1, .ifCond .lt 8, 3), (4, .iload_n 0, 1), (5, .iload_n 1, 1), (6, .if_icmp .lt 10, 3), (9, .aload_n 2, 1), (10, .iload_n 0, 1), (11, .iload_n 1, 1), (12, .invokestatic 95, 3), (15, .athrow, 1), (16, .iload_n 0, 1), (17, .ireturn, 1)]
theorem tkJ3_checkIndex_8e157 : ∀ e ∈ tbJ3_checkIndex_8e157, decode cJ3_checkIndex_8e157 e.1 = .ok e.2 := by decide +kernel
abbrev tbL_addRule : List (Nat × Instr × Nat) := [(0, .aload 4, 2), (2, .iconst 0, 1), (3, .aload_n 0, 1), (4, .iload_n 1, 1), (5, .iload_n 2, 1), (6, .iload_n 3, 1), (7, .invokevirtual 7, 3), (10, .i2l, 1), (11, .lastore, 1), (12, .goto 11, 3), (15, .astore 5, 2), (17, .iconst 1, 1), (18, .ireturn, 1), (19, .astore 5, 2), (21, .iconst 2, 1), (22, .ireturn, 1), (23, .iconst 0, 1), (24, .ireturn, 1)]
theorem tkL_addRule : ∀ e ∈ tbL_addRule, decode cL_addRule e.1 = .ok e.2 := by decide +kernel
abbrev tbL_setAction : List (Nat × Instr × Nat) := [(0, .aload 6, 2), (2, .iconst 0, 1), (3, .aload_n 0, 1), (4, .iload_n 1, 1), (5, .iload_n 2, 1), (6, .iload_n 3, 1), (7, .iload 4, 2), (9, .iload 5, 2), (11, .invokevirtual 17, 3), (14, .i2l, 1), (15, .lastore, 1), (16, .goto 11, 3), (19, .astore 7, 2), (21, .iconst 1, 1), (22, .ireturn, 1), (23, .astore 7, 2), (25, .iconst 2, 1), (26, .ireturn, 1), (27, .iconst 0, 1), (28, .ireturn, 1)]
theorem tkL_setAction : ∀ e ∈ tbL_setAction, decode cL_setAction e.1 = .ok e.2 := by decide +kernel
abbrev tbL_turnMute : List (Nat × Instr × Nat) := [(0, .aload_n 2, 1), (1, .iconst 0, 1), (2, .aload_n 0, 1), (3, .iload_n 1, 1), (4, .invokevirtual 23, 3), (7, .ifCond .eq 7, 3), (10, .lconst 1, 1), (11, .goto 4, 3), (14, .lconst 0, 1), (15, .lastore, 1), (16, .goto 6, 3), (19, .astore_n 3, 1), (20, .iconst 1, 1), (21, .ireturn, 1), (22, .iconst 0, 1), (23, .ireturn, 1)]
theorem tkL_turnMute : ∀ e ∈ tbL_turnMute, decode cL_turnMute e.1 = .ok e.2 := by decide +kernel
abbrev tbL_dropRule : List (Nat × Instr × Nat) := [(0, .aload_n 2, 1), (1, .iconst 0, 1), (2, .aload_n 0, 1), (3, .iload_n 1, 1), (4, .invokevirtual 27, 3), (7, .i2l, 1), (8, .lastore, 1), (9, .goto 6, 3), (12, .astore_n 3, 1), (13, .iconst 1, 1), (14, .ireturn, 1), (15, .iconst 0, 1), (16, .ireturn, 1)]
theorem tkL_dropRule : ∀ e ∈ tbL_dropRule, decode cL_dropRule e.1 = .ok e.2 := by decide +kernel
abbrev tbL_setDepth : List (Nat × Instr × Nat) := [(0, .aload_n 2, 1), (1, .iconst 0, 1), (2, .aload_n 0, 1), (3, .iload_n 1, 1), (4, .invokevirtual 31, 3), (7, .i2l, 1), (8, .lastore, 1), (9, .goto 6, 3), (12, .astore_n 3, 1), (13, .iconst 1, 1), (14, .ireturn, 1), (15, .iconst 0, 1), (16, .ireturn, 1)]
theorem tkL_setDepth : ∀ e ∈ tbL_setDepth, decode cL_setDepth e.1 = .ok e.2 := by decide +kernel
abbrev tbL_insert : List (Nat × Instr × Nat) := [(0, .aload 5, 2), (2, .iconst 0, 1), (3, .aload_n 0, 1), (4, .iload_n 1, 1), (5, .iload_n 2, 1), (6, .iload_n 3, 1), (7, .iload 4, 2), (9, .invokevirtual 34, 3), (12, .i2l, 1), (13, .lastore, 1), (14, .goto 15, 3), (17, .astore 6, 2), (19, .iconst 1, 1), (20, .ireturn, 1), (21, .astore 6, 2), (23, .iconst 2, 1), (24, .ireturn, 1), (25, .astore 6, 2), (27, .iconst 3, 1), (28, .ireturn, 1), (29, .iconst 0, 1), (30, .ireturn, 1)]
theorem tkL_insert : ∀ e ∈ tbL_insert, decode cL_insert e.1 = .ok e.2 := by decide +kernel
abbrev tbL_update : List (Nat × Instr × Nat) := [(0, .aload 4, 2), (2, .iconst 0, 1), (3, .aload_n 0, 1), (4, .iload_n 1, 1), (5, .iload_n 2, 1), (6, .iload_n 3, 1), (7, .invokevirtual 38, 3), (10, .i2l, 1), (11, .lastore, 1), (12, .goto 15, 3), (15, .astore 5, 2), (17, .iconst 1, 1), (18, .ireturn, 1), (19, .astore 5, 2), (21, .iconst 2, 1), (22, .ireturn, 1), (23, .astore 5, 2), (25, .iconst 3, 1), (26, .ireturn, 1), (27, .iconst 0, 1), (28, .ireturn, 1)]
theorem tkL_update : ∀ e ∈ tbL_update, decode cL_update e.1 = .ok e.2 := by decide +kernel
abbrev tbL_remove : List (Nat × Instr × Nat) := [(0, .aload_n 2, 1), (1, .iconst 0, 1), (2, .aload_n 0, 1), (3, .iload_n 1, 1), (4, .invokevirtual 41, 3), (7, .i2l, 1), (8, .lastore, 1), (9, .goto 9, 3), (12, .astore_n 3, 1), (13, .iconst 1, 1), (14, .ireturn, 1), (15, .astore_n 3, 1), (16, .iconst 2, 1), (17, .ireturn, 1), (18, .iconst 0, 1), (19, .ireturn, 1)]
theorem tkL_remove : ∀ e ∈ tbL_remove, decode cL_remove e.1 = .ok e.2 := by decide +kernel
abbrev tbL_whyNotUpdate : List (Nat × Instr × Nat) := [(0, .aload 4, 2), (2, .iconst 0, 1), (3, .aload_n 0, 1), (4, .iload_n 1, 1), (5, .iload_n 2, 1), (6, .iload_n 3, 1), (7, .invokevirtual 44, 3), (10, .i2l, 1), (11, .lastore, 1), (12, .goto 11, 3), (15, .astore 5, 2), (17, .iconst 1, 1), (18, .ireturn, 1), (19, .astore 5, 2), (21, .iconst 2, 1), (22, .ireturn, 1), (23, .iconst 0, 1), (24, .ireturn, 1)]
theorem tkL_whyNotUpdate : ∀ e ∈ tbL_whyNotUpdate, decode cL_whyNotUpdate e.1 = .ok e.2 := by decide +kernel
abbrev tbL_eventsOfUpdate : List (Nat × Instr × Nat) := [(0, .aload 4, 2), (2, .iconst 0, 1), (3, .aload_n 0, 1), (4, .iload_n 1, 1), (5, .iload_n 2, 1), (6, .iload_n 3, 1), (7, .invokevirtual 47, 3), (10, .i2l, 1), (11, .lastore, 1), (12, .goto 11, 3), (15, .astore 5, 2), (17, .iconst 1, 1), (18, .ireturn, 1), (19, .astore 5, 2), (21, .iconst 2, 1), (22, .ireturn, 1), (23, .iconst 0, 1), (24, .ireturn, 1)]
theorem tkL_eventsOfUpdate : ∀ e ∈ tbL_eventsOfUpdate, decode cL_eventsOfUpdate e.1 = .ok e.2 := by decide +kernel
abbrev tbL_depthOfUpdate : List (Nat × Instr × Nat) := [(0, .aload 4, 2), (2, .iconst 0, 1), (3, .aload_n 0, 1), (4, .iload_n 1, 1), (5, .iload_n 2, 1), (6, .iload_n 3, 1), (7, .invokevirtual 50, 3), (10, .i2l, 1), (11, .lastore, 1), (12, .goto 11, 3), (15, .astore 5, 2), (17, .iconst 1, 1), (18, .ireturn, 1), (19, .astore 5, 2), (21, .iconst 2, 1), (22, .ireturn, 1), (23, .iconst 0, 1), (24, .ireturn, 1)]
theorem tkL_depthOfUpdate : ∀ e ∈ tbL_depthOfUpdate, decode cL_depthOfUpdate e.1 = .ok e.2 := by decide +kernel
abbrev tbL_hasRow : List (Nat × Instr × Nat) := [(0, .aload_n 2, 1), (1, .iconst 0, 1), (2, .aload_n 0, 1), (3, .iload_n 1, 1), (4, .invokevirtual 53, 3), (7, .ifCond .eq 7, 3), (10, .lconst 1, 1), (11, .goto 4, 3), (14, .lconst 0, 1), (15, .lastore, 1), (16, .goto 6, 3), (19, .astore_n 3, 1), (20, .iconst 1, 1), (21, .ireturn, 1), (22, .iconst 0, 1), (23, .ireturn, 1)]
theorem tkL_hasRow : ∀ e ∈ tbL_hasRow, decode cL_hasRow e.1 = .ok e.2 := by decide +kernel
abbrev tbL_valueAt : List (Nat × Instr × Nat) := [(0, .aload_n 3, 1), (1, .iconst 0, 1), (2, .aload_n 0, 1), (3, .iload_n 1, 1), (4, .iload_n 2, 1), (5, .invokevirtual 56, 3), (8, .i2l, 1), (9, .lastore, 1), (10, .goto 11, 3), (13, .astore 4, 2), (15, .iconst 1, 1), (16, .ireturn, 1), (17, .astore 4, 2), (19, .iconst 2, 1), (20, .ireturn, 1), (21, .iconst 0, 1), (22, .ireturn, 1)]
theorem tkL_valueAt : ∀ e ∈ tbL_valueAt, decode cL_valueAt e.1 = .ok e.2 := by decide +kernel
abbrev tbL_sumOf : List (Nat × Instr × Nat) := [(0, .aload_n 2, 1), (1, .iconst 0, 1), (2, .aload_n 0, 1), (3, .iload_n 1, 1), (4, .invokevirtual 60, 3), (7, .i2l, 1), (8, .lastore, 1), (9, .goto 6, 3), (12, .astore_n 3, 1), (13, .iconst 1, 1), (14, .ireturn, 1), (15, .iconst 0, 1), (16, .ireturn, 1)]
theorem tkL_sumOf : ∀ e ∈ tbL_sumOf, decode cL_sumOf e.1 = .ok e.2 := by decide +kernel
abbrev tbL_actionOf : List (Nat × Instr × Nat) := [(0, .aload_n 2, 1), (1, .iconst 0, 1), (2, .aload_n 0, 1), (3, .iload_n 1, 1), (4, .invokevirtual 63, 3), (7, .i2l, 1), (8, .lastore, 1), (9, .goto 6, 3), (12, .astore_n 3, 1), (13, .iconst 1, 1), (14, .ireturn, 1), (15, .iconst 0, 1), (16, .ireturn, 1)]
theorem tkL_actionOf : ∀ e ∈ tbL_actionOf, decode cL_actionOf e.1 = .ok e.2 := by decide +kernel
abbrev tbL_isMuted : List (Nat × Instr × Nat) := [(0, .aload_n 2, 1), (1, .iconst 0, 1), (2, .aload_n 0, 1), (3, .iload_n 1, 1), (4, .invokevirtual 66, 3), (7, .ifCond .eq 7, 3), (10, .lconst 1, 1), (11, .goto 4, 3), (14, .lconst 0, 1), (15, .lastore, 1), (16, .goto 6, 3), (19, .astore_n 3, 1), (20, .iconst 1, 1), (21, .ireturn, 1), (22, .iconst 0, 1), (23, .ireturn, 1)]
theorem tkL_isMuted : ∀ e ∈ tbL_isMuted, decode cL_isMuted e.1 = .ok e.2 := by decide +kernel
abbrev tbL_actsOf : List (Nat × Instr × Nat) := [(0, .aload_n 2, 1), (1, .iconst 0, 1), (2, .aload_n 0, 1), (3, .iload_n 1, 1), (4, .invokevirtual 69, 3), (7, .i2l, 1), (8, .lastore, 1), (9, .goto 6, 3), (12, .astore_n 3, 1), (13, .iconst 1, 1), (14, .ireturn, 1), (15, .iconst 0, 1), (16, .ireturn, 1)]
theorem tkL_actsOf : ∀ e ∈ tbL_actsOf, decode cL_actsOf e.1 = .ok e.2 := by decide +kernel
abbrev tbL_loggedRule : List (Nat × Instr × Nat) := [(0, .aload_n 2, 1), (1, .iconst 0, 1), (2, .aload_n 0, 1), (3, .iload_n 1, 1), (4, .invokevirtual 72, 3), (7, .i2l, 1), (8, .lastore, 1), (9, .goto 6, 3), (12, .astore_n 3, 1), (13, .iconst 1, 1), (14, .ireturn, 1), (15, .iconst 0, 1), (16, .ireturn, 1)]
theorem tkL_loggedRule : ∀ e ∈ tbL_loggedRule, decode cL_loggedRule e.1 = .ok e.2 := by decide +kernel
abbrev tbL_loggedDepth : List (Nat × Instr × Nat) := [(0, .aload_n 2, 1), (1, .iconst 0, 1), (2, .aload_n 0, 1), (3, .iload_n 1, 1), (4, .invokevirtual 75, 3), (7, .i2l, 1), (8, .lastore, 1), (9, .goto 6, 3), (12, .astore_n 3, 1), (13, .iconst 1, 1), (14, .ireturn, 1), (15, .iconst 0, 1), (16, .ireturn, 1)]
theorem tkL_loggedDepth : ∀ e ∈ tbL_loggedDepth, decode cL_loggedDepth e.1 = .ok e.2 := by decide +kernel
abbrev tbL_canSetOff : List (Nat × Instr × Nat) := [(0, .aload_n 3, 1), (1, .iconst 0, 1), (2, .aload_n 0, 1), (3, .iload_n 1, 1), (4, .iload_n 2, 1), (5, .invokevirtual 78, 3), (8, .ifCond .eq 7, 3), (11, .lconst 1, 1), (12, .goto 4, 3), (15, .lconst 0, 1), (16, .lastore, 1), (17, .goto 7, 3), (20, .astore 4, 2), (22, .iconst 1, 1), (23, .ireturn, 1), (24, .iconst 0, 1), (25, .ireturn, 1)]
theorem tkL_canSetOff : ∀ e ∈ tbL_canSetOff, decode cL_canSetOff e.1 = .ok e.2 := by decide +kernel
abbrev tbL_reachOf : List (Nat × Instr × Nat) := [(0, .aload_n 2, 1), (1, .iconst 0, 1), (2, .aload_n 0, 1), (3, .iload_n 1, 1), (4, .invokevirtual 82, 3), (7, .i2l, 1), (8, .lastore, 1), (9, .goto 6, 3), (12, .astore_n 3, 1), (13, .iconst 1, 1), (14, .ireturn, 1), (15, .iconst 0, 1), (16, .ireturn, 1)]
theorem tkL_reachOf : ∀ e ∈ tbL_reachOf, decode cL_reachOf e.1 = .ok e.2 := by decide +kernel
abbrev tbL_reachByTable : List (Nat × Instr × Nat) := [(0, .aload_n 2, 1), (1, .iconst 0, 1), (2, .aload_n 0, 1), (3, .iload_n 1, 1), (4, .invokevirtual 85, 3), (7, .i2l, 1), (8, .lastore, 1), (9, .goto 6, 3), (12, .astore_n 3, 1), (13, .iconst 1, 1), (14, .ireturn, 1), (15, .iconst 0, 1), (16, .ireturn, 1)]
theorem tkL_reachByTable : ∀ e ∈ tbL_reachByTable, decode cL_reachByTable e.1 = .ok e.2 := by decide +kernel
abbrev tbL_appendText : List (Nat × Instr × Nat) := [(0, .aload_n 3, 1), (1, .iconst 0, 1), (2, .aload_n 0, 1), (3, .lload_n 1, 1), (4, .invokevirtual 88, 3), (7, .i2l, 1), (8, .lastore, 1), (9, .goto 11, 3), (12, .astore 4, 2), (14, .iconst 1, 1), (15, .ireturn, 1), (16, .astore 4, 2), (18, .iconst 2, 1), (19, .ireturn, 1), (20, .iconst 0, 1), (21, .ireturn, 1)]
theorem tkL_appendText : ∀ e ∈ tbL_appendText, decode cL_appendText e.1 = .ok e.2 := by decide +kernel
abbrev tbL_runText : List (Nat × Instr × Nat) := [(0, .aload_n 1, 1), (1, .iconst 0, 1), (2, .aload_n 0, 1), (3, .invokevirtual 92, 3), (6, .i2l, 1), (7, .lastore, 1), (8, .goto 6, 3), (11, .astore_n 2, 1), (12, .iconst 1, 1), (13, .ireturn, 1), (14, .iconst 0, 1), (15, .ireturn, 1)]
theorem tkL_runText : ∀ e ∈ tbL_runText, decode cL_runText e.1 = .ok e.2 := by decide +kernel
abbrev tbL_undo : List (Nat × Instr × Nat) := [(0, .aload_n 1, 1), (1, .iconst 0, 1), (2, .aload_n 0, 1), (3, .invokevirtual 96, 3), (6, .i2l, 1), (7, .lastore, 1), (8, .goto 6, 3), (11, .astore_n 2, 1), (12, .iconst 1, 1), (13, .ireturn, 1), (14, .iconst 0, 1), (15, .ireturn, 1)]
theorem tkL_undo : ∀ e ∈ tbL_undo, decode cL_undo e.1 = .ok e.2 := by decide +kernel
abbrev tbL_saveState : List (Nat × Instr × Nat) := [(0, .aload_n 2, 1), (1, .iconst 0, 1), (2, .aload_n 0, 1), (3, .iload_n 1, 1), (4, .invokevirtual 99, 3), (7, .i2l, 1), (8, .lastore, 1), (9, .goto 6, 3), (12, .astore_n 3, 1), (13, .iconst 1, 1), (14, .ireturn, 1), (15, .iconst 0, 1), (16, .ireturn, 1)]
theorem tkL_saveState : ∀ e ∈ tbL_saveState, decode cL_saveState e.1 = .ok e.2 := by decide +kernel
abbrev tbL_loadState : List (Nat × Instr × Nat) := [(0, .aload_n 2, 1), (1, .iconst 0, 1), (2, .aload_n 0, 1), (3, .iload_n 1, 1), (4, .invokevirtual 102, 3), (7, .i2l, 1), (8, .lastore, 1), (9, .goto 9, 3), (12, .astore_n 3, 1), (13, .iconst 1, 1), (14, .ireturn, 1), (15, .astore_n 3, 1), (16, .iconst 2, 1), (17, .ireturn, 1), (18, .iconst 0, 1), (19, .ireturn, 1)]
theorem tkL_loadState : ∀ e ∈ tbL_loadState, decode cL_loadState e.1 = .ok e.2 := by decide +kernel
end
section
/-! ===== THE PURE MACHINE: a method's walk, told over cells that have logical addresses (k < 1000: made by the run, at B + lay k; the others lie below B and stay as they are) ===== -/
theorem tk {cc : ByteArray} {tb : List (Nat × Instr × Nat)} (h : ∀ e ∈ tb, decode cc e.1 = .ok e.2) (i : Nat) {pc : Nat} {ins : Instr} {n : Nat} (hi : tb[i]? = some (pc, ins, n)) : decode cc pc = .ok (ins, n) := by
  have h1 := h (pc, ins, n) (List.mem_of_getElem? hi)
  dsimp only at h1
  exact h1
def UU : List Cond := lw_tbl.filter goodWord
theorem UU_in (i : Nat) {w : Cond} (h : lw_tbl[i]? = some w) (g : goodWord w = true) : w ∈ UU := List.mem_filter.mpr ⟨List.mem_of_getElem? h, g⟩
theorem UU_good : GoodIn UU UU := fun w h => ⟨h, good_of_word (List.mem_filter.mp h).2⟩
def un_ok : Cond → Bool
  | .declares _ => true
  | .castable .. => true
  | .methodLinkNest .. => true
  | _ => false
def UN : List Cond := lw_tbl.filter un_ok
theorem UN_in (i : Nat) {w : Cond} (h : lw_tbl[i]? = some w) (g : un_ok w = true) : w ∈ UN := List.mem_filter.mpr ⟨List.mem_of_getElem? h, g⟩
def layT : List Nat := [1, 2, 3, 4, 5, 6, 7, 8, 9, 10, 11, 12, 13, 14, 15, 500, 17, 18, 19, 20, 21, 22, 23, 24, 25, 26, 27, 28, 29, 30, 31, 501, 39, 40, 41, 42, 43, 44, 45, 46, 47, 48, 49, 50, 51, 52, 53, 502, 54, 55, 56, 57, 58, 59, 60, 61, 62, 63, 64, 65, 66, 67, 68, 503, 69, 70, 71, 72, 73, 74, 75, 76, 77, 78, 79, 80, 81, 82, 83, 504, 84, 85, 86, 87, 88, 89, 90, 91, 92, 93, 94, 95, 96, 97, 98, 505, 99, 100, 101, 102, 103, 104, 105, 106, 107, 108, 109, 110, 111, 112, 113, 506, 114, 115, 116, 117, 118, 119, 120, 121, 122, 123, 124, 125, 126, 127, 128, 507, 131, 132, 133, 134, 135, 136, 137, 138, 139, 140, 141, 142, 143, 144, 145, 508, 146, 147, 148, 149, 150, 151, 152, 153, 154, 155, 156, 157, 158, 159, 160, 509, 0, 16, 32, 33, 34, 35, 36, 37, 38, 129, 130, 161, 162, 163, 164, 165, 166, 167, 168]
def lay (k : Nat) : Nat := if k < 179 then layT.getD k 0 else 600 + k
theorem lay_lt : ∀ i, i < 179 → layT.getD i 0 < 600 := by decide +kernel
theorem lay_ne : ∀ i, i < 179 → ∀ j, j < 179 → layT.getD i 0 = layT.getD j 0 → i = j := by decide +kernel
theorem lay_inj {i j : Nat} (h : lay i = lay j) : i = j := by
  unfold lay at h
  by_cases hi : i < 179 <;> by_cases hj : j < 179
  · rw [if_pos hi, if_pos hj] at h; exact lay_ne i hi j hj h
  · rw [if_pos hi, if_neg hj] at h; have := lay_lt i hi; omega
  · rw [if_neg hi, if_pos hj] at h; have := lay_lt j hj; omega
  · rw [if_neg hi, if_neg hj] at h; omega
/-- the machine's side of a run: classes' numbers and slots, array classes, the first address of its own, the old cells' addresses -/
abbrev PG : Type := va_G × (FieldType → ClassId) × Nat × (Nat → Nat)
def ad (G : PG) (k : Nat) : Nat := if k < 1000 then G.2.2.1 + lay k else G.2.2.2 k
theorem ad_lo {G : PG} {k : Nat} (h : k < 1000) : ad G k = G.2.2.1 + lay k := if_pos h
theorem ad_hi {G : PG} {k : Nat} (h : 1000 ≤ k) : ad G k = G.2.2.2 k := if_neg (by omega)
def cv (G : PG) : Value → Value
  | .ref k => .ref (ad G k)
  | .int x => .int x
  | .long x => .long x
  | .float x => .float x
  | .double x => .double x
  | .null => .null
  | .retAddr x => .retAddr x
theorem cv_cat (G : PG) (v : Value) : (cv G v).category = v.category := by cases v <;> rfl
abbrev Cel : Type := (FieldType × Nat × (Nat → Value)) ⊕ (Nat × (Nat → Value))
abbrev Hp : Type := Option Nat × (Nat → Option Cel)
abbrev Out : Type := Option Value ⊕ String
def upH (h : Hp) (k : Nat) (c : Cel) : Hp := (h.1, fun j => if j = k then some c else h.2 j)
theorem upH_same (h : Hp) (k : Nat) (c : Cel) : (upH h k c).2 k = some c := if_pos rfl
theorem upH_ne (h : Hp) {k j : Nat} (c : Cel) (n : j ≠ k) : (upH h k c).2 j = h.2 j := if_neg n
abbrev tyl : List FieldType := [.int, .boolean, .char, .long, .object "RowTriggers$Rule", .object "RowTriggers$State"]
def tys (G : PG) : List (ClassId × FieldType) := tyl.map fun t => (G.2.1 t, t)
def at_c (G : PG) (a : Nat) (c : Cel) (H : Heap) : Prop := match c with
  | .inl x => H[a]? = some (arrV (G.2.1 x.1) x.2.1 (fun j => cv G (x.2.2 j)))
  | .inr o => ∃ r : vw_C, vwCl[o.1]? = some r ∧ t_OB a (G.1.1 o.1) r.2.2 (G.1.2 o.1) H (fun k => cv G (o.2 k))
theorem at_c.kept {G : PG} {a : Nat} {c : Cel} {H H1 : Heap} (h : at_c G a c H) (hq : H1[a]? = H[a]?) : at_c G a c H1 := by
  cases c with
  | inl x => exact hq.trans h
  | inr o =>
    obtain ⟨r, h1, h2⟩ := h
    exact ⟨r, h1, h2.kept hq⟩
theorem at_c.lt {G : PG} {a : Nat} {c : Cel} {H : Heap} (h : at_c G a c H) : a < H.size := by
  cases c with
  | inl x => exact (Array.getElem?_eq_some_iff.mp h).1
  | inr o =>
    obtain ⟨r, h1, cell, h2, -⟩ := h
    exact (Array.getElem?_eq_some_iff.mp h2).1
/-- the heap H holds the cells h -/
def Rp (G : PG) (h : Hp) (H : Heap) : Prop := (∀ z, h.1 = some z → H.size = G.2.2.1 + z) ∧ G.2.2.1 ≤ H.size ∧ ∀ k c, h.2 k = some c → k < 1000 ∧ at_c G (ad G k) c H
/-- a cell is changed: the others stay -/
theorem Rp.put {G : PG} {h : Hp} {H H1 : Heap} (R : Rp G h H) {k : Nat} {c0 c : Cel} (h0 : h.2 k = some c0) (z : H1.size = H.size) (o : ∀ q : Nat, q ≠ ad G k → H1[q]? = H[q]?) (hc : at_c G (ad G k) c H1) : Rp G (upH h k c) H1 := by
  refine ⟨fun y hy => by rw [z]; exact R.1 y hy, by rw [z]; exact R.2.1, fun j cj hj => ?_⟩
  by_cases e : j = k
  · subst e
    rw [upH_same] at hj
    cases hj
    exact ⟨(R.2.2 _ _ h0).1, hc⟩
  · rw [upH_ne _ _ e] at hj
    obtain ⟨l1, l2⟩ := R.2.2 _ _ hj
    refine ⟨l1, l2.kept (o _ ?_)⟩
    have lk := (R.2.2 _ _ h0).1
    rw [ad_lo l1, ad_lo lk]
    intro q
    exact e (lay_inj (by omega))
/-- a cell is made, at the place that is next -/
theorem Rp.push {G : PG} {h : Hp} {H H1 : Heap} (R : Rp G h H) {k : Nat} {c : Cel} (hk : k < 1000) (hz : h.1 = some (lay k)) (z : H1.size = H.size + 1) (o : ∀ q : Nat, q < H.size → H1[q]? = H[q]?) (hc : at_c G H.size c H1) : Rp G (some (lay k + 1), (upH h k c).2) H1 := by
  have e1 := R.1 _ hz
  have ea : ad G k = H.size := by rw [ad_lo hk, e1]
  refine ⟨fun y hy => by cases hy; omega, by omega, fun j cj hj => ?_⟩
  by_cases e : j = k
  · subst e
    rw [upH_same] at hj
    cases hj
    exact ⟨hk, by rw [ea]; exact hc⟩
  · rw [upH_ne _ _ e] at hj
    obtain ⟨l1, l2⟩ := R.2.2 _ _ hj
    exact ⟨l1, l2.kept (o _ l2.lt)⟩
theorem Rp.grow {G : PG} {h : Hp} {H H1 : Heap} (R : Rp G h H) (z : H.size ≤ H1.size) (o : ∀ q : Nat, q < H.size → H1[q]? = H[q]?) : Rp G (none, h.2) H1 :=
  ⟨fun _ hy => (nomatch hy), Nat.le_trans R.2.1 z, fun j cj hj => ⟨(R.2.2 _ _ hj).1, (R.2.2 _ _ hj).2.kept (o _ (R.2.2 _ _ hj).2.lt)⟩⟩
abbrev fr (G : PG) : Nat → Prop := fun q => G.2.2.1 ≤ q
def strs : List (Nat × String) := [(61, "event, column or least is out of range"), (72, "there are 8 rules"), (289, "there is no such rule"), (96, "action, row, column or amount is out of range"), (120, "depth is out of range"), (282, "there is no such row"), (287, "a value is out of range"), (162, "the row does not allow it, or the statement is refused"), (285, "there is no such column"), (176, "the row is not there"), (291, "the log has not so many acts"), (226, "no character, a code out of range, or bits above the end"), (231, "the text would be longer than 80 characters"), (244, "the text has an error"), (270, "no state is recorded"), (293, "there is no such slot"), (278, "nothing was saved in the slot")]
def ncs : List (String × String) := [("java/lang/IllegalArgumentException", "java/lang/IllegalStateException"), ("java/lang/IllegalArgumentException", "java/lang/IndexOutOfBoundsException"), ("java/lang/IllegalStateException", "java/lang/IllegalArgumentException"), ("java/lang/IllegalStateException", "java/lang/IndexOutOfBoundsException"), ("java/lang/IndexOutOfBoundsException", "java/lang/IllegalArgumentException"), ("java/lang/IndexOutOfBoundsException", "java/lang/IllegalStateException")]
def tix : Nat → Nat × String := fun i => match i with
  | 0 => (58, "d=v,v,v")
  | 1 => (60, "d.d=v")
  | 2 => (62, "d")
  | _ => (64, "")
abbrev tlen : List Nat := [7, 5, 1, 0]
abbrev tbyt : List (List Int32) := [[100, 61, 118, 44, 118, 44, 118], [100, 46, 100, 61, 118], [100], []]
/-- what of the old world a method may need -/
def OW (G : PG) (U : State) : Prop :=
  (vx_Zq Bundle.tN "UNASSIGNED_STACK" Bundle.steD (fr G) U U.heap ∧ vx_Zq Bundle.tN "SUPPRESSED_SENTINEL" Bundle.listD (fr G) U U.heap) ∧
  (∀ q ∈ strs, ∃ sa, vk_R "RowTriggers" q.1 q.2 sa U) ∧ (∀ w ∈ UN, va_Nw w U) ∧ (∀ q ∈ ncs, va_Nc q.1 q.2 U) ∧
  (∀ i, i < 4 → vk_R "RowTriggers$Text" (tix i).1 (tix i).2 (G.2.2.2 (1000 + i)) U) ∧
  vk_S 4 tlen tbyt (fun i => G.2.2.2 (1000 + i)) (fun i => G.2.2.2 (1010 + i)) (fr G) U U.heap ∧
  va_Z "java/lang/String" "COMPACT_STRINGS" "Z" (.int 1) (fr G) U U.heap ∧ va_Zq "jdk/internal/util/Preconditions" "SIOOBE_FORMATTER" "Ljava/util/function/BiFunction;" (fr G) U U.heap ∧ va_AO "RowTriggers$Rule" U ∧ va_AO "RowTriggers$State" U
theorem un_warm {w : Cond} (hg : un_ok w = true) {s U : State} (hW : s.WarmedH U.vm) (h : va_Nw w s) : va_Nw w U := by
  cases w <;> first | exact va_Nw.warmD hW h | exact va_Nw.warmC hW h | exact va_Nw.warmM hW h | cases hg
theorem OW.go {G : PG} {s U : State} {H : Heap} {locs : List Loc} (h : OW G s) (hS : va_S (fr G) s.heap H locs) (hH : U.heap = H) (hW : s.WarmedH U.vm) : OW G U := by
  subst hH
  obtain ⟨⟨a1, a2⟩, a3, a4, a5, a6, a7, a8, a9, b1, b2⟩ := h
  exact ⟨⟨vx_Zq.moved hW.alike (a1.kept hS.2.1), vx_Zq.moved hW.alike (a2.kept hS.2.1)⟩, fun q hq => (a3 q hq).imp fun sa h => vk_R.warm hW h, fun w hw => un_warm (List.mem_filter.mp hw).2 hW (a4 w hw), fun q hq => va_Nc.moved hW.alike (a5 q hq),
    fun i hi => vk_R.warm hW (a6 i hi), vk_S.moved hW.alike (a7.kept hS.2.1), va_Z.moved hW.alike (a8.kept hS.2.1), va_Zq.moved hW.alike (a9.kept hS.2.1), va_AO.moved hW.alike b1, va_AO.moved hW.alike b2⟩
/-- a method: name, code, locals, what it returns, its handlers, its kind (0: it returns; 1: it may throw; 2: the law), the law's script -/
abbrev Mth : Type := MethodName × ByteArray × Nat × Option FieldType × List (Nat × Nat × Nat × Nat) × Nat × Nat × (Nat → Int32)
abbrev mY (M : Mth) : MethodName := M.1
abbrev mC (M : Mth) : ByteArray := M.2.1
abbrev mL (M : Mth) : Nat := M.2.2.1
abbrev mR (M : Mth) : Option FieldType := M.2.2.2.1
abbrev mH (M : Mth) : List (Nat × Nat × Nat × Nat) := M.2.2.2.2.1
abbrev mK (M : Mth) : Nat := M.2.2.2.2.2.1
abbrev mN (M : Mth) : Nat := M.2.2.2.2.2.2.1
abbrev mX (M : Mth) : Nat → Int32 := M.2.2.2.2.2.2.2
def Cx (M : Mth) (d N : Nat) (Q : Out → Hp → Prop) (p : Program) (l : Launch) (R : Room) (s : State) (m : MethodId) (args : Array Value) (meth : Method) (c : Code) (G : PG) : Prop :=
  (p.tables.exec = Jvm.exec ∧ c.code = mC M ∧ c.maxLocals = mL M ∧ meth.sig.returnType = mR M ∧ s.vm.findClass (mY M).cls = some m.cls ∧ meth.name = (mY M).name) ∧
  (∀ w ∈ UU, w.before args s = true) ∧ meth.locks = false ∧ c.exceptionTable.toList = tableOf (mH M) ∧ va_K G.1 vwCl (tys G) s ∧ OW G s ∧ G.2.2.1 ≤ s.heap.size ∧ (d ≤ R.frames ∧ 64 * d ≤ R.locals ∧ N ≤ R.cells ∧ 1000 * N ≤ R.slots) ∧ l.stackTraces = false ∧
  (mK M = 2 → (∀ o h, Q o h → o = .inl (some (.int 1))) ∧ va_X (G.2.2.2 1020) (mN M) (mX M) s s.heap ∧ G.2.2.2 1020 < G.2.2.1 ∧ G.2.2.1 = s.heap.size ∧ R = room_1 ∧ N ≤ 7000 ∧ ∃ b, args = #[.ref b])
def PQ (G : PG) (Q : Out → Hp → Prop) : Array Value → State → Outcome → State → Prop := fun _ st o t => (∃ (r : Option Value) (h' : Hp), o = .returned (r.map (cv G)) ∧ Q (.inl r) h' ∧ Rp G h' t.heap) ∧ va_F (fr G) st t
def PX (G : PG) (Q : Out → Hp → Prop) : String → State → State → Prop := fun E st t => (∃ h', Q (.inr E) h' ∧ Rp G h' t.heap) ∧ va_F (fr G) st t
def PZ (M : Mth) (N : Nat) (Q : Out → Hp → Prop) (below : List Frame) (args : Array Value) (s : State) (G : PG) : State → Prop :=
  if mK M = 0 then MQ below (PQ G Q) args s N (1000 * N) (fr G) else if mK M = 1 then vx_MQ below (PQ G Q) (PX G Q) args s N (1000 * N) (fr G) else lw_Z below args s
/-- locals: the known ones -/
def lvS (G : PG) (lsA : Array Slot) (L : Nat) (ls : List (Option Value)) : Prop := lsA.size = L ∧ lv_wf lsA ∧ ∀ (i : Nat) (v : Value), ls[i]? = some (some v) → lsA[i]? = some (.val (cv G v))
def PW (M : Mth) (d n pc : Nat) (ls : List (Option Value)) (st : List Value) (h : Hp) (Q : Out → Hp → Prop) : Prop :=
  ∀ (p : Program) (l : Launch) (e : Env) (R : Room) (s : State) (m : MethodId) (args : Array Value) (below : List Frame) (meth : Method) (c : Code) (G : PG) (N : Nat) (H : Heap) (locs : List Loc) (cells slots : Nat) (lsA : Array Slot),
    Cx M d N Q p l R s m args meth c G → cells + n ≤ N → slots + 1000 * n ≤ 1000 * N → Rp G h H → va_S (fr G) s.heap H locs → lvS G lsA (mL M) ls →
    W p l e R s m args below meth c H locs cells slots (PZ M N Q below args s G) (F0 m pc lsA (st.map (cv G)))
def rmd (d n : Nat) : Room := { frames := d, cells := n, slots := 1000 * n, locals := 64 * d }
def wsM (M : Mth) : List Cond := if mH M = [] then .code (mY M) (mC M) (mL M) (mR M) :: UU else .codeWith (mY M) (mC M) (mL M) (mR M) (mH M) :: UU
def PP (G : PG) (args : List Value) (h : Hp) : Array Value → State → Prop := va_Pc (args.map (cv G)) (fun U => Rp G h U.heap ∧ va_K G.1 vwCl (tys G) U ∧ OW G U ∧ G.2.2.1 ≤ U.heap.size)
/-- the contract of a method at these arguments and cells -/
def CT (M : Mth) (d n : Nat) (args : List Value) (h : Hp) (Q : Out → Hp → Prop) : Prop :=
  ∀ (l : Launch), l.stackTraces = false → ∀ G : PG,
    if mK M = 0 then Met l (mY M) (wsM M) (rmd d n) (PP G args h) (PQ G Q) n (1000 * n) (fr G)
    else vx_Met l (mY M) (wsM M) (rmd d n) (PP G args h) (PQ G Q) (PX G Q) n (1000 * n) (fr G)
theorem PP.blind {G : PG} {args : List Value} {h : Hp} : FrameBlind (PP G args h) := by
  intro a U g mk q
  obtain ⟨q1, q2, q3, q4, q5⟩ := q
  refine ⟨q1, q2, va_K.moved (u := U) (U := U.calling g mk a) (Vm.Alike.refl U.vm) q3, ?_, q5⟩
  exact OW.go (H := U.heap) (locs := []) q4 va_S.rf rfl (State.WarmedH.refl U)
/-- entry locals -/
def els : List Value → List (Option Value)
  | [] => []
  | .long x :: t => some (.long x) :: none :: els t
  | .double x :: t => some (.double x) :: none :: els t
  | v :: t => some v :: els t

theorem lvS.has {G : PG} {lsA : Array Slot} {L : Nat} {ls : List (Option Value)} (h : lvS G lsA L ls) : lv_has lsA L ((List.range ls.length).filterMap (fun j => (ls.getD j none).map (fun w => (j, cv G w)))) := by
  refine ⟨h.1, h.2.1, fun q hq => ?_⟩
  obtain ⟨j, -, hj⟩ := List.mem_filterMap.mp hq
  cases hg : ls.getD j none with
  | none => rw [hg] at hj; cases hj
  | some w =>
    rw [hg] at hj
    cases hj
    refine h.2.2 j w ?_
    rw [List.getD_eq_getElem?_getD] at hg
    cases hx : ls[j]? with
    | none => rw [hx] at hg; cases hg
    | some o => rw [hx] at hg; exact congrArg some hg
theorem lvS.mem {G : PG} {ls : List (Option Value)} {i : Nat} {v : Value} (h : ls[i]? = some (some v)) : (i, cv G v) ∈ (List.range ls.length).filterMap (fun j => (ls.getD j none).map (fun w => (j, cv G w))) := by
  refine List.mem_filterMap.mpr ⟨i, List.mem_range.mpr (List.getElem?_eq_some_iff.mp h).1, ?_⟩
  rw [List.getD_eq_getElem?_getD, h]
  rfl
def nlong : Option Value → Bool
  | some (.long _) => false
  | some (.double _) => false
  | _ => true
theorem nlong_cat {v : Value} (h : nlong (some v) = true) : v.category ≠ 2 := by
  cases v <;> first | (cases h; done) | (intro z; cases z)
theorem lvS.of1 {G : PG} {lsA : Array Slot} {L : Nat} {ls : List (Option Value)} {i : Nat} {v : Value} (hp : ∀ j, j + 1 = i → ∀ w, ls[j]? = some w → nlong w = true) (h : lv_has lsA L ((i, cv G v) :: ((List.range ls.length).filterMap (fun j => (ls.getD j none).map (fun w => (j, cv G w)))).filter (fun q => !(q.1 == i) && !(q.1 + 1 == i && q.2.category == 2)))) : lvS G lsA L (ls.set i (some v)) := by
  refine ⟨h.1, h.2.1, fun j w hj => ?_⟩
  by_cases e : j = i
  · subst e
    have hl : j < (ls.set j (some v)).length := (List.getElem?_eq_some_iff.mp hj).1
    rw [List.length_set] at hl
    rw [List.getElem?_set_self hl] at hj
    cases hj
    exact h.2.2 (j, cv G v) List.mem_cons_self
  · rw [List.getElem?_set_ne (Ne.symm e)] at hj
    refine h.2.2 (j, cv G w) (List.mem_cons_of_mem _ (List.mem_filter.mpr ⟨lvS.mem hj, ?_⟩))
    have e1 : (j == i) = false := beq_eq_false_iff_ne.mpr e
    show (!(j == i) && !(j + 1 == i && (cv G w).category == 2)) = true
    rw [e1, cv_cat]
    by_cases e2 : j + 1 = i
    · have := nlong_cat (hp j e2 _ hj)
      simp [this]
    · simp [e2]
theorem lvS.of2 {G : PG} {lsA : Array Slot} {L : Nat} {ls : List (Option Value)} {i : Nat} {x : Int64} (hp : ∀ j, j + 1 = i → ∀ w, ls[j]? = some w → nlong w = true) (h : lv_has lsA L ((i, Value.long x) :: ((List.range ls.length).filterMap (fun j => (ls.getD j none).map (fun w => (j, cv G w)))).filter (fun q => !(q.1 == i) && (!(q.1 == i + 1) && !(q.1 + 1 == i && q.2.category == 2))))) : lvS G lsA L ((ls.set i (some (.long x))).set (i + 1) none) := by
  refine ⟨h.1, h.2.1, fun j w hj => ?_⟩
  by_cases e9 : j = i + 1
  · subst e9
    have hl : i + 1 < ((ls.set i (some (.long x))).set (i + 1) none).length := (List.getElem?_eq_some_iff.mp hj).1
    rw [List.length_set] at hl
    rw [List.getElem?_set_self hl] at hj
    cases hj
  · rw [List.getElem?_set_ne (Ne.symm e9)] at hj
    by_cases e : j = i
    · subst e
      have hl : j < (ls.set j (some (.long x))).length := (List.getElem?_eq_some_iff.mp hj).1
      rw [List.length_set] at hl
      rw [List.getElem?_set_self hl] at hj
      cases hj
      exact h.2.2 (j, .long x) List.mem_cons_self
    · rw [List.getElem?_set_ne (Ne.symm e)] at hj
      refine h.2.2 (j, cv G w) (List.mem_cons_of_mem _ (List.mem_filter.mpr ⟨lvS.mem hj, ?_⟩))
      have e1 : (j == i) = false := beq_eq_false_iff_ne.mpr e
      have e3 : (j == i + 1) = false := beq_eq_false_iff_ne.mpr e9
      show (!(j == i) && (!(j == i + 1) && !(j + 1 == i && (cv G w).category == 2))) = true
      rw [e1, e3, cv_cat]
      by_cases e2 : j + 1 = i
      · have := nlong_cat (hp j e2 _ hj)
        simp [this]
      · simp [e2]
section PWR
variable {M : Mth} {d n pc : Nat} {ls : List (Option Value)} {st : List Value} {h : Hp} {Q : Out → Hp → Prop}
theorem pw_lift {pc' : Nat} {st' : List Value} (k : PW M d n pc' ls st' h Q) (stp : ∀ {p : Program} {l : Launch} {e : Env} {R : Room} {s : State} {m : MethodId} {args : Array Value} {below : List Frame} {meth : Method} {c : Code} {H : Heap} {locs : List Loc} {cells slots : Nat} {Z : State → Prop} {lsA : Array Slot} (G : PG), p.tables.exec = Jvm.exec → c.code = mC M → W p l e R s m args below meth c H locs cells slots Z (F0 m pc' lsA (st'.map (cv G))) → W p l e R s m args below meth c H locs cells slots Z (F0 m pc lsA (st.map (cv G)))) : PW M d n pc ls st h Q :=
  fun p l e R s m args below meth c G N H locs cells slots lsA C hc hs hR hS hl => stp G C.1.1 C.1.2.1 (k p l e R s m args below meth c G N H locs cells slots lsA C hc hs hR hS hl)
theorem pw_if2 {c : Prop} {pc1 pc2 : Nat} {st' : List Value} (kt : c → PW M d n pc1 ls st' h Q) (kf : ¬ c → PW M d n pc2 ls st' h Q) (stp : ∀ {p : Program} {l : Launch} {e : Env} {R : Room} {s : State} {m : MethodId} {args : Array Value} {below : List Frame} {meth : Method} {c9 : Code} {H : Heap} {locs : List Loc} {cells slots : Nat} {Z : State → Prop} {lsA : Array Slot} (G : PG), p.tables.exec = Jvm.exec → c9.code = mC M → (c → W p l e R s m args below meth c9 H locs cells slots Z (F0 m pc1 lsA (st'.map (cv G)))) → (¬ c → W p l e R s m args below meth c9 H locs cells slots Z (F0 m pc2 lsA (st'.map (cv G)))) → W p l e R s m args below meth c9 H locs cells slots Z (F0 m pc lsA (st.map (cv G)))) : PW M d n pc ls st h Q :=
  fun p l e R s m args below meth c G N H locs cells slots lsA C hc hs hR hS hl => stp G C.1.1 C.1.2.1 (fun z => kt z p l e R s m args below meth c G N H locs cells slots lsA C hc hs hR hS hl) (fun z => kf z p l e R s m args below meth c G N H locs cells slots lsA C hc hs hR hS hl)
/-- fewer locals are known -/
theorem pw_forget {ls' : List (Option Value)} (hl : ∀ (i : Nat) (v : Value), ls'[i]? = some (some v) → ls[i]? = some (some v)) (k : PW M d n pc ls' st h Q) : PW M d n pc ls st h Q :=
  fun p l e R s m args below meth c G N H locs cells slots lsA C hc hs hR hS hl' => k p l e R s m args below meth c G N H locs cells slots lsA C hc hs hR hS ⟨hl'.1, hl'.2.1, fun i v q => hl'.2.2 i v (hl i v q)⟩
theorem pw_conseq {Q' : Out → Hp → Prop} (hQ : ∀ o h, Q' o h → Q o h) (hM : mK M ≠ 2) (k : PW M d n pc ls st h Q') : PW M d n pc ls st h Q := by
  intro p l e R s m args below meth c G N H locs cells slots lsA C hc hs hR hS hl T hT X
  obtain ⟨c1, c2, c3, c4, c5, c6, c7, c8, c9, c10⟩ := C
  obtain ⟨t, a, b⟩ := k p l e R s m args below meth c G N H locs cells slots lsA ⟨c1, c2, c3, c4, c5, c6, c7, c8, c9, fun z => absurd z hM⟩ hc hs hR hS hl T hT X
  refine ⟨t, a, ?_⟩
  unfold PZ at b ⊢
  by_cases m0 : mK M = 0
  · rw [if_pos m0] at b ⊢
    obtain ⟨o, b1, b2, ⟨⟨r, h', b3, b4, b5⟩, b6⟩, b7⟩ := b
    exact ⟨o, b1, b2, ⟨⟨r, h', b3, hQ _ _ b4, b5⟩, b6⟩, b7⟩
  · rw [if_neg m0] at b ⊢
    by_cases m1 : mK M = 1
    · rw [if_pos m1] at b ⊢
      obtain ⟨o, b1, b2, b3⟩ := b
      refine ⟨o, b1, b2, ?_⟩
      rcases b3 with ⟨⟨⟨r, h', b3, b4, b5⟩, b6⟩, b7⟩ | ⟨q, b3, E, ce, L, ⟨⟨h', b4, b5⟩, b6⟩, b7⟩
      · exact Or.inl ⟨⟨⟨r, h', b3, hQ _ _ b4, b5⟩, b6⟩, b7⟩
      · exact Or.inr ⟨q, b3, E, ce, L, ⟨⟨h', hQ _ _ b4, b5⟩, b6⟩, b7⟩
    · rw [if_neg m1] at b ⊢
      exact b
theorem pw_iload_n {k : Fin 4} {x : Int32} (hd : decode (mC M) pc = .ok (.iload_n k, 1)) (hl : ls[(k : Nat)]? = some (some (.int x))) (kk : PW M d n (pc + 1) ls (.int x :: st) h Q) : PW M d n pc ls st h Q :=
  fun p l e R s m args below meth c G N H locs cells slots lsA C hc hs hR hS hv => lv_iload_n C.1.1 C.1.2.1 hd rfl (hv.2.2 _ _ hl) (kk p l e R s m args below meth c G N H locs cells slots lsA C hc hs hR hS hv)
theorem pw_iload {k : Nat} {x : Int32} (hd : decode (mC M) pc = .ok (.iload k, 2)) (hl : ls[k]? = some (some (.int x))) (kk : PW M d n (pc + 2) ls (.int x :: st) h Q) : PW M d n pc ls st h Q :=
  fun p l e R s m args below meth c G N H locs cells slots lsA C hc hs hR hS hv => lv_iload C.1.1 C.1.2.1 hd (hv.2.2 _ _ hl) (kk p l e R s m args below meth c G N H locs cells slots lsA C hc hs hR hS hv)
theorem pw_aload_n {k : Fin 4} {x : Nat} (hd : decode (mC M) pc = .ok (.aload_n k, 1)) (hl : ls[(k : Nat)]? = some (some (.ref x))) (kk : PW M d n (pc + 1) ls (.ref x :: st) h Q) : PW M d n pc ls st h Q :=
  fun p l e R s m args below meth c G N H locs cells slots lsA C hc hs hR hS hv => lv_aload_n C.1.1 C.1.2.1 hd rfl (hv.2.2 _ _ hl) (kk p l e R s m args below meth c G N H locs cells slots lsA C hc hs hR hS hv)
theorem pw_aload {k : Nat} {x : Nat} (hd : decode (mC M) pc = .ok (.aload k, 2)) (hl : ls[k]? = some (some (.ref x))) (kk : PW M d n (pc + 2) ls (.ref x :: st) h Q) : PW M d n pc ls st h Q :=
  fun p l e R s m args below meth c G N H locs cells slots lsA C hc hs hR hS hv => lv_aload C.1.1 C.1.2.1 hd (hv.2.2 _ _ hl) (kk p l e R s m args below meth c G N H locs cells slots lsA C hc hs hR hS hv)
theorem pw_lload_n {k : Fin 4} {x : Int64} (hd : decode (mC M) pc = .ok (.lload_n k, 1)) (hl : ls[(k : Nat)]? = some (some (.long x))) (kk : PW M d n (pc + 1) ls (.long x :: st) h Q) : PW M d n pc ls st h Q :=
  fun p l e R s m args below meth c G N H locs cells slots lsA C hc hs hR hS hv => lv_lload_n C.1.1 C.1.2.1 hd rfl (hv.2.2 _ _ hl) (kk p l e R s m args below meth c G N H locs cells slots lsA C hc hs hR hS hv)
theorem pw_lload {k : Nat} {x : Int64} (hd : decode (mC M) pc = .ok (.lload k, 2)) (hl : ls[k]? = some (some (.long x))) (kk : PW M d n (pc + 2) ls (.long x :: st) h Q) : PW M d n pc ls st h Q :=
  fun p l e R s m args below meth c G N H locs cells slots lsA C hc hs hR hS hv => lv_lload C.1.1 C.1.2.1 hd (hv.2.2 _ _ hl) (kk p l e R s m args below meth c G N H locs cells slots lsA C hc hs hR hS hv)
theorem pw_istore_n {k : Fin 4} {x : Int32} {ls1 : List (Option Value)} (hd : decode (mC M) pc = .ok (.istore_n k, 1)) (hp : ∀ j, j + 1 = (k : Nat) → ∀ w, ls[j]? = some w → nlong w = true) (hn : (k : Nat) < mL M) (e : ls.set (k : Nat) (some (.int x)) = ls1) (kk : PW M d n (pc + 1) ls1 st h Q) : PW M d n pc ls (.int x :: st) h Q := by
  subst e
  intro p l e R s m args below meth c G N H locs cells slots lsA C hc hs hR hS hv
  exact lv_istore_n C.1.1 C.1.2.1 hd rfl hv.has hn rfl (fun lsB hB => kk p l e R s m args below meth c G N H locs cells slots lsB C hc hs hR hS (lvS.of1 hp hB))
theorem pw_istore {k : Nat} {x : Int32} {ls1 : List (Option Value)} (hd : decode (mC M) pc = .ok (.istore k, 2)) (hp : ∀ j, j + 1 = k → ∀ w, ls[j]? = some w → nlong w = true) (hn : k < mL M) (e : ls.set k (some (.int x)) = ls1) (kk : PW M d n (pc + 2) ls1 st h Q) : PW M d n pc ls (.int x :: st) h Q := by
  subst e
  intro p l e R s m args below meth c G N H locs cells slots lsA C hc hs hR hS hv
  exact lv_istore C.1.1 C.1.2.1 hd hv.has hn rfl (fun lsB hB => kk p l e R s m args below meth c G N H locs cells slots lsB C hc hs hR hS (lvS.of1 hp hB))
theorem pw_astore_n {k : Fin 4} {x : Nat} {ls1 : List (Option Value)} (hd : decode (mC M) pc = .ok (.astore_n k, 1)) (hp : ∀ j, j + 1 = (k : Nat) → ∀ w, ls[j]? = some w → nlong w = true) (hn : (k : Nat) < mL M) (e : ls.set (k : Nat) (some (.ref x)) = ls1) (kk : PW M d n (pc + 1) ls1 st h Q) : PW M d n pc ls (.ref x :: st) h Q := by
  subst e
  intro p l e R s m args below meth c G N H locs cells slots lsA C hc hs hR hS hv
  exact lv_astore_n C.1.1 C.1.2.1 hd rfl hv.has hn rfl (fun lsB hB => kk p l e R s m args below meth c G N H locs cells slots lsB C hc hs hR hS (lvS.of1 hp hB))
theorem pw_astore {k : Nat} {x : Nat} {ls1 : List (Option Value)} (hd : decode (mC M) pc = .ok (.astore k, 2)) (hp : ∀ j, j + 1 = k → ∀ w, ls[j]? = some w → nlong w = true) (hn : k < mL M) (e : ls.set k (some (.ref x)) = ls1) (kk : PW M d n (pc + 2) ls1 st h Q) : PW M d n pc ls (.ref x :: st) h Q := by
  subst e
  intro p l e R s m args below meth c G N H locs cells slots lsA C hc hs hR hS hv
  exact lv_astore C.1.1 C.1.2.1 hd hv.has hn rfl (fun lsB hB => kk p l e R s m args below meth c G N H locs cells slots lsB C hc hs hR hS (lvS.of1 hp hB))
theorem pw_lstore_n {k : Fin 4} {x : Int64} {ls1 : List (Option Value)} (hd : decode (mC M) pc = .ok (.lstore_n k, 1)) (hp : ∀ j, j + 1 = (k : Nat) → ∀ w, ls[j]? = some w → nlong w = true) (hn : (k : Nat) + 1 < mL M) (e : (ls.set (k : Nat) (some (.long x))).set ((k : Nat) + 1) none = ls1) (kk : PW M d n (pc + 1) ls1 st h Q) : PW M d n pc ls (.long x :: st) h Q := by
  subst e
  intro p l e R s m args below meth c G N H locs cells slots lsA C hc hs hR hS hv
  exact lv_lstore_n C.1.1 C.1.2.1 hd rfl hv.has hn rfl (fun lsB hB => kk p l e R s m args below meth c G N H locs cells slots lsB C hc hs hR hS (lvS.of2 hp hB))
theorem pw_lstore {k : Nat} {x : Int64} {ls1 : List (Option Value)} (hd : decode (mC M) pc = .ok (.lstore k, 2)) (hp : ∀ j, j + 1 = k → ∀ w, ls[j]? = some w → nlong w = true) (hn : k + 1 < mL M) (e : (ls.set k (some (.long x))).set (k + 1) none = ls1) (kk : PW M d n (pc + 2) ls1 st h Q) : PW M d n pc ls (.long x :: st) h Q := by
  subst e
  intro p l e R s m args below meth c G N H locs cells slots lsA C hc hs hR hS hv
  exact lv_lstore C.1.1 C.1.2.1 hd hv.has hn rfl (fun lsB hB => kk p l e R s m args below meth c G N H locs cells slots lsB C hc hs hR hS (lvS.of2 hp hB))
theorem pw_iinc {i : Nat} {z : Int} {x v : Int32} {ls1 : List (Option Value)} (hd : decode (mC M) pc = .ok (.iinc i z, 3)) (hl : ls[i]? = some (some (.int x))) (hp : ∀ j, j + 1 = i → ∀ w, ls[j]? = some w → nlong w = true) (hn : i < mL M) (hv : x + Int32.ofInt z = v) (e : ls.set i (some (.int v)) = ls1) (kk : PW M d n (pc + 3) ls1 st h Q) : PW M d n pc ls st h Q := by
  subst e
  intro p l e R s m args below meth c G N H locs cells slots lsA C hc hs hR hS hw
  obtain ⟨j, hj⟩ := List.getElem?_of_mem (lvS.mem (G := G) hl)
  exact lv_iinc C.1.1 C.1.2.1 hd hw.has hj hv hn rfl (fun lsB hB => kk p l e R s m args below meth c G N H locs cells slots lsB C hc hs hR hS (lvS.of1 hp hB))
theorem pw_iconst {z : Int} {v : Int32} (hd : decode (mC M) pc = .ok (.iconst z, 1)) (hv : Int32.ofInt z = v) (k : PW M d n (pc + 1) ls (.int v :: st) h Q) : PW M d n pc ls (st) h Q := pw_lift k (fun G hx hb w => lv_iconst hx hb hd hv w)
theorem pw_bipush {z : Int} {v : Int32} (hd : decode (mC M) pc = .ok (.bipush z, 2)) (hv : (Int8.ofInt z).toInt32 = v) (k : PW M d n (pc + 2) ls (.int v :: st) h Q) : PW M d n pc ls (st) h Q := pw_lift k (fun G hx hb w => lv_bipush hx hb hd hv w)
theorem pw_sipush {z : Int} {v : Int32} (hd : decode (mC M) pc = .ok (.sipush z, 3)) (hv : (Int16.ofInt z).toInt32 = v) (k : PW M d n (pc + 3) ls (.int v :: st) h Q) : PW M d n pc ls (st) h Q := pw_lift k (fun G hx hb w => lv_sipush hx hb hd hv w)
theorem pw_lconst {z : Fin 2} {v : Int64} (hd : decode (mC M) pc = .ok (.lconst z, 1)) (hv : Int64.ofNat (z : Nat) = v) (k : PW M d n (pc + 1) ls (.long v :: st) h Q) : PW M d n pc ls (st) h Q := pw_lift k (fun G hx hb w => lv_lconst hx hb hd hv w)
theorem pw_iadd {x y : Int32} (hd : decode (mC M) pc = .ok (.iadd, 1)) (k : PW M d n (pc + 1) ls (.int (x + y) :: st) h Q) : PW M d n pc ls (.int y :: .int x :: st) h Q := pw_lift k (fun G hx hb w => lv_iadd hx hb hd w)
theorem pw_isub {x y : Int32} (hd : decode (mC M) pc = .ok (.isub, 1)) (k : PW M d n (pc + 1) ls (.int (x - y) :: st) h Q) : PW M d n pc ls (.int y :: .int x :: st) h Q := pw_lift k (fun G hx hb w => lv_isub hx hb hd w)
theorem pw_imul {x y : Int32} (hd : decode (mC M) pc = .ok (.imul, 1)) (k : PW M d n (pc + 1) ls (.int (x * y) :: st) h Q) : PW M d n pc ls (.int y :: .int x :: st) h Q := pw_lift k (fun G hx hb w => lv_imul hx hb hd w)
theorem pw_iand {x y : Int32} (hd : decode (mC M) pc = .ok (.iand, 1)) (k : PW M d n (pc + 1) ls (.int (x &&& y) :: st) h Q) : PW M d n pc ls (.int y :: .int x :: st) h Q := pw_lift k (fun G hx hb w => lv_iand hx hb hd w)
theorem pw_ior {x y : Int32} (hd : decode (mC M) pc = .ok (.ior, 1)) (k : PW M d n (pc + 1) ls (.int (x ||| y) :: st) h Q) : PW M d n pc ls (.int y :: .int x :: st) h Q := pw_lift k (fun G hx hb w => lv_ior hx hb hd w)
theorem pw_ixor {x y : Int32} (hd : decode (mC M) pc = .ok (.ixor, 1)) (k : PW M d n (pc + 1) ls (.int (x ^^^ y) :: st) h Q) : PW M d n pc ls (.int y :: .int x :: st) h Q := pw_lift k (fun G hx hb w => lv_ixor hx hb hd w)
theorem pw_ishl {x y : Int32} (hd : decode (mC M) pc = .ok (.ishl, 1)) (k : PW M d n (pc + 1) ls (.int (x <<< (y &&& 31)) :: st) h Q) : PW M d n pc ls (.int y :: .int x :: st) h Q := pw_lift k (fun G hx hb w => lv_ishl hx hb hd w)
theorem pw_ishr {x y : Int32} (hd : decode (mC M) pc = .ok (.ishr, 1)) (k : PW M d n (pc + 1) ls (.int (x >>> (y &&& 31)) :: st) h Q) : PW M d n pc ls (.int y :: .int x :: st) h Q := pw_lift k (fun G hx hb w => lv_ishr hx hb hd w)
theorem pw_irem {x y : Int32} (hd : decode (mC M) pc = .ok (.irem, 1)) (hne : ¬ y = 0) (k : PW M d n (pc + 1) ls (.int (x - x / y * y) :: st) h Q) : PW M d n pc ls (.int y :: .int x :: st) h Q := pw_lift k (fun G hx hb w => lv_irem hx hb hd hne w)
theorem pw_land {x y : Int64} (hd : decode (mC M) pc = .ok (.land, 1)) (k : PW M d n (pc + 1) ls (.long (x &&& y) :: st) h Q) : PW M d n pc ls (.long y :: .long x :: st) h Q := pw_lift k (fun G hx hb w => lv_land hx hb hd w)
theorem pw_lor {x y : Int64} (hd : decode (mC M) pc = .ok (.lor, 1)) (k : PW M d n (pc + 1) ls (.long (x ||| y) :: st) h Q) : PW M d n pc ls (.long y :: .long x :: st) h Q := pw_lift k (fun G hx hb w => lv_lor hx hb hd w)
theorem pw_lshl {x v : Int64} {y : Int32} (hd : decode (mC M) pc = .ok (.lshl, 1)) (hv : x <<< (y.toInt64 &&& 63) = v) (k : PW M d n (pc + 1) ls (.long v :: st) h Q) : PW M d n pc ls (.int y :: .long x :: st) h Q := pw_lift k (fun G hx hb w => lv_lshl hx hb hd hv w)
theorem pw_lshr {x v : Int64} {y : Int32} (hd : decode (mC M) pc = .ok (.lshr, 1)) (hv : x >>> (y.toInt64 &&& 63) = v) (k : PW M d n (pc + 1) ls (.long v :: st) h Q) : PW M d n pc ls (.int y :: .long x :: st) h Q := pw_lift k (fun G hx hb w => lv_lshr hx hb hd hv w)
theorem pw_lushr {x v : Int64} {y : Int32} (hd : decode (mC M) pc = .ok (.lushr, 1)) (hv : (x.toUInt64 >>> (y.toInt64.toUInt64 &&& Int64.toUInt64 63)).toInt64 = v) (k : PW M d n (pc + 1) ls (.long v :: st) h Q) : PW M d n pc ls (.int y :: .long x :: st) h Q := pw_lift k (fun G hx hb w => lv_lushr hx hb hd hv w)
theorem pw_i2l {x : Int32} {v : Int64} (hd : decode (mC M) pc = .ok (.i2l, 1)) (hv : x.toInt64 = v) (k : PW M d n (pc + 1) ls (.long v :: st) h Q) : PW M d n pc ls (.int x :: st) h Q := pw_lift k (fun G hx hb w => lv_i2l hx hb hd hv w)
theorem pw_l2i {x : Int64} {v : Int32} (hd : decode (mC M) pc = .ok (.l2i, 1)) (hv : x.toInt32 = v) (k : PW M d n (pc + 1) ls (.int v :: st) h Q) : PW M d n pc ls (.long x :: st) h Q := pw_lift k (fun G hx hb w => lv_l2i hx hb hd hv w)
theorem pw_i2c {x v : Int32} (hd : decode (mC M) pc = .ok (.i2c, 1)) (hv : (x.toUInt32 % 65536).toInt32 = v) (k : PW M d n (pc + 1) ls (.int v :: st) h Q) : PW M d n pc ls (.int x :: st) h Q := pw_lift k (fun G hx hb w => lv_i2c hx hb hd hv w)
theorem pw_lcmp {x y : Int64} (hd : decode (mC M) pc = .ok (.lcmp, 1)) (k : PW M d n (pc + 1) ls (.int (lg_cmp x y) :: st) h Q) : PW M d n pc ls (.long y :: .long x :: st) h Q := pw_lift k (fun G hx hb w => W.lcmp hx hb hd w)
theorem pw_dup {v : Value} (hd : decode (mC M) pc = .ok (.dup, 1)) (hv : v.category = 1) (k : PW M d n (pc + 1) ls (v :: v :: st) h Q) : PW M d n pc ls (v :: st) h Q := pw_lift k (fun G hx hb w => lv_dup hx hb hd (by rw [cv_cat]; exact hv) w)
theorem pw_dup2 {v u : Value} (hd : decode (mC M) pc = .ok (.dup2, 1)) (hv : v.category = 1) (hu : u.category = 1) (k : PW M d n (pc + 1) ls (v :: u :: v :: u :: st) h Q) : PW M d n pc ls (v :: u :: st) h Q := pw_lift k (fun G hx hb w => lv_dup2_11 hx hb hd (by rw [cv_cat]; exact hv) (by rw [cv_cat]; exact hu) w)
theorem pw_pop {v : Value} (hd : decode (mC M) pc = .ok (.pop, 1)) (hv : v.category = 1) (k : PW M d n (pc + 1) ls (st) h Q) : PW M d n pc ls (v :: st) h Q := pw_lift k (fun G hx hb w => lv_pop hx hb hd (by rw [cv_cat]; exact hv) w)
theorem pw_goto {off : Int} {tgt : Nat} (hd : decode (mC M) pc = .ok (.goto off, 3)) (ht : (pc : Int) + off = (tgt : Int)) (k : PW M d n tgt ls st h Q) : PW M d n pc ls st h Q := pw_lift k (fun G hx hb w => lv_goto hx hb hd ht w)
theorem pw_if_eq {x : Int32} {off : Int} {tgt : Nat} (hd : decode (mC M) pc = .ok (.ifCond .eq off, 3)) (ht : (pc : Int) + off = (tgt : Int)) (kt : x = 0 → PW M d n tgt ls st h Q) (kf : ¬ (x = 0) → PW M d n (pc + 3) ls st h Q) : PW M d n pc ls (.int x :: st) h Q := pw_if2 kt kf (fun G hx hb a b => lv_if_eq hx hb hd ht a b)
theorem pw_if_lt {x : Int32} {off : Int} {tgt : Nat} (hd : decode (mC M) pc = .ok (.ifCond .lt off, 3)) (ht : (pc : Int) + off = (tgt : Int)) (kt : x < 0 → PW M d n tgt ls st h Q) (kf : ¬ (x < 0) → PW M d n (pc + 3) ls st h Q) : PW M d n pc ls (.int x :: st) h Q := pw_if2 kt kf (fun G hx hb a b => lv_if_lt hx hb hd ht a b)
theorem pw_if_ge {x : Int32} {off : Int} {tgt : Nat} (hd : decode (mC M) pc = .ok (.ifCond .ge off, 3)) (ht : (pc : Int) + off = (tgt : Int)) (kt : 0 ≤ x → PW M d n tgt ls st h Q) (kf : ¬ (0 ≤ x) → PW M d n (pc + 3) ls st h Q) : PW M d n pc ls (.int x :: st) h Q := pw_if2 kt kf (fun G hx hb a b => lv_if_ge hx hb hd ht a b)
theorem pw_if_gt {x : Int32} {off : Int} {tgt : Nat} (hd : decode (mC M) pc = .ok (.ifCond .gt off, 3)) (ht : (pc : Int) + off = (tgt : Int)) (kt : 0 < x → PW M d n tgt ls st h Q) (kf : ¬ (0 < x) → PW M d n (pc + 3) ls st h Q) : PW M d n pc ls (.int x :: st) h Q := pw_if2 kt kf (fun G hx hb a b => lv_if_gt hx hb hd ht a b)
theorem pw_if_le {x : Int32} {off : Int} {tgt : Nat} (hd : decode (mC M) pc = .ok (.ifCond .le off, 3)) (ht : (pc : Int) + off = (tgt : Int)) (kt : x ≤ 0 → PW M d n tgt ls st h Q) (kf : ¬ (x ≤ 0) → PW M d n (pc + 3) ls st h Q) : PW M d n pc ls (.int x :: st) h Q := pw_if2 kt kf (fun G hx hb a b => lv_if_le hx hb hd ht a b)
theorem pw_icmp_eq {x y : Int32} {off : Int} {tgt : Nat} (hd : decode (mC M) pc = .ok (.if_icmp .eq off, 3)) (ht : (pc : Int) + off = (tgt : Int)) (kt : x = y → PW M d n tgt ls st h Q) (kf : ¬ (x = y) → PW M d n (pc + 3) ls st h Q) : PW M d n pc ls (.int y :: .int x :: st) h Q := pw_if2 kt kf (fun G hx hb a b => lv_icmp_eq hx hb hd ht a b)
theorem pw_icmp_lt {x y : Int32} {off : Int} {tgt : Nat} (hd : decode (mC M) pc = .ok (.if_icmp .lt off, 3)) (ht : (pc : Int) + off = (tgt : Int)) (kt : x < y → PW M d n tgt ls st h Q) (kf : ¬ (x < y) → PW M d n (pc + 3) ls st h Q) : PW M d n pc ls (.int y :: .int x :: st) h Q := pw_if2 kt kf (fun G hx hb a b => lv_icmp_lt hx hb hd ht a b)
theorem pw_icmp_ge {x y : Int32} {off : Int} {tgt : Nat} (hd : decode (mC M) pc = .ok (.if_icmp .ge off, 3)) (ht : (pc : Int) + off = (tgt : Int)) (kt : y ≤ x → PW M d n tgt ls st h Q) (kf : ¬ (y ≤ x) → PW M d n (pc + 3) ls st h Q) : PW M d n pc ls (.int y :: .int x :: st) h Q := pw_if2 kt kf (fun G hx hb a b => lv_icmp_ge hx hb hd ht a b)
theorem pw_icmp_gt {x y : Int32} {off : Int} {tgt : Nat} (hd : decode (mC M) pc = .ok (.if_icmp .gt off, 3)) (ht : (pc : Int) + off = (tgt : Int)) (kt : y < x → PW M d n tgt ls st h Q) (kf : ¬ (y < x) → PW M d n (pc + 3) ls st h Q) : PW M d n pc ls (.int y :: .int x :: st) h Q := pw_if2 kt kf (fun G hx hb a b => lv_icmp_gt hx hb hd ht a b)
theorem pw_icmp_le {x y : Int32} {off : Int} {tgt : Nat} (hd : decode (mC M) pc = .ok (.if_icmp .le off, 3)) (ht : (pc : Int) + off = (tgt : Int)) (kt : x ≤ y → PW M d n tgt ls st h Q) (kf : ¬ (x ≤ y) → PW M d n (pc + 3) ls st h Q) : PW M d n pc ls (.int y :: .int x :: st) h Q := pw_if2 kt kf (fun G hx hb a b => lv_icmp_le hx hb hd ht a b)
theorem pw_if_ne {x : Int32} {off : Int} {tgt : Nat} (hd : decode (mC M) pc = .ok (.ifCond .ne off, 3)) (ht : (pc : Int) + off = (tgt : Int)) (kt : ¬ x = 0 → PW M d n tgt ls st h Q) (kf : x = 0 → PW M d n (pc + 3) ls st h Q) : PW M d n pc ls (.int x :: st) h Q := pw_if2 (c := x = 0) kf kt (fun G hx hb a b => lv_if_ne hx hb hd ht b a)
theorem pw_icmp_ne {x y : Int32} {off : Int} {tgt : Nat} (hd : decode (mC M) pc = .ok (.if_icmp .ne off, 3)) (ht : (pc : Int) + off = (tgt : Int)) (kt : ¬ x = y → PW M d n tgt ls st h Q) (kf : x = y → PW M d n (pc + 3) ls st h Q) : PW M d n pc ls (.int y :: .int x :: st) h Q := pw_if2 (c := x = y) kf kt (fun G hx hb a b => lv_icmp_ne hx hb hd ht b a)
end PWR
end
section
theorem cv_int (G : PG) (x : Int32) : cv G (.int x) = .int x := rfl
theorem Rp.at {G : PG} {h : Hp} {H : Heap} (R : Rp G h H) {k : Nat} {c : Cel} (h0 : h.2 k = some c) : at_c G (ad G k) c H := (R.2.2 _ _ h0).2
theorem Rp.fr {G : PG} {h : Hp} {H : Heap} (R : Rp G h H) {k : Nat} {c : Cel} (h0 : h.2 k = some c) : fr G (ad G k) := by
  show G.2.2.1 ≤ ad G k
  rw [ad_lo (R.2.2 _ _ h0).1]
  omega
/-- class ci of vwCl, its name, fields, how many; its words are good -/
abbrev Cls (ci : Nat) (C : String) (T : u_T) (N : Nat) (ty : Nat → FieldType) : Prop := vwCl[ci]? = some (C, T, N) ∧ (∀ w ∈ u_ws C T N, w ∈ UU) ∧ (∀ k, k < N → parseFieldDescriptor (T k).2.2.1 = some (ty k)) ∧ (∀ a, a < N → ∀ b, b < N → a ≠ b → (T a).2.1 ≠ (T b).2.1)
def stF (fs : Nat → Value) (k : Nat) (v : Value) : Nat → Value := fun j => if j = k then v else fs j
theorem stF_cv (G : PG) (fs : Nat → Value) (k : Nat) (v : Value) (j : Nat) : updV (fun i => cv G (fs i)) k (cv G v) j = cv G (stF fs k v j) := by
  unfold updV stF
  by_cases e : j = k <;> simp [e]
theorem arr_cv (G : PG) (c : ClassId) (N : Nat) (fs : Nat → Value) (k : Nat) (v : Value) : arrV c N (updV (fun i => cv G (fs i)) k (cv G v)) = arrV c N (fun j => cv G (stF fs k v j)) := by
  congr 1
  funext j
  exact stF_cv G fs k v j
section PWH
variable {M : Mth} {d n pc : Nat} {ls : List (Option Value)} {st : List Value} {h : Hp} {Q : Out → Hp → Prop}
theorem pw_getfield {idx a ci k N : Nat} {C : String} {T : u_T} {ty : Nat → FieldType} {fs : Nat → Value} (hcl : Cls ci C T N ty) (hd : decode (mC M) pc = .ok (.getfield idx, 3)) (hc : h.2 a = some (.inr (ci, fs))) (hk : k < N) (hlk : Cond.fieldLink (mY M).cls idx (T k).1 (T k).2.1 (T k).2.2.1 ∈ UU) (kk : PW M d n (pc + 3) ls (fs k :: st) h Q) : PW M d n pc ls (.ref a :: st) h Q := by
  intro p l e R s m args below meth c G N9 H locs cells slots lsA C9 hc9 hs9 hR hS hv
  obtain ⟨r, h1, cell, q1, q2, q3, q4⟩ := hR.at hc
  obtain ⟨g1, g2, g3, g4⟩ := hcl
  have hr : r = (C, T, N) := Option.some.inj (h1.symm.trans g1)
  subst hr
  have hts := C9.2.1
  obtain ⟨hS9, hfc, kC, hkC, hkind⟩ := C9.2.2.2.2.1.1 ci _ g1
  obtain ⟨cf, kf, fi, f, hi, hsl⟩ := hS9 k hk
  exact W.getf C9.1.1 C9.1.2.1 C9.1.2.2.2.2.1 (hts _ hlk) hi (u_facts hfc hkC (u_lays hts g2 hk) hi).1 q1 (by rw [q3]; exact fun h => by cases h) (v := cv G (fs k)) (by rw [hsl]; exact q4 k hk) (g := F0 m pc lsA ((Value.ref a :: st).map (cv G))) rfl rfl hd (kk p l e R s m args below meth c G N9 H locs cells slots lsA C9 hc9 hs9 hR hS hv)
theorem pw_putfield {idx a ci k N : Nat} {C : String} {T : u_T} {ty : Nat → FieldType} {fs : Nat → Value} {v : Value} (hcl : Cls ci C T N ty) (hd : decode (mC M) pc = .ok (.putfield idx, 3)) (hc : h.2 a = some (.inr (ci, fs))) (hk : k < N) (hlk : Cond.fieldLink (mY M).cls idx (T k).1 (T k).2.1 (T k).2.2.1 ∈ UU) (hfin : (T k).2.2.2 = false) (hv : ∀ G : PG, narrow (ty k) (cv G v) = cv G v ∧ fits (ty k) (cv G v) = true) (kk : PW M d n (pc + 3) ls st (upH h a (.inr (ci, stF fs k v))) Q) : PW M d n pc ls (v :: .ref a :: st) h Q := by
  intro p l e R s m args below meth c G N9 H locs cells slots lsA C9 hc9 hs9 hR hS hw
  obtain ⟨r, h1, cell, q1, q2, q3, q4⟩ := hR.at hc
  obtain ⟨g1, g2, g3, g4⟩ := hcl
  have hr : r = (C, T, N) := Option.some.inj (h1.symm.trans g1)
  subst hr
  have hts := C9.2.1
  have hown := C9.1.2.2.2.2.1
  have hK := C9.2.2.2.2.1
  have hap := va_apart (own := (mY M).cls) hts g2 ty g3 g4 hK g1
  obtain ⟨hS9, hfc, kC, hkC, hkind⟩ := hK.1 ci _ g1
  obtain ⟨cf, kf, fi, f, hi, hsl⟩ := hS9 k hk
  have hlay := hts _ (g2 _ (u_in_lay hk))
  unfold u_lay at hlay
  rw [if_neg (by rw [hfin]; decide)] at hlay
  have hst := (u_facts hfc hkC (u_lays hts g2 hk) hi).1
  have h6 := u_store hfc hkC hkind hlay hi (g3 k hk) (hv G).1 (hv G).2
  refine W.putK C9.1.1 C9.1.2.1 (f := f) ⟨hown, hts _ hlk, ⟨_, _, _, hi⟩, hst⟩ (by rw [q2]; exact h6) q1 q3 (by rw [hsl]; exact k2_hasslot (q4 k hk)) (g := F0 m pc lsA ((v :: Value.ref a :: st).map (cv G))) rfl rfl hd fun H' e1 e2 e3 => ?_
  rw [hsl] at e1
  exact kk p l e R s m args below meth c G N9 H' _ cells slots lsA C9 hc9 hs9 (hR.put hc e2 e3 ⟨_, g1, t_OB.to (V := updV (fun i => cv G (fs i)) k (cv G v)) ⟨_, e1, q2, q3, t_set q4 hap hk (cv G v)⟩ (fun j _ => stF_cv G fs k v j)⟩) (hS.put e2 e3 (hR.fr hc)) hw
theorem pw_putfinal {idx a ci k N : Nat} {C : String} {T : u_T} {ty : Nat → FieldType} {fs : Nat → Value} {v : Value} (hcl : Cls ci C T N ty) (hd : decode (mC M) pc = .ok (.putfield idx, 3)) (hc : h.2 a = some (.inr (ci, fs))) (hk : k < N) (hlk : Cond.fieldLink (mY M).cls idx (T k).1 (T k).2.1 (T k).2.2.1 ∈ UU) (hfin : (T k).2.2.2 = true) (hin : (mY M).name = "<init>") (hdecl : (T k).1 = (mY M).cls) (hv : ∀ G : PG, narrow (ty k) (cv G v) = cv G v ∧ fits (ty k) (cv G v) = true) (kk : PW M d n (pc + 3) ls st (upH h a (.inr (ci, stF fs k v))) Q) : PW M d n pc ls (v :: .ref a :: st) h Q := by
  intro p l e R s m args below meth c G N9 H locs cells slots lsA C9 hc9 hs9 hR hS hw
  obtain ⟨r, h1, cell, q1, q2, q3, q4⟩ := hR.at hc
  obtain ⟨g1, g2, g3, g4⟩ := hcl
  have hr : r = (C, T, N) := Option.some.inj (h1.symm.trans g1)
  subst hr
  have hts := C9.2.1
  have hown := C9.1.2.2.2.2.1
  have hK := C9.2.2.2.2.1
  have hap := va_apart (own := (mY M).cls) hts g2 ty g3 g4 hK g1
  obtain ⟨hS9, hfc, kC, hkC, hkind⟩ := hK.1 ci _ g1
  obtain ⟨cf, kf, fi, f, hi, hsl⟩ := hS9 k hk
  have hlay := hts _ (g2 _ (u_in_lay hk))
  unfold u_lay at hlay
  rw [if_pos hfin] at hlay
  have hst := (u_facts hfc hkC (u_lays hts g2 hk) hi).1
  have hcf : m.cls = cf := by
    obtain ⟨_, _, c', _, _, _, -, -, hf', -, -, -, hown2, -⟩ := Cond.laysFinal_spec hlay
    have e1 : c' = cf := by have := hi.symm.trans hf'; simp at this; exact this.1.symm
    rw [hdecl] at hown2
    rw [← e1]; exact Option.some.inj (hown.symm.trans hown2)
  have h6 := u_fits hfc hkC hkind (Or.inr hlay) hi (g3 k hk) (hv G).1 (hv G).2
  refine W.putFinK C9.1.1 C9.1.2.1 hown (hts _ hlk) hi hst hcf (C9.1.2.2.2.2.2.trans hin) (by rw [q2]; exact h6) q1 q3 (by rw [hsl]; exact k2_hasslot (q4 k hk)) (g := F0 m pc lsA ((v :: Value.ref a :: st).map (cv G))) rfl rfl hd fun H' e1 e2 e3 => ?_
  rw [hsl] at e1
  exact kk p l e R s m args below meth c G N9 H' _ cells slots lsA C9 hc9 hs9 (hR.put hc e2 e3 ⟨_, g1, t_OB.to (V := updV (fun i => cv G (fs i)) k (cv G v)) ⟨_, e1, q2, q3, t_set q4 hap hk (cv G v)⟩ (fun j _ => stF_cv G fs k v j)⟩) (hS.put e2 e3 (hR.fr hc)) hw
theorem pw_iald {a n0 : Nat} {f : Nat → Value} {i : Int32} (hd : decode (mC M) pc = .ok (.iaload, 1)) (hc : h.2 a = some (.inl (.int, n0, f))) (hin : vp_in i n0) (kk : PW M d n (pc + 1) ls (f i.toNatClampNeg :: st) h Q) : PW M d n pc ls (.int i :: .ref a :: st) h Q := by
  intro p l e R s m args below meth c G N9 H locs cells slots lsA C9 hc9 hs9 hR hS hw
  have hlt : i.toNatClampNeg < n0 := Nat.not_le.mp fun q => hin (Or.inr q)
  exact W.iald (v := cv G (f i.toNatClampNeg)) C9.1.1 C9.1.2.1 (hR.at hc) ((C9.2.2.2.2.1.2 0 _ rfl).1 n0 (fun j => cv G (f j))) (fun q => by cases q) (by show ¬ (i < 0 ∨ (arrV _ _ _).slots.size ≤ _); rw [arrV_size]; exact hin) (by show (arrV _ _ _).slots[_]? = _; rw [arrV_read _ _ hlt]) (g := F0 m pc lsA ((Value.int i :: Value.ref a :: st).map (cv G))) rfl rfl hd (kk p l e R s m args below meth c G N9 H locs cells slots lsA C9 hc9 hs9 hR hS hw)
theorem pw_zald {a n0 : Nat} {f : Nat → Value} {i : Int32} (hd : decode (mC M) pc = .ok (.baload, 1)) (hc : h.2 a = some (.inl (.boolean, n0, f))) (hin : vp_in i n0) (kk : PW M d n (pc + 1) ls (f i.toNatClampNeg :: st) h Q) : PW M d n pc ls (.int i :: .ref a :: st) h Q := by
  intro p l e R s m args below meth c G N9 H locs cells slots lsA C9 hc9 hs9 hR hS hw
  have hlt : i.toNatClampNeg < n0 := Nat.not_le.mp fun q => hin (Or.inr q)
  exact W.zald (v := cv G (f i.toNatClampNeg)) C9.1.1 C9.1.2.1 (hR.at hc) ((C9.2.2.2.2.1.2 1 _ rfl).1 n0 (fun j => cv G (f j))) (fun q => by cases q) (by show ¬ (i < 0 ∨ (arrV _ _ _).slots.size ≤ _); rw [arrV_size]; exact hin) (by show (arrV _ _ _).slots[_]? = _; rw [arrV_read _ _ hlt]) (g := F0 m pc lsA ((Value.int i :: Value.ref a :: st).map (cv G))) rfl rfl hd (kk p l e R s m args below meth c G N9 H locs cells slots lsA C9 hc9 hs9 hR hS hw)
theorem pw_cald {a n0 : Nat} {f : Nat → Value} {i : Int32} (hd : decode (mC M) pc = .ok (.caload, 1)) (hc : h.2 a = some (.inl (.char, n0, f))) (hin : vp_in i n0) (kk : PW M d n (pc + 1) ls (f i.toNatClampNeg :: st) h Q) : PW M d n pc ls (.int i :: .ref a :: st) h Q := by
  intro p l e R s m args below meth c G N9 H locs cells slots lsA C9 hc9 hs9 hR hS hw
  have hlt : i.toNatClampNeg < n0 := Nat.not_le.mp fun q => hin (Or.inr q)
  exact W.cald (v := cv G (f i.toNatClampNeg)) C9.1.1 C9.1.2.1 (hR.at hc) ((C9.2.2.2.2.1.2 2 _ rfl).1 n0 (fun j => cv G (f j))) (fun q => by cases q) (by show ¬ (i < 0 ∨ (arrV _ _ _).slots.size ≤ _); rw [arrV_size]; exact hin) (by show (arrV _ _ _).slots[_]? = _; rw [arrV_read _ _ hlt]) (g := F0 m pc lsA ((Value.int i :: Value.ref a :: st).map (cv G))) rfl rfl hd (kk p l e R s m args below meth c G N9 H locs cells slots lsA C9 hc9 hs9 hR hS hw)
theorem pw_lald {a n0 : Nat} {f : Nat → Value} {i : Int32} (hd : decode (mC M) pc = .ok (.laload, 1)) (hc : h.2 a = some (.inl (.long, n0, f))) (hin : vp_in i n0) (kk : PW M d n (pc + 1) ls (f i.toNatClampNeg :: st) h Q) : PW M d n pc ls (.int i :: .ref a :: st) h Q := by
  intro p l e R s m args below meth c G N9 H locs cells slots lsA C9 hc9 hs9 hR hS hw
  have hlt : i.toNatClampNeg < n0 := Nat.not_le.mp fun q => hin (Or.inr q)
  exact W.lald (v := cv G (f i.toNatClampNeg)) C9.1.1 C9.1.2.1 (hR.at hc) ((C9.2.2.2.2.1.2 3 _ rfl).1 n0 (fun j => cv G (f j))) (fun q => by cases q) (by show ¬ (i < 0 ∨ (arrV _ _ _).slots.size ≤ _); rw [arrV_size]; exact hin) (by show (arrV _ _ _).slots[_]? = _; rw [arrV_read _ _ hlt]) (g := F0 m pc lsA ((Value.int i :: Value.ref a :: st).map (cv G))) rfl rfl hd (kk p l e R s m args below meth c G N9 H locs cells slots lsA C9 hc9 hs9 hR hS hw)
theorem pw_aald {a n0 t0 : Nat} {E : String} {f : Nat → Value} {i : Int32} (hd : decode (mC M) pc = .ok (.aaload, 1)) (hc : h.2 a = some (.inl (.object E, n0, f))) (ht : tyl[t0]? = some (.object E)) (hin : vp_in i n0) (kk : PW M d n (pc + 1) ls (f i.toNatClampNeg :: st) h Q) : PW M d n pc ls (.int i :: .ref a :: st) h Q := by
  intro p l e R s m args below meth c G N9 H locs cells slots lsA C9 hc9 hs9 hR hS hw
  have hlt : i.toNatClampNeg < n0 := Nat.not_le.mp fun q => hin (Or.inr q)
  have ht9 : (tys G)[t0]? = some (G.2.1 (.object E), .object E) := by unfold tys; rw [List.getElem?_map, ht]; rfl
  exact W.aald (v := cv G (f i.toNatClampNeg)) (ty := .object E) C9.1.1 C9.1.2.1 (hR.at hc) ((C9.2.2.2.2.1.2 t0 _ ht9).1 n0 (fun j => cv G (f j))) rfl (fun q => by cases q) (by show ¬ (i < 0 ∨ (arrV _ _ _).slots.size ≤ _); rw [arrV_size]; exact hin) (by show (arrV _ _ _).slots[_]? = _; rw [arrV_read _ _ hlt]) (g := F0 m pc lsA ((Value.int i :: Value.ref a :: st).map (cv G))) rfl rfl hd (kk p l e R s m args below meth c G N9 H locs cells slots lsA C9 hc9 hs9 hR hS hw)
theorem pw_iast {a n0 : Nat} {f : Nat → Value} {i : Int32} {x : Int32} (hd : decode (mC M) pc = .ok (.iastore, 1)) (hc : h.2 a = some (.inl (.int, n0, f))) (hin : vp_in i n0) (kk : PW M d n (pc + 1) ls st (upH h a (.inl (.int, n0, stF f i.toNatClampNeg (.int x)))) Q) : PW M d n pc ls (.int x :: .int i :: .ref a :: st) h Q := by
  intro p l e_ R s m args below meth c G N9 H locs cells slots lsA C9 hc9 hs9 hR hS hw
  refine W.iast C9.1.1 C9.1.2.1 (hR.at hc) ((C9.2.2.2.2.1.2 0 _ rfl).1 n0 (fun j => cv G (f j))) (fun q => by cases q) (by show ¬ (i < 0 ∨ (arrV _ _ _).slots.size ≤ _); rw [arrV_size]; exact hin) (g := F0 m pc lsA ((Value.int x :: Value.int i :: Value.ref a :: st).map (cv G))) rfl rfl hd fun H1 e z oq => ?_
  refine kk p l e_ R s m args below meth c G N9 H1 _ cells slots lsA C9 hc9 hs9 (hR.put hc z oq ?_) (hS.put z oq (hR.fr hc)) hw
  show H1[ad G a]? = some (arrV _ _ _)
  rw [e]
  rw [arrV_store]
  exact congrArg some (arr_cv G _ n0 f _ (.int x))
theorem pw_last {a n0 : Nat} {f : Nat → Value} {i : Int32} {x : Int64} (hd : decode (mC M) pc = .ok (.lastore, 1)) (hc : h.2 a = some (.inl (.long, n0, f))) (hin : vp_in i n0) (kk : PW M d n (pc + 1) ls st (upH h a (.inl (.long, n0, stF f i.toNatClampNeg (.long x)))) Q) : PW M d n pc ls (.long x :: .int i :: .ref a :: st) h Q := by
  intro p l e_ R s m args below meth c G N9 H locs cells slots lsA C9 hc9 hs9 hR hS hw
  refine W.last C9.1.1 C9.1.2.1 (hR.at hc) ((C9.2.2.2.2.1.2 3 _ rfl).1 n0 (fun j => cv G (f j))) (fun q => by cases q) (by show ¬ (i < 0 ∨ (arrV _ _ _).slots.size ≤ _); rw [arrV_size]; exact hin) (g := F0 m pc lsA ((Value.long x :: Value.int i :: Value.ref a :: st).map (cv G))) rfl rfl hd fun H1 e z oq => ?_
  refine kk p l e_ R s m args below meth c G N9 H1 _ cells slots lsA C9 hc9 hs9 (hR.put hc z oq ?_) (hS.put z oq (hR.fr hc)) hw
  show H1[ad G a]? = some (arrV _ _ _)
  rw [e]
  rw [arrV_store]
  exact congrArg some (arr_cv G _ n0 f _ (.long x))
theorem pw_zast {a n0 : Nat} {f : Nat → Value} {i : Int32} {x : Int32} (hd : decode (mC M) pc = .ok (.bastore, 1)) (hc : h.2 a = some (.inl (.boolean, n0, f))) (hin : vp_in i n0) (hn : narrow .boolean (.int x) = .int x) (kk : PW M d n (pc + 1) ls st (upH h a (.inl (.boolean, n0, stF f i.toNatClampNeg (.int x)))) Q) : PW M d n pc ls (.int x :: .int i :: .ref a :: st) h Q := by
  intro p l e_ R s m args below meth c G N9 H locs cells slots lsA C9 hc9 hs9 hR hS hw
  refine W.zast C9.1.1 C9.1.2.1 (hR.at hc) ((C9.2.2.2.2.1.2 1 _ rfl).1 n0 (fun j => cv G (f j))) (fun q => by cases q) (by show ¬ (i < 0 ∨ (arrV _ _ _).slots.size ≤ _); rw [arrV_size]; exact hin) (g := F0 m pc lsA ((Value.int x :: Value.int i :: Value.ref a :: st).map (cv G))) rfl rfl hd fun H1 e z oq => ?_
  refine kk p l e_ R s m args below meth c G N9 H1 _ cells slots lsA C9 hc9 hs9 (hR.put hc z oq ?_) (hS.put z oq (hR.fr hc)) hw
  show H1[ad G a]? = some (arrV _ _ _)
  rw [e, hn]
  rw [arrV_store]
  exact congrArg some (arr_cv G _ n0 f _ (.int x))
theorem pw_cast {a n0 : Nat} {f : Nat → Value} {i : Int32} {x : Int32} (hd : decode (mC M) pc = .ok (.castore, 1)) (hc : h.2 a = some (.inl (.char, n0, f))) (hin : vp_in i n0) (hn : narrow .char (.int x) = .int x) (kk : PW M d n (pc + 1) ls st (upH h a (.inl (.char, n0, stF f i.toNatClampNeg (.int x)))) Q) : PW M d n pc ls (.int x :: .int i :: .ref a :: st) h Q := by
  intro p l e_ R s m args below meth c G N9 H locs cells slots lsA C9 hc9 hs9 hR hS hw
  refine W.cast C9.1.1 C9.1.2.1 (hR.at hc) ((C9.2.2.2.2.1.2 2 _ rfl).1 n0 (fun j => cv G (f j))) (fun q => by cases q) (by show ¬ (i < 0 ∨ (arrV _ _ _).slots.size ≤ _); rw [arrV_size]; exact hin) (g := F0 m pc lsA ((Value.int x :: Value.int i :: Value.ref a :: st).map (cv G))) rfl rfl hd fun H1 e z oq => ?_
  refine kk p l e_ R s m args below meth c G N9 H1 _ cells slots lsA C9 hc9 hs9 (hR.put hc z oq ?_) (hS.put z oq (hR.fr hc)) hw
  show H1[ad G a]? = some (arrV _ _ _)
  rw [e, hn]
  rw [arrV_store]
  exact congrArg some (arr_cv G _ n0 f _ (.int x))
theorem pw_aast {a n0 t0 b ci : Nat} {E : String} {f fs : Nat → Value} {T : u_T} {N1 : Nat} {i : Int32} (hd : decode (mC M) pc = .ok (.aastore, 1)) (hc : h.2 a = some (.inl (.object E, n0, f))) (ht : tyl[t0]? = some (.object E)) (hb : h.2 b = some (.inr (ci, fs))) (hcl : vwCl[ci]? = some (E, T, N1)) (hin : vp_in i n0) (kk : PW M d n (pc + 1) ls st (upH h a (.inl (.object E, n0, stF f i.toNatClampNeg (.ref b)))) Q) : PW M d n pc ls (.ref b :: .int i :: .ref a :: st) h Q := by
  intro p l e_ R s m args below meth c G N9 H locs cells slots lsA C9 hc9 hs9 hR hS hw
  have hlt : i.toNatClampNeg < n0 := Nat.not_le.mp fun q => hin (Or.inr q)
  have h0 : ¬ i < 0 := fun q => hin (Or.inl q)
  have ht9 : (tys G)[t0]? = some (G.2.1 (.object E), .object E) := by unfold tys; rw [List.getElem?_map, ht]; rfl
  obtain ⟨r', hr', cellV, g1, g2, g3, -⟩ := hR.at hb
  have hcls := (C9.2.2.2.2.1.1 ci _ hcl).2
  obtain ⟨kA, comp, k1, k2, k3, -⟩ := (C9.2.2.2.2.1.2 t0 _ ht9).2
  have hcomp : comp = G.1.1 ci := Option.some.inj (k3.symm.trans hcls.1)
  subst hcomp
  obtain ⟨kC, hkC, -⟩ := hcls.2
  refine W.aast C9.1.1 C9.1.2.1 (hR.at hc) (fun q h => by cases h) (fun h => by cases h) k1 k2 rfl hkC ⟨h0, by show _ < (arrV _ _ _).slots.size; rw [arrV_size]; exact hlt⟩ g1 (fun q h => by rw [g3] at h; cases h) (by rw [g2]; exact hkC) (by rw [g2]; exact va_assign hcls) (g := F0 m pc lsA ((Value.ref b :: Value.int i :: Value.ref a :: st).map (cv G))) rfl rfl hd fun H1 e z oq => ?_
  refine kk p l e_ R s m args below meth c G N9 H1 _ cells slots lsA C9 hc9 hs9 (hR.put hc z oq ?_) (hS.put z oq (hR.fr hc)) hw
  show H1[ad G a]? = some (arrV _ _ _)
  rw [e, arrV_store]
  exact congrArg some (arr_cv G _ n0 f _ (.ref b))
/-- new C: at the logical address k that is next -/
theorem pw_new {idx ci k N : Nat} {C : String} {T : u_T} {ty : Nat → FieldType} {fs : Nat → Value} (hcl : Cls ci C T N ty) (hd : decode (mC M) pc = .ok (.new idx, 3)) (hk : k < 1000) (hz : h.1 = some (lay k)) (hlk : Cond.classLink (mY M).cls idx C ∈ UU) (hins : Cond.instantiable C N ∈ UU) (hini : Cond.initialized C ∈ UU) (hfs : ∀ j, j < N → ∀ G : PG, defaultValue (ty j) = cv G (fs j)) (hn : 1 ≤ n) (hN : N ≤ 1000) (kk : PW M d (n - 1) (pc + 3) ls (.ref k :: st) (some (lay k + 1), (upH h k (.inr (ci, fs))).2) Q) : PW M d n pc ls st h Q := by
  intro p l e_ R s m args below meth c G N9 H locs cells slots lsA C9 hc9 hs9 hR hS hw
  obtain ⟨g1, g2, g3, g4⟩ := hcl
  have hts := C9.2.1
  have hKn := C9.2.2.2.2.1.1 ci _ g1
  obtain ⟨-, -, -, -, -, -, -, ⟨r1, r2, r3, r4⟩, -⟩ := id C9
  refine W.newcK C9.1.1 C9.1.2.1 C9.1.2.2.2.2.1 (hts _ hlk) (hts _ hins) (hts _ hini) (g := F0 m pc lsA (st.map (cv G))) rfl hd (by omega) (by omega) hKn.2.1 rfl fun H1 kC hkC e1 z1 o1 => ?_
  have ea : ad G k = H.size := by rw [ad_lo hk, hR.1 _ hz]
  have w := kk p l e_ R s m args below meth c G N9 H1 locs (cells + 1) (slots + N) lsA C9 (by omega) (by omega) (hR.push hk hz z1 o1 ⟨_, g1, (u_born ty hts g2 hKn hkC e1 g3).to (fun j hj => hfs j hj G)⟩) ⟨Nat.le_trans hS.1 (by omega), fun x h1 h2 => (o1 x (Nat.lt_of_lt_of_le h1 hS.1)).trans (hS.2.1 x h1 h2), hS.2.2⟩ hw
  rw [show (Value.ref k :: st).map (cv G) = Value.ref H.size :: st.map (cv G) by rw [← ea]; rfl] at w
  exact w
theorem pw_newarray {atype : ArrayType} {t0 k N : Nat} {ty : FieldType} {x : Int32} {v0 : Value} (hd : decode (mC M) pc = .ok (.newarray atype, 2)) (hty : newarray.typeOf atype = ty) (ht : tyl[t0]? = some ty) (hra : ∀ (U : State) (cA : ClassId), va_RA U cA ty → U.vm.findClass ("[" ++ ty.toString) = some cA) (hk : k < 1000) (hz : h.1 = some (lay k)) (harr : Cond.arrayClass ty ∈ UU) (hx : ¬ x < 0) (hN : x.toNatClampNeg = N) (hN9 : N ≤ 1000) (hb : N * componentBytes ty ≤ 536870912) (hv0 : ∀ G : PG, defaultValue ty = cv G v0) (hn : 1 ≤ n) (kk : PW M d (n - 1) (pc + 2) ls (.ref k :: st) (some (lay k + 1), (upH h k (.inl (ty, N, fun _ => v0))).2) Q) : PW M d n pc ls (.int x :: st) h Q := by
  subst hty
  intro p l e_ R s m args below meth c G N9 H locs cells slots lsA C9 hc9 hs9 hR hS hw
  have hts := C9.2.1
  obtain ⟨-, -, -, -, -, -, -, ⟨r1, r2, r3, r4⟩, -⟩ := id C9
  have ht9 : (tys G)[t0]? = some (G.2.1 (newarray.typeOf atype), newarray.typeOf atype) := by unfold tys; rw [List.getElem?_map, ht]; rfl
  refine va_newaK C9.1.1 C9.1.2.1 (hts _ harr) (g := F0 m pc lsA ((Value.int x :: st).map (cv G))) rfl hd rfl hx hN hb (by omega) (by omega) rfl fun H1 cA e1 z1 o1 hAr hNm => ?_
  have ec : G.2.1 (newarray.typeOf atype) = cA := Option.some.inj ((hra s _ (C9.2.2.2.2.1.2 t0 _ ht9).2).symm.trans hNm)
  have ea : ad G k = H.size := by rw [ad_lo hk, hR.1 _ hz]
  have w := kk p l e_ R s m args below meth c G N9 H1 locs (cells + 1) (slots + N) lsA C9 (by omega) (by omega) (hR.push hk hz z1 o1 (by
    show H1[H.size]? = some (arrV _ _ _)
    rw [e1, ec]
    exact congrArg some (congrArg (arrV cA N) (funext fun _ => hv0 G)))) ⟨Nat.le_trans hS.1 (by omega), fun x h1 h2 => (o1 x (Nat.lt_of_lt_of_le h1 hS.1)).trans (hS.2.1 x h1 h2), hS.2.2⟩ hw
  rw [show (Value.ref k :: st).map (cv G) = Value.ref H.size :: st.map (cv G) by rw [← ea]; rfl] at w
  exact w
theorem pw_anewarray {idx t0 k N : Nat} {E : String} {x : Int32} (hd : decode (mC M) pc = .ok (.anewarray idx, 3)) (ht : tyl[t0]? = some (.object E)) (hk : k < 1000) (hz : h.1 = some (lay k)) (hlk : Cond.classLink (mY M).cls idx E ∈ UU) (hover : ∀ (G : PG) (U : State), OW G U → va_AO E U) (hx : ¬ x < 0) (hN : x.toNatClampNeg = N) (hN9 : N ≤ 1000) (hn : 1 ≤ n) (kk : PW M d (n - 1) (pc + 3) ls (.ref k :: st) (some (lay k + 1), (upH h k (.inl (.object E, N, fun _ => .null))).2) Q) : PW M d n pc ls (.int x :: st) h Q := by
  subst hN
  intro p l e_ R s m args below meth c G N9 H locs cells slots lsA C9 hc9 hs9 hR hS hw
  have hts := C9.2.1
  obtain ⟨-, -, -, -, -, -, -, ⟨r1, r2, r3, r4⟩, -⟩ := id C9
  have ht9 : (tys G)[t0]? = some (G.2.1 (.object E), .object E) := by unfold tys; rw [List.getElem?_map, ht]; rfl
  refine W.anew C9.1.1 C9.1.2.1 C9.1.2.2.2.2.1 (hts _ hlk) (va_AO.use (hover G s C9.2.2.2.2.2.1)) (g := F0 m pc lsA ((Value.int x :: st).map (cv G))) rfl hd rfl hx (by omega) (by omega) (by omega) fun cA kA comp f1 f2 f3 f4 => ?_
  obtain ⟨kA9, comp9, u1, u2, u3, u4⟩ := (C9.2.2.2.2.1.2 t0 _ ht9).2
  have ec : G.2.1 (.object E) = cA := Option.some.inj (u4.symm.trans f1)
  generalize hH1 : H.push ({ cls := cA, slots := Array.replicate x.toNatClampNeg .null, vm := .none } : Cell) = H1
  have z1 : H1.size = H.size + 1 := by rw [← hH1, Array.size_push]
  have e1 : H1[H.size]? = some (arrV cA x.toNatClampNeg (fun _ => .null)) := by rw [← hH1, Array.getElem?_push_size, ← arrV_new]
  have o1 : ∀ q : Nat, q < H.size → H1[q]? = H[q]? := fun q hq => by rw [← hH1, Array.getElem?_push, if_neg (Nat.ne_of_lt hq)]
  have ea : ad G k = H.size := by rw [ad_lo hk, hR.1 _ hz]
  have w := kk p l e_ R s m args below meth c G N9 H1 locs (cells + 1) (slots + x.toNatClampNeg) lsA C9 (by omega) (by omega) (hR.push hk hz z1 o1 (by
    show H1[H.size]? = some (arrV _ _ _)
    rw [e1, ec]
    rfl)) ⟨Nat.le_trans hS.1 (by omega), fun x h1 h2 => (o1 x (Nat.lt_of_lt_of_le h1 hS.1)).trans (hS.2.1 x h1 h2), hS.2.2⟩ hw
  rw [show (Value.ref k :: st).map (cv G) = Value.ref H.size :: st.map (cv G) by rw [← ea]; rfl] at w
  exact w
theorem pw_objInit {idx a : Nat} (hd : decode (mC M) pc = .ok (.invokespecial idx, 3)) (hlk : Cond.methodLink (mY M).cls idx Lib.objectInit ∈ UU) (hins : Cond.instanceMethod Lib.objectInit ∈ UU) (hcode : Cond.code Lib.objectInit ⟨#[0xb1]⟩ 1 none ∈ UU) (hd1 : 1 ≤ d) (hr : (st.map fun v => v.category).sum ≤ 8) (kk : PW M d n (pc + 3) ls st h Q) : PW M d n pc ls (.ref a :: st) h Q := by
  intro p l e_ R s m args below meth c G N9 H locs cells slots lsA C9 hc9 hs9 hR hS hw
  have hts := C9.2.1
  obtain ⟨⟨k1, k2, k3, k4, k5, k6⟩, -, -, -, -, -, -, ⟨r1, r2, r3, r4⟩, -⟩ := id C9
  refine W.objInit k1 k2 k5 (hts _ hlk) (hts _ hins) (hts _ hcode) (g := F0 m pc lsA ((Value.ref a :: st).map (cv G))) rfl (hw.1.trans k3.symm) rfl hd (by omega) ?_ (kk p l e_ R s m args below meth c G N9 H locs cells slots lsA C9 hc9 hs9 hR hS hw)
  show 2 * 0 + _ + 12 ≤ _
  have e9 : ((st.map (cv G)).map fun v => v.category).sum = (st.map fun v => v.category).sum := by rw [List.map_map]; exact congrArg List.sum (List.map_congr_left fun v _ => cv_cat G v)
  rw [e9]
  omega
end PWH
end
section
theorem cats (G : PG) (st : List Value) : ((st.map (cv G)).map fun v => v.category).sum = (st.map fun v => v.category).sum := by rw [List.map_map]; exact congrArg List.sum (List.map_congr_left fun v _ => cv_cat G v)
/-- what a caller needs of a method's words: k: how many arguments its descriptor has -/
abbrev MOK (M : Mth) (k : Nat) : Prop := mH M = [] ∧ Cond.code (mY M) (mC M) (mL M) (mR M) ∈ UU ∧ Cond.initialized (mY M).cls ∈ UU ∧ ((mY M).cls ≠ "java/lang/invoke/MethodHandle" ∧ (mY M).cls ≠ "java/lang/invoke/VarHandle" ∧ (parseMethodDescriptor (mY M).desc).map (fun d => d.parameters.length) = some k) ∧ mL M ≤ 45
section PWC
variable {M : Mth} {d n pc : Nat} {ls : List (Option Value)} {st : List Value} {h : Hp} {Q : Out → Hp → Prop}
/-- E has been thrown at pc -/
def PT (M : Mth) (d n pc : Nat) (ls : List (Option Value)) (rest : List Value) (h : Hp) (Q : Out → Hp → Prop) (E : String) : Prop :=
  ∀ (p : Program) (l : Launch) (e : Env) (R : Room) (s : State) (m : MethodId) (args : Array Value) (below : List Frame) (meth : Method) (c : Code) (G : PG) (N : Nat) (H : Heap) (locs : List Loc) (cells slots : Nat) (lsA : Array Slot) (q : Addr) (ce : Cell),
    Cx M d N Q p l R s m args meth c G → cells + n ≤ N → slots + 1000 * n ≤ 1000 * N → Rp G h H → va_S (fr G) s.heap H locs → lvS G lsA (mL M) ls → H[q]? = some ce → ce.vm = .none → s.vm.findClass E = some ce.cls →
    vx_W p l e R s m args below meth c H locs cells slots (PZ M N Q below args s G) (F0 m pc lsA (rest.map (cv G))) q
theorem pt_out {rest : List Value} {E : String} (h1 : mK M = 1) (h2 : mH M = []) (hq : Q (.inr E) h) : PT M d n pc ls rest h Q E := by
  intro p l e R s m args below meth c G N H locs cells slots lsA q ce C9 hc hs hR hS hw hcell hv hcl
  obtain ⟨-, -, k3, k4, -⟩ := id C9
  rw [h2] at k4
  unfold PZ
  rw [if_neg (by omega), if_pos h1]
  exact vx_out (fun x hx => by rw [k4] at hx; cases hx) k3 hcell hv hcl (fun t ht ha => ⟨⟨h, hq, by rw [ht]; exact hR⟩, hS.F ht⟩) hS.2.2 (by omega) (by omega)
/-- caught by the row x of the table; the exception goes into the local j -/
theorem pt_catch {rest : List Value} {E : String} (hp : List (Nat × Nat × Nat × Nat)) (x : Nat × Nat × Nat × Nat) (hs0 : List (Nat × Nat × Nat × Nat)) {j w : Nat} {ls1 : List (Option Value)} (hsp : mH M = hp ++ x :: hs0) (hpass : ∀ z ∈ hp, z.2.2.2 ≠ 0 ∧ ∃ nm, Cond.classLink (mY M).cls z.2.2.2 nm ∈ UU ∧ (E, nm) ∈ ncs) (hcov : x.1 ≤ pc ∧ pc < x.2.1) (h0 : x.2.2.2 ≠ 0) (hlk : Cond.classLink (mY M).cls x.2.2.2 E ∈ UU) (hca : Cond.castable E E ∈ UN)
    (hd : (∃ k : Fin 4, (k : Nat) = j ∧ w = 1 ∧ decode (mC M) x.2.2.1 = .ok (.astore_n k, 1)) ∨ (w = 2 ∧ decode (mC M) x.2.2.1 = .ok (.astore j, 2))) (hj : j < mL M) (hnl : ∀ i, i + 1 = j → ∀ w, ls[i]? = some w → nlong w = true) (el : ls.set j none = ls1) (kk : PW M d n (x.2.2.1 + w) ls1 [] h Q) : PT M d n pc ls rest h Q E := by
  intro p l e R s m args below meth c G N H locs cells slots lsA q ce C9 hc hs hR hS hw hcell hv hcl
  obtain ⟨⟨k1, k2, k3, k4, k5, k6⟩, t1, t2, t3, t4, t5, -⟩ := id C9
  have hcast : (Cond.castable E E).before args s = true := va_Nw.use rfl (t5.2.2.1 _ hca)
  refine vx_catch k5 (tableOf hp) ⟨x.1, x.2.1, x.2.2.1, x.2.2.2⟩ (tableOf hs0) (by rw [t3, hsp]; simp [tableOf]) (fun z hz => Or.inr ?_) (by simp [covers, hcov.1, hcov.2]) h0 (t1 _ hlk) hcast hcell hv hcl ?_
  · obtain ⟨y, hy, rfl⟩ := List.mem_map.mp hz
    obtain ⟨b0, nm, b1, b2⟩ := hpass y hy
    exact ⟨b0, nm, t1 _ b1, t5.2.2.2.1 _ b2⟩
  · have key : ∀ lsB : Array Slot, lv_has lsB (mL M) ((j, Value.ref q) :: ((List.range ls.length).filterMap (fun j => (ls.getD j none).map (fun w => (j, cv G w)))).filter (fun q => !(q.1 == j) && !(q.1 + 1 == j && q.2.category == 2))) → W p l e R s m args below meth c H locs cells slots (PZ M N Q below args s G) (F0 m (x.2.2.1 + w) lsB []) := by
      intro lsB hB
      subst el
      refine kk p l e R s m args below meth c G N H locs cells slots lsB C9 hc hs hR hS ⟨hB.1, hB.2.1, fun i v hi => ?_⟩
      by_cases e1 : i = j
      · subst e1
        have hl : i < (ls.set i none).length := (List.getElem?_eq_some_iff.mp hi).1
        rw [List.length_set] at hl
        rw [List.getElem?_set_self hl] at hi
        cases hi
      · rw [List.getElem?_set_ne (Ne.symm e1)] at hi
        refine hB.2.2 (i, cv G v) (List.mem_cons_of_mem _ (List.mem_filter.mpr ⟨lvS.mem hi, ?_⟩))
        have e2 : (i == j) = false := beq_eq_false_iff_ne.mpr e1
        show (!(i == j) && !(i + 1 == j && (cv G v).category == 2)) = true
        rw [e2, cv_cat]
        by_cases e3 : i + 1 = j
        · have := nlong_cat (hnl i e3 _ hi)
          simp [this]
        · simp [e3]
    rcases hd with ⟨k, rfl, rfl, hd⟩ | ⟨rfl, hd⟩
    · exact lv_astore_n k1 k2 hd rfl hw.has hj rfl key
    · exact lv_astore k1 k2 hd hw.has hj rfl key
/-- behind a call -/
theorem pw_after {n' : Nat} {rest : List Value} {Q' : Out → Hp → Prop} {a : Array Value} {p : Program} {l : Launch} {e : Env} {R : Room} {s : State} {m : MethodId} {args : Array Value} {below : List Frame} {meth : Method} {c : Code} {G : PG} {N : Nat} {H : Heap} {locs : List Loc} {cells slots : Nat} {lsA : Array Slot} {stA : List Value}
    (C9 : Cx M d N Q p l R s m args meth c G) (hc : cells + n ≤ N) (hs : slots + 1000 * n ≤ 1000 * N) (hS : va_S (fr G) s.heap H locs) (hw : lvS G lsA (mL M) ls) (hn : n' ≤ n)
    (hr : vx_Run p l e R s m args below meth c H locs cells slots n' (1000 * n') (F0 m pc lsA stA) (rest.map (cv G)) (PQ G Q' a) (PX G Q') (fr G))
    (kr : ∀ r h', Q' (.inl r) h' → PW M d (n - n') (pc + 3) ls (r.toList ++ rest) h' Q) (kx : ∀ E h', Q' (.inr E) h' → PT M d (n - n') pc ls rest h' Q E) : W p l e R s m args below meth c H locs cells slots (PZ M N Q below args s G) (F0 m pc lsA stA) := by
  intro T hT X
  rcases hr T hT X with ⟨v, st₀, t, T', L, h0, X', hL, e1, e2, ⟨⟨r, h', hv, hq, hR'⟩, hF⟩, st⟩ | ⟨q, st₀, t, T', L, E, ce, h0, X', hL, e1, e2, ⟨⟨h', hq, hR'⟩, hF⟩, hce, hcv, hcl, st⟩
  · cases hv
    obtain ⟨k1, k2, k3⟩ := vx_keep h0 e1 hS (fun q _ h => h) (fun q h => h) hL hF
    have w := kr r h' hq p l e R s m args below meth c G N T'.heap (locs ++ L) (cells + n') (slots + 1000 * n') lsA C9 (by omega) (by omega) (by rw [e1]; exact hR') k3 hw
    rw [show (r.toList ++ rest).map (cv G) = (r.map (cv G)).toList ++ rest.map (cv G) by cases r <;> simp] at w
    obtain ⟨t2, a1, b1⟩ := w T' rfl X'
    exact ⟨t2, st t2 a1, b1⟩
  · obtain ⟨k1, k2, k3⟩ := vx_keep h0 e1 hS (fun q _ h => h) (fun q h => h) hL hF
    obtain ⟨t2, a1, b1⟩ := kx E h' hq p l e R s m args below meth c G N T'.heap (locs ++ L) (cells + n') (slots + 1000 * n') lsA q ce C9 (by omega) (by omega) (by rw [e1]; exact hR') k3 hw (by rw [e1]; exact hce) hcv hcl T' rfl X'
    exact ⟨t2, st.trans a1, b1⟩
theorem run_x {p : Program} {l : Launch} {e : Env} {R : Room} {s : State} {m : MethodId} {args : Array Value} {below : List Frame} {meth : Method} {c : Code} {H : Heap} {locs : List Loc} {cells slots mc ms : Nat} {g : JFrame} {rest : List Value} {Qa : State → Outcome → State → Prop} {XC : String → State → State → Prop} {free : Addr → Prop} (h : va_Run p l e R s m args below meth c H locs cells slots mc ms g rest Qa free) : vx_Run p l e R s m args below meth c H locs cells slots mc ms g rest Qa XC free :=
  fun T hT X => Or.inl (h T hT X)
theorem run_0 {G : PG} {Q' : Out → Hp → Prop} {a : Array Value} {p : Program} {l : Launch} {e : Env} {R : Room} {s : State} {m : MethodId} {args : Array Value} {below : List Frame} {meth : Method} {c : Code} {H : Heap} {locs : List Loc} {cells slots mc ms : Nat} {g : JFrame} {rest : List Value} {free : Addr → Prop} (h : va_Run p l e R s m args below meth c H locs cells slots mc ms g rest (PQ G Q' a) free) : vx_Run p l e R s m args below meth c H locs cells slots mc ms g rest (PQ G (fun o h' => ∃ r, o = .inl r ∧ Q' (.inl r) h') a) (PX G (fun o h' => ∃ r, o = .inl r ∧ Q' (.inl r) h')) free := by
  intro T hT X
  obtain ⟨v, st₀, t, T', L, h0, X', hL, e1, e2, ⟨⟨r, h', a1, a2, a3⟩, a4⟩, st⟩ := h T hT X
  exact Or.inl ⟨v, st₀, t, T', L, h0, X', hL, e1, e2, ⟨⟨r, h', a1, ⟨r, rfl, a2⟩, a3⟩, a4⟩, st⟩
theorem wsM_eq {M' : Mth} (h : mH M' = []) : wsM M' = .code (mY M') (mC M') (mL M') (mR M') :: UU := if_pos h
theorem good_ws {M' : Mth} {k : Nat} (ok : MOK M' k) : GoodIn UU (wsM M') := by
  rw [wsM_eq ok.1]
  intro w hw
  rcases List.mem_cons.mp hw with e | hw
  · rw [e]; exact UU_good _ ok.2.1
  · exact UU_good _ hw
theorem call_B {M' : Mth} {k d' n' idx N : Nat} {p : Program} {l : Launch} {R : Room} {s : State} {m : MethodId} {args : Array Value} {meth : Method} {c : Code} {G : PG} (C9 : Cx M d N Q p l R s m args meth c G) (ok : MOK M' k) (hlk : Cond.methodLink (mY M).cls idx (mY M') ∈ UU) (hd : d' + 1 ≤ d) : CallB R s args (mY M).cls idx (mY M') (mC M') (mL M') (mR M') (wsM M') (rmd d' n') n' (1000 * n') k := by
  obtain ⟨-, t1, -, -, -, -, -, ⟨r1, r2, r3, r4⟩, -⟩ := C9
  obtain ⟨o1, o2, o3, o4, o5⟩ := id ok
  exact callB_of k t1 (good_ws ok) (wsM_eq o1) rfl rfl (t1 _ o3) (t1 _ hlk) o4 ⟨by show d' + 1 ≤ _; omega, by show 8 + (mL M' + 11) + 64 * d' ≤ _; omega⟩
theorem pre_S {As : List Value} {G : PG} {s : State} {H : Heap} {locs : List Loc} (hR : Rp G h H) (hK : va_K G.1 vwCl (tys G) s) (hO : OW G s) (hS : va_S (fr G) s.heap H locs) : PreS s H (PP G As h) (As.map (cv G)) :=
  ⟨PP.blind, fun U hU hW => ⟨rfl, by rw [hU]; exact hR, va_K.moved hW.alike hK, hO.go hS hU hW, by rw [hU]; exact hR.2.1⟩⟩
theorem pw_callS {M' : Mth} {idx d' n' k : Nat} {As rest : List Value} {Q' : Out → Hp → Prop} (ct : CT M' d' n' As h Q') (ok : MOK M' k) (hd : decode (mC M) pc = .ok (.invokestatic idx, 3)) (hlk : Cond.methodLink (mY M).cls idx (mY M') ∈ UU) (hst : Cond.static (mY M') ∈ UU) (hk : As.length = k) (e : st = As.reverse ++ rest) (hd' : d' + 1 ≤ d) (hn : n' ≤ n) (hr : (rest.map fun v => v.category).sum ≤ 8)
    (kr : ∀ r h', Q' (.inl r) h' → PW M d (n - n') (pc + 3) ls (r.toList ++ rest) h' Q) (kx : ∀ E h', Q' (.inr E) h' → PT M d (n - n') pc ls rest h' Q E) : PW M d n pc ls st h Q := by
  subst e
  intro p l e_ R s m args below meth c G N H locs cells slots lsA C9 hc hs hR hS hw
  obtain ⟨⟨k1, k2, k3, k4, k5, k6⟩, t1, t2, t3, t4, t5, t6, ⟨r1, r2, r3, r4⟩, t8, t9⟩ := id C9
  have S : CallFix p m c (mC M) (mL M) s args UU (mY M).cls := ⟨k1, k2, k3, k5, t1⟩
  have cb : CallB R s args (mY M).cls idx (mY M') (mC M') (mL M') (mR M') (wsM M') (rmd d' n') n' (1000 * n') k ∧ (Cond.static (mY M')).before args s = true := ⟨call_B C9 ok hlk hd', t1 _ hst⟩
  have hroom : cells + n' ≤ R.cells ∧ slots + 1000 * n' ≤ R.slots := ⟨by omega, by omega⟩
  have hstk : (As.reverse ++ rest).map (cv G) = (As.map (cv G)).reverse ++ rest.map (cv G) := by rw [List.map_append, List.map_reverse]
  have hsum : 2 * (F0 m pc lsA ((As.reverse ++ rest).map (cv G))).monitorRoom + ((rest.map (cv G)).map fun v => v.category).sum ≤ 8 := by
    rw [cats]
    show 2 * 0 + _ ≤ 8
    omega
  have h9 := ct l t8 G
  by_cases m0 : mK M' = 0
  · rw [if_pos m0] at h9
    exact pw_after C9 hc hs hS hw hn (run_x (va_runS S h9 cb (pre_S hR t4 t5 hS) rfl (by rw [List.length_map]; exact hk) hw.1 hstk hsum hd hroom)) kr kx
  · rw [if_neg m0] at h9
    exact pw_after C9 hc hs hS hw hn (vx_runS S h9 cb (pre_S hR t4 t5 hS) rfl (by rw [List.length_map]; exact hk) hw.1 hstk hsum hd hroom) kr kx
/-- a static call of a method with handlers (it returns) -/
theorem pw_callSW {M' : Mth} {idx d' n' k : Nat} {As rest : List Value} {Q' : Out → Hp → Prop} (ct : CT M' d' n' As h Q') (m0 : mK M' = 0) (hne : mH M' ≠ []) (hcode : Cond.codeWith (mY M') (mC M') (mL M') (mR M') (mH M') ∈ UU) (hini : Cond.initialized (mY M').cls ∈ UU) (hcl : (mY M').cls ≠ "java/lang/invoke/MethodHandle" ∧ (mY M').cls ≠ "java/lang/invoke/VarHandle" ∧ (parseMethodDescriptor (mY M').desc).map (fun d => d.parameters.length) = some k) (hL : mL M' ≤ 45) (hd : decode (mC M) pc = .ok (.invokestatic idx, 3)) (hlk : Cond.methodLink (mY M).cls idx (mY M') ∈ UU) (hst : Cond.static (mY M') ∈ UU) (hk : As.length = k) (e : st = As.reverse ++ rest) (hd' : d' + 1 ≤ d) (hn : n' ≤ n) (hr : (rest.map fun v => v.category).sum ≤ 8)
    (kr : ∀ r h', Q' (.inl r) h' → PW M d (n - n') (pc + 3) ls (r.toList ++ rest) h' Q) : PW M d n pc ls st h Q := by
  subst e
  intro p l e_ R s m args below meth c G N H locs cells slots lsA C9 hc hs hR hS hw
  obtain ⟨⟨k1, k2, k3, k4, k5, k6⟩, t1, t2, t3, t4, t5, t6, ⟨r1, r2, r3, r4⟩, t8, t9⟩ := id C9
  have S : CallFix p m c (mC M) (mL M) s args UU (mY M).cls := ⟨k1, k2, k3, k5, t1⟩
  have ew : wsM M' = .codeWith (mY M') (mC M') (mL M') (mR M') (mH M') :: UU := if_neg hne
  have hG : GoodIn UU (va_wsS (mY M).cls idx (mY M') (wsM M')) := by
    intro w hw
    rw [ew] at hw
    unfold va_wsS at hw
    rcases List.mem_append.mp hw with hw | hw
    · rcases List.mem_cons.mp hw with e | hw
      · rw [e]; exact UU_good _ hlk
      · rcases List.mem_cons.mp hw with e | hw
        · rw [e]; exact UU_good _ hst
        · rcases List.mem_cons.mp hw with e | hw
          · rw [e]; exact UU_good _ hini
          · cases hw
    · rcases List.mem_cons.mp hw with e | hw
      · rw [e]; exact UU_good _ hcode
      · exact UU_good _ hw
  have cw := vx_cwSW (R := R) (own := (mY M).cls) (index := idx) (maxL := mL M') (mc := n') (ms := 1000 * n') (y := mY M') (bytes := mC M') (ret := mR M') (hh := mH M') (rm := rmd d' n') (args := args) (s := s) k t1 hG ew rfl rfl hcl ⟨by show d' + 1 ≤ _; omega, by show 8 + (mL M' + 11) + 64 * d' ≤ _; omega⟩
  have h9 := ct l t8 G
  rw [if_pos m0] at h9
  have hstk : (As.reverse ++ rest).map (cv G) = (As.map (cv G)).reverse ++ rest.map (cv G) := by rw [List.map_append, List.map_reverse]
  have hsum : 2 * (F0 m pc lsA ((As.reverse ++ rest).map (cv G))).monitorRoom + ((rest.map (cv G)).map fun v => v.category).sum ≤ 8 := by
    rw [cats]
    show 2 * 0 + _ ≤ 8
    omega
  exact pw_after C9 hc hs hS hw hn (run_0 (vx_runSW S h9 cw (pre_S hR t4 t5 hS) rfl (by rw [List.length_map]; exact hk) hw.1 hstk hsum hd ⟨by omega, by omega⟩)) (fun r h' ⟨r2, e2, q⟩ => by cases e2; exact kr r h' q) (fun E h' ⟨r2, e2, q⟩ => by cases e2)
/-- a static call of a nest mate's private method -/
theorem pw_callSN {M' : Mth} {idx d' n' k : Nat} {host : String} {As rest : List Value} {Q' : Out → Hp → Prop} (ct : CT M' d' n' As h Q') (m0 : mK M' = 0) (ok : MOK M' k) (hd : decode (mC M) pc = .ok (.invokestatic idx, 3)) (hlk : Cond.methodLinkNest (mY M).cls idx (mY M') host ∈ UN) (hst : Cond.static (mY M') ∈ UU) (hk : As.length = k) (e : st = As.reverse ++ rest) (hd' : d' + 1 ≤ d) (hn : n' ≤ n) (hr : (rest.map fun v => v.category).sum ≤ 8)
    (kr : ∀ r h', Q' (.inl r) h' → PW M d (n - n') (pc + 3) ls (r.toList ++ rest) h' Q) : PW M d n pc ls st h Q := by
  subst e
  intro p l e_ R s m args below meth c G N H locs cells slots lsA C9 hc hs hR hS hw
  obtain ⟨⟨k1, k2, k3, k4, k5, k6⟩, t1, t2, t3, t4, t5, t6, ⟨r1, r2, r3, r4⟩, t8, t9⟩ := id C9
  obtain ⟨o1, o2, o3, o4, o5⟩ := id ok
  have S : CallFix p m c (mC M) (mL M) s args UU (mY M).cls := ⟨k1, k2, k3, k5, t1⟩
  have cw := va_cnB (R := R) (own := (mY M).cls) (index := idx) (host := host) (mc := n') (ms := 1000 * n') (rm := rmd d' n') k t1 (good_ws ok) (wsM_eq o1) rfl rfl (t5.2.2.1 _ hlk) (t1 _ o3) o4 ⟨by show d' + 1 ≤ _; omega, by show 8 + (mL M' + 11) + 64 * d' ≤ _; omega⟩
  have h9 := ct l t8 G
  rw [if_pos m0] at h9
  have hstk : (As.reverse ++ rest).map (cv G) = (As.map (cv G)).reverse ++ rest.map (cv G) := by rw [List.map_append, List.map_reverse]
  have hsum : 2 * (F0 m pc lsA ((As.reverse ++ rest).map (cv G))).monitorRoom + ((rest.map (cv G)).map fun v => v.category).sum ≤ 8 := by
    rw [cats]
    show 2 * 0 + _ ≤ 8
    omega
  exact pw_after C9 hc hs hS hw hn (run_0 (va_runSN S h9 ⟨cw, t1 _ hst, trivial⟩ (pre_S hR t4 t5 hS) rfl (by rw [List.length_map]; exact hk) hw.1 hstk hsum hd ⟨by omega, by omega⟩)) (fun r h' ⟨r2, e2, q⟩ => by cases e2; exact kr r h' q) (fun E h' ⟨r2, e2, q⟩ => by cases e2)
/-- a virtual call; the receiver is a cell b of class ci -/
theorem pw_callV {M' : Mth} {idx d' n' k b ci N1 : Nat} {T : u_T} {fs : Nat → Value} {As rest : List Value} {Q' : Out → Hp → Prop} (ct : CT M' d' n' (.ref b :: As) h Q') (ok : MOK M' k) (hd : decode (mC M) pc = .ok (.invokevirtual idx, 3)) (hlk : Cond.methodLink (mY M).cls idx (mY M') ∈ UU) (hin : Cond.instanceMethod (mY M') ∈ UU) (hse : Cond.selects (mY M').cls (mY M') (mY M') ∈ UU) (hb : h.2 b = some (.inr (ci, fs))) (hcl : vwCl[ci]? = some ((mY M').cls, T, N1)) (hk : As.length = k) (e : st = As.reverse ++ .ref b :: rest) (hd' : d' + 1 ≤ d) (hn : n' ≤ n) (hr : (rest.map fun v => v.category).sum ≤ 8)
    (kr : ∀ r h', Q' (.inl r) h' → PW M d (n - n') (pc + 3) ls (r.toList ++ rest) h' Q) (kx : ∀ E h', Q' (.inr E) h' → PT M d (n - n') pc ls rest h' Q E) : PW M d n pc ls st h Q := by
  subst e
  intro p l e_ R s m args below meth c G N H locs cells slots lsA C9 hc hs hR hS hw
  obtain ⟨⟨k1, k2, k3, k4, k5, k6⟩, t1, t2, t3, t4, t5, t6, ⟨r1, r2, r3, r4⟩, t8, t9⟩ := id C9
  have S : CallFix p m c (mC M) (mL M) s args UU (mY M).cls := ⟨k1, k2, k3, k5, t1⟩
  have cb : CallW R s args (mY M).cls (mY M').cls idx (mY M') (mC M') (mL M') (mR M') (wsM M') (rmd d' n') n' (1000 * n') k := ⟨call_B C9 ok hlk hd', t1 _ hin, t1 _ hse⟩
  obtain ⟨r', hr', cell, g1, g2, g3, -⟩ := hR.at hb
  have hrecv : ∃ cellB : Cell, H[ad G b]? = some cellB ∧ cellB.vm.isStatics = false ∧ s.vm.findClass (mY M').cls = some cellB.cls := ⟨cell, g1, by rw [g3]; rfl, by rw [g2]; exact (t4.1 ci _ hcl).2.1⟩
  have pS := pre_S (As := .ref b :: As) hR t4 t5 hS
  have hroom : cells + n' ≤ R.cells ∧ slots + 1000 * n' ≤ R.slots := ⟨by omega, by omega⟩
  have hstk : (As.reverse ++ .ref b :: rest).map (cv G) = (As.map (cv G)).reverse ++ .ref (ad G b) :: rest.map (cv G) := by rw [List.map_append, List.map_reverse]; rfl
  have hsum : 2 * (F0 m pc lsA ((As.reverse ++ .ref b :: rest).map (cv G))).monitorRoom + ((rest.map (cv G)).map fun v => v.category).sum ≤ 8 := by
    rw [cats]
    show 2 * 0 + _ ≤ 8
    omega
  have h9 := ct l t8 G
  by_cases m0 : mK M' = 0
  · rw [if_pos m0] at h9
    exact pw_after C9 hc hs hS hw hn (run_x (va_runV S h9 cb ⟨pS.1, hrecv, pS.2⟩ rfl (by rw [List.length_map]; exact hk) hw.1 hstk hsum hd hroom)) kr kx
  · rw [if_neg m0] at h9
    exact pw_after C9 hc hs hS hw hn (vx_runV S h9 cb ⟨pS.1, hrecv, pS.2⟩ rfl (by rw [List.length_map]; exact hk) hw.1 hstk hsum hd hroom) kr kx
/-- a constructor -/
theorem pw_callI {M' : Mth} {idx d' n' k b : Nat} {As rest : List Value} {Q' : Out → Hp → Prop} (ct : CT M' d' n' (.ref b :: As) h Q') (m0 : mK M' = 0) (ok : MOK M' k) (hm : (mY M').name = "<init>") (hret : mR M' = none) (hd : decode (mC M) pc = .ok (.invokespecial idx, 3)) (hlk : Cond.methodLink (mY M).cls idx (mY M') ∈ UU) (hin : Cond.instanceMethod (mY M') ∈ UU) (hk : As.length = k) (e : st = As.reverse ++ .ref b :: rest) (hd' : d' + 1 ≤ d) (hn : n' ≤ n) (hr : (rest.map fun v => v.category).sum ≤ 8)
    (kr : ∀ r h', Q' (.inl r) h' → PW M d (n - n') (pc + 3) ls (r.toList ++ rest) h' Q) : PW M d n pc ls st h Q := by
  subst e
  intro p l e_ R s m args below meth c G N H locs cells slots lsA C9 hc hs hR hS hw
  obtain ⟨⟨k1, k2, k3, k4, k5, k6⟩, t1, t2, t3, t4, t5, t6, ⟨r1, r2, r3, r4⟩, t8, t9⟩ := id C9
  have S : CallFix p m c (mC M) (mL M) s args UU (mY M).cls := ⟨k1, k2, k3, k5, t1⟩
  have cb := call_B (n' := n') C9 ok hlk hd'
  rw [hret] at cb
  have h9 := ct l t8 G
  rw [if_pos m0] at h9
  have hstk : (As.reverse ++ .ref b :: rest).map (cv G) = (As.map (cv G)).reverse ++ .ref (ad G b) :: rest.map (cv G) := by rw [List.map_append, List.map_reverse]; rfl
  have hsum : 2 * (F0 m pc lsA ((As.reverse ++ .ref b :: rest).map (cv G))).monitorRoom + ((rest.map (cv G)).map fun v => v.category).sum ≤ 8 := by
    rw [cats]
    show 2 * 0 + _ ≤ 8
    omega
  exact pw_after C9 hc hs hS hw hn (run_0 (va_runI S h9 ⟨cb, hm, t1 _ hin⟩ (pre_S (As := .ref b :: As) hR t4 t5 hS) rfl (by rw [List.length_map]; exact hk) hw.1 hstk hsum hd ⟨by omega, by omega⟩)) (fun r h' ⟨r2, e2, q⟩ => by cases e2; exact kr r h' q) (fun E h' ⟨r2, e2, q⟩ => by cases e2)
theorem pw_callIN {M' : Mth} {idx d' n' k b : Nat} {host : String} {As rest : List Value} {Q' : Out → Hp → Prop} (ct : CT M' d' n' (.ref b :: As) h Q') (m0 : mK M' = 0) (ok : MOK M' k) (hm : (mY M').name = "<init>") (hret : mR M' = none) (hd : decode (mC M) pc = .ok (.invokespecial idx, 3)) (hlk : Cond.methodLinkNest (mY M).cls idx (mY M') host ∈ UN) (hin : Cond.instanceMethod (mY M') ∈ UU) (hk : As.length = k) (e : st = As.reverse ++ .ref b :: rest) (hd' : d' + 1 ≤ d) (hn : n' ≤ n) (hr : (rest.map fun v => v.category).sum ≤ 8)
    (kr : ∀ r h', Q' (.inl r) h' → PW M d (n - n') (pc + 3) ls (r.toList ++ rest) h' Q) : PW M d n pc ls st h Q := by
  subst e
  intro p l e_ R s m args below meth c G N H locs cells slots lsA C9 hc hs hR hS hw
  obtain ⟨⟨k1, k2, k3, k4, k5, k6⟩, t1, t2, t3, t4, t5, t6, ⟨r1, r2, r3, r4⟩, t8, t9⟩ := id C9
  obtain ⟨o1, o2, o3, o4, o5⟩ := id ok
  have S : CallFix p m c (mC M) (mL M) s args UU (mY M).cls := ⟨k1, k2, k3, k5, t1⟩
  have cw := va_cnB (R := R) (own := (mY M).cls) (index := idx) (host := host) (mc := n') (ms := 1000 * n') (rm := rmd d' n') k t1 (good_ws ok) (wsM_eq o1) rfl rfl (t5.2.2.1 _ hlk) (t1 _ o3) o4 ⟨by show d' + 1 ≤ _; omega, by show 8 + (mL M' + 11) + 64 * d' ≤ _; omega⟩
  rw [hret] at cw
  have h9 := ct l t8 G
  rw [if_pos m0] at h9
  have hstk : (As.reverse ++ .ref b :: rest).map (cv G) = (As.map (cv G)).reverse ++ .ref (ad G b) :: rest.map (cv G) := by rw [List.map_append, List.map_reverse]; rfl
  have hsum : 2 * (F0 m pc lsA ((As.reverse ++ .ref b :: rest).map (cv G))).monitorRoom + ((rest.map (cv G)).map fun v => v.category).sum ≤ 8 := by
    rw [cats]
    show 2 * 0 + _ ≤ 8
    omega
  exact pw_after C9 hc hs hS hw hn (run_0 (va_runIN S h9 ⟨cw, hm, t1 _ hin⟩ (pre_S (As := .ref b :: As) hR t4 t5 hS) rfl (by rw [List.length_map]; exact hk) hw.1 hstk hsum hd ⟨by omega, by omega⟩)) (fun r h' ⟨r2, e2, q⟩ => by cases e2; exact kr r h' q) (fun E h' ⟨r2, e2, q⟩ => by cases e2)
theorem pw_max {idx : Nat} {x y : Int32} (hd : decode (mC M) pc = .ok (.invokestatic idx, 3)) (hlk : Cond.methodLink (mY M).cls idx Lib.Math.max.name ∈ UU) (hst : Cond.static Lib.Math.max.name ∈ UU) (hini : Cond.initialized "java/lang/Math" ∈ UU) (hcode : Cond.code Lib.Math.max.name Lib.Math.max.code 2 (some .int) ∈ UU) (hd1 : 1 ≤ d) (hr : (st.map fun v => v.category).sum ≤ 8) (kk : PW M d n (pc + 3) ls (.int (if x < y then y else x) :: st) h Q) : PW M d n pc ls (.int y :: .int x :: st) h Q := by
  intro p l e_ R s m args below meth c G N H locs cells slots lsA C9 hc hs hR hS hw
  obtain ⟨⟨k1, k2, k3, k4, k5, k6⟩, t1, t2, t3, t4, t5, t6, ⟨r1, r2, r3, r4⟩, t8, t9⟩ := id C9
  exact va_mmax k1 k2 (k3.trans hw.1.symm) k5 (t1 _ hlk) (t1 _ hst) (t1 _ hini) (t1 _ hcode) (by omega) (by rw [cats]; omega) (by omega) (by omega) hd (kk p l e_ R s m args below meth c G N H locs cells slots lsA C9 hc hs hR hS hw)
theorem pw_min {idx : Nat} {x y : Int32} (hd : decode (mC M) pc = .ok (.invokestatic idx, 3)) (hlk : Cond.methodLink (mY M).cls idx Lib.Math.min.name ∈ UU) (hst : Cond.static Lib.Math.min.name ∈ UU) (hini : Cond.initialized "java/lang/Math" ∈ UU) (hcode : Cond.code Lib.Math.min.name Lib.Math.min.code 2 (some .int) ∈ UU) (hd1 : 1 ≤ d) (hr : (st.map fun v => v.category).sum ≤ 8) (kk : PW M d n (pc + 3) ls (.int (if y < x then y else x) :: st) h Q) : PW M d n pc ls (.int y :: .int x :: st) h Q := by
  intro p l e_ R s m args below meth c G N H locs cells slots lsA C9 hc hs hR hS hw
  obtain ⟨⟨k1, k2, k3, k4, k5, k6⟩, t1, t2, t3, t4, t5, t6, ⟨r1, r2, r3, r4⟩, t8, t9⟩ := id C9
  exact va_mmin k1 k2 (k3.trans hw.1.symm) k5 (t1 _ hlk) (t1 _ hst) (t1 _ hini) (t1 _ hcode) (by omega) (by rw [cats]; omega) (by omega) (by omega) hd (kk p l e_ R s m args below meth c G N H locs cells slots lsA C9 hc hs hR hS hw)
theorem pw_ireturn {ty : FieldType} {v : Int32} (hd : decode (mC M) pc = .ok (.ireturn, 1)) (hret : mR M = some ty) (hk : mK M ≤ 1) (hn : narrow ty (.int v) = .int v) (hq : Q (.inl (some (.int v))) h) : PW M d n pc ls [.int v] h Q := by
  intro p l e_ R s m args below meth c G N H locs cells slots lsA C9 hc hs hR hS hw
  obtain ⟨⟨k1, k2, k3, k4, k5, k6⟩, t1, t2, t3, t4, t5, t6, ⟨r1, r2, r3, r4⟩, t8, t9⟩ := id C9
  have hq' : ∀ t : State, t.heap = H → s.WarmedH t.vm → PQ G Q args s (.returned (some (.int v))) t := fun t ht hW => ⟨⟨some (.int v), h, rfl, hq, by rw [ht]; exact hR⟩, hS.F ht⟩
  unfold PZ
  by_cases m0 : mK M = 0
  · rw [if_pos m0]
    exact W.widen (k := N) (n := 1000 * N) (by omega) (by omega) (W.zret k1 k2 (k4.trans hret) hn hq' hS.2.2 hd t2)
  · rw [if_neg m0, if_pos (show mK M = 1 by omega)]
    exact W.widen (k := N) (n := 1000 * N) (by omega) (by omega) (vx_ret (W.zret k1 k2 (k4.trans hret) hn hq' hS.2.2 hd t2))
/-- the law's own end -/
theorem pw_lawret (hC : mC M = code) (hret : mR M = ret) (hm : mK M = 2) (hd : decode (mC M) pc = .ok (.ireturn, 1)) : PW M d n pc ls [.int 1] h Q := by
  intro p l e_ R s m args below meth c G N H locs cells slots lsA C9 hc hs hR hS hw
  obtain ⟨⟨k1, k2, k3, k4, k5, k6⟩, t1, t2, t3, t4, t5, t6, ⟨r1, r2, r3, r4⟩, t8, t9⟩ := id C9
  obtain ⟨u1, u2, u3, u4, u5, u6, b, u7⟩ := t9 hm
  subst u5; subst u7
  unfold PZ
  rw [if_neg (by omega), if_neg (by omega)]
  refine va_forget (fun q hq => by rw [← u4]; exact hS.2.2 q hq) ?_
  refine W.widen (k := 601024) (n := 7293034) (by omega) (by omega) ?_
  exact lw_ret k1 (k2.trans hC) (k4.trans hret) t2 (by rw [← hC]; exact hd)
theorem pw_return (hd : decode (mC M) pc = .ok (.return_, 1)) (hret : mR M = none) (hk : mK M ≤ 1) (hq : Q (.inl none) h) : PW M d n pc ls [] h Q := by
  intro p l e_ R s m args below meth c G N H locs cells slots lsA C9 hc hs hR hS hw
  obtain ⟨⟨k1, k2, k3, k4, k5, k6⟩, t1, t2, t3, t4, t5, t6, ⟨r1, r2, r3, r4⟩, t8, t9⟩ := id C9
  have hq' : ∀ t : State, t.heap = H → s.WarmedH t.vm → PQ G Q args s (.returned none) t := fun t ht hW => ⟨⟨none, h, rfl, hq, by rw [ht]; exact hR⟩, hS.F ht⟩
  unfold PZ
  by_cases m0 : mK M = 0
  · rw [if_pos m0]
    exact W.widen (k := N) (n := 1000 * N) (by omega) (by omega) (W.vret k1 k2 (k4.trans hret) hq' hS.2.2 hd t2)
  · rw [if_neg m0, if_pos (show mK M = 1 by omega)]
    exact W.widen (k := N) (n := 1000 * N) (by omega) (by omega) (vx_ret (W.vret k1 k2 (k4.trans hret) hq' hS.2.2 hd t2))
theorem pw_areturn {a : Nat} {E : String} (hd : decode (mC M) pc = .ok (.areturn, 1)) (hret : mR M = some (.object E)) (hk : mK M ≤ 1) (hq : Q (.inl (some (.ref a))) h) : PW M d n pc ls [.ref a] h Q := by
  intro p l e_ R s m args below meth c G N H locs cells slots lsA C9 hc hs hR hS hw
  obtain ⟨⟨k1, k2, k3, k4, k5, k6⟩, t1, t2, t3, t4, t5, t6, ⟨r1, r2, r3, r4⟩, t8, t9⟩ := id C9
  have hq' : ∀ t : State, t.heap = H → s.WarmedH t.vm → PQ G Q args s (.returned (some (.ref (ad G a)))) t := fun t ht hW => ⟨⟨some (.ref a), h, rfl, hq, by rw [ht]; exact hR⟩, hS.F ht⟩
  unfold PZ
  by_cases m0 : mK M = 0
  · rw [if_pos m0]
    exact W.widen (k := N) (n := 1000 * N) (by omega) (by omega) (W.aret k1 k2 (k4.trans hret) (Or.inl ⟨E, rfl⟩) (Or.inr ⟨_, rfl⟩) hq' hS.2.2 hd t2)
  · rw [if_neg m0, if_pos (show mK M = 1 by omega)]
    exact W.widen (k := N) (n := 1000 * N) (by omega) (by omega) (vx_ret (W.aret k1 k2 (k4.trans hret) (Or.inl ⟨E, rfl⟩) (Or.inr ⟨_, rfl⟩) hq' hS.2.2 hd t2))
end PWC
end
section
/-- entry locals -/
theorem els_args (G : PG) : ∀ (args : List Value) (off i : Nat) (v : Value), (els args)[i]? = some (some v) → (off + i, cv G v) ∈ lv_args off (args.map (cv G)) := by
  intro args
  induction args with
  | nil => intro off i v h; simp [els] at h
  | cons a t ih =>
    have one : a.category = 1 → els (a :: t) = some a :: els t → ∀ (off i : Nat) (v : Value), (els (a :: t))[i]? = some (some v) → (off + i, cv G v) ∈ lv_args off ((a :: t).map (cv G)) := by
      intro hc he off i v h
      rw [he] at h
      show _ ∈ (off, cv G a) :: lv_args (if (cv G a).category = 2 then off + 2 else off + 1) (t.map (cv G))
      rw [cv_cat, hc, if_neg (by decide)]
      cases i with
      | zero =>
        rw [List.getElem?_cons_zero] at h
        cases h
        exact List.mem_cons_self
      | succ i =>
        rw [List.getElem?_cons_succ] at h
        have := ih (off + 1) i v h
        rw [show off + 1 + i = off + (i + 1) by omega] at this
        exact List.mem_cons_of_mem _ this
    intro off i v h
    cases a with
    | long x =>
      simp only [els] at h
      show _ ∈ (off, Value.long x) :: lv_args (if (Value.long x).category = 2 then off + 2 else off + 1) (t.map (cv G))
      rw [if_pos (show (Value.long x).category = 2 from rfl)]
      match i, h with
      | 0, h =>
        rw [List.getElem?_cons_zero] at h
        cases h
        exact List.mem_cons_self
      | 1, h =>
        rw [List.getElem?_cons_succ, List.getElem?_cons_zero] at h
        cases h
      | i + 2, h =>
        rw [List.getElem?_cons_succ, List.getElem?_cons_succ] at h
        have := ih (off + 2) i v h
        rw [show off + 2 + i = off + (i + 2) by omega] at this
        exact List.mem_cons_of_mem _ this
    | double x =>
      simp only [els] at h
      show _ ∈ (off, Value.double x) :: lv_args (if (Value.double x).category = 2 then off + 2 else off + 1) (t.map (cv G))
      rw [if_pos (show (Value.double x).category = 2 from rfl)]
      match i, h with
      | 0, h =>
        rw [List.getElem?_cons_zero] at h
        cases h
        exact List.mem_cons_self
      | 1, h =>
        rw [List.getElem?_cons_succ, List.getElem?_cons_zero] at h
        cases h
      | i + 2, h =>
        rw [List.getElem?_cons_succ, List.getElem?_cons_succ] at h
        have := ih (off + 2) i v h
        rw [show off + 2 + i = off + (i + 2) by omega] at this
        exact List.mem_cons_of_mem _ this
    | int x => exact one rfl rfl off i v h
    | float x => exact one rfl rfl off i v h
    | null => exact one rfl rfl off i v h
    | ref x => exact one rfl rfl off i v h
    | retAddr x => exact one rfl rfl off i v h
theorem lvS_entry {G : PG} {args : List Value} {k L : Nat} {ls : List (Option Value)} (e : els args ++ List.replicate k none = ls) (hn : (lg_sl (args.map (cv G))).length ≤ L) : lvS G ((lg_sl (args.map (cv G)) ++ List.replicate (L - (lg_sl (args.map (cv G))).length) Slot.unset).toArray) L ls := by
  have h := lv_entry (args.map (cv G)) hn
  refine ⟨h.1, h.2.1, fun i v hi => ?_⟩
  rw [← e] at hi
  by_cases hl : i < (els args).length
  · rw [List.getElem?_append_left hl] at hi
    have := els_args G args 0 i v hi
    rw [Nat.zero_add] at this
    exact h.2.2 (i, cv G v) this
  · rw [List.getElem?_append_right (by omega)] at hi
    have := List.eq_of_mem_replicate (List.mem_of_getElem? hi)
    cases this
theorem lg_len (G : PG) (args : List Value) : (lg_sl (args.map (cv G))).length = (lg_sl args).length := by
  induction args with
  | nil => rfl
  | cons a t ih =>
    simp only [lg_sl, List.map_cons, List.flatMap_cons, List.length_append] at ih ⊢
    rw [ih]
    congr 1
    rw [cv_cat]
    by_cases h : a.category = 2 <;> simp [h]
theorem Met_ofWH {l : Launch} {y : MethodName} {ws ws' : List Cond} {rm : Room} {Pc : Array Value → State → Prop} {Qc : Array Value → State → Outcome → State → Prop} {mc ms : Nat} {free : Addr → Prop} {cc : ByteArray} {maxL : Nat} {ret : Option FieldType} {hh : List (Nat × Nat × Nat × Nat)}
    (hy : plainName y.cls = true) (hw : ws = Cond.codeWith y cc maxL ret hh :: ws')
    (body : ∀ p e s m args below meth c s₁, BodyLoose p l y (headSpec ws rm) cc maxL ret e s m args below meth c s₁ → c.maxLocals = maxL → Pc args s →
      W p l e (headSpec ws rm).room s m args below meth c s.heap [] 0 0 (MQ below Qc args s mc ms free) (entryFrame m args maxL)) : Met l y ws rm Pc Qc mc ms free := by
  refine MetFree.of_bodyS (code := cc) (maxLocals := maxL) (ret := ret) hy ?_ ?_
  · intro args s m h hn
    obtain ⟨m9, meth, c, hn9, h1, h2, h3, h4, -, h5, h6, -⟩ := Cond.codeWith_spec (atoms_spec (ws := ws) h _ (by rw [hw]; exact List.mem_cons_self))
    cases hn.symm.trans hn9
    exact ⟨meth, c, h1, h2, h3, h4, h5, h6⟩
  · intro p e s m args below meth c s₁ B hml hP _
    have hh0 : s₁.heap = s.heap := by rw [B.state]; rfl
    obtain ⟨t, a1, o, b1, b2, b3⟩ := body p e s m args below meth c s₁ B hml hP s₁ hh0 (Stand.of_body B)
    exact ⟨t, o, a1, b1, b2, b3⟩
section ENT
variable {M : Mth} {d n : Nat} {args : List Value} {h : Hp} {Q : Out → Hp → Prop}
theorem ent_cx {l : Launch} {G : PG} {p : Program} {e : Env} {s : State} {m : MethodId} {va : Array Value} {below : List Frame} {meth : Method} {c : Code} {s₁ : State} (hl : l.stackTraces = false) (hm : mK M ≤ 1) (B : BodyLoose p l (mY M) (headSpec (wsM M) (rmd d n)) (mC M) (mL M) (mR M) e s m va below meth c s₁) (hml : c.maxLocals = mL M) (ht : c.exceptionTable.toList = tableOf (mH M)) (hP : PP G args h va s) : Cx M d n Q p l (headSpec (wsM M) (rmd d n)).room s m va meth c G := by
  obtain ⟨-, -, q3, q4, q5⟩ := hP
  have hts := atoms_spec (ws := wsM M) B.pre
  refine ⟨⟨B.exec, B.bytes, hml, B.returns, findClass_of_methodNamed B.named, (name_of_methodNamed B.named B.method).1⟩, fun w hw => hts w ?_, B.notSynchronized, ht, q3, q4, q5, ⟨Nat.le_refl d, Nat.le_refl _, Nat.le_refl n, Nat.le_refl _⟩, hl, fun z => absurd z (by omega)⟩
  unfold wsM
  by_cases e : mH M = []
  · rw [if_pos e]; exact List.mem_cons_of_mem _ hw
  · rw [if_neg e]; exact List.mem_cons_of_mem _ hw
theorem ent_go {l : Launch} {G : PG} {p : Program} {e : Env} {s : State} {m : MethodId} {va : Array Value} {below : List Frame} {meth : Method} {c : Code} {R : Room} {k : Nat} {ls : List (Option Value)} (e1 : els args ++ List.replicate k none = ls) (hn : (lg_sl args).length ≤ mL M) (C9 : Cx M d n Q p l R s m va meth c G) (hP : PP G args h va s) (body : PW M d n 0 ls [] h Q) : W p l e R s m va below meth c s.heap [] 0 0 (PZ M n Q below va s G) (entryFrame m va (mL M)) := by
  obtain ⟨q1, q2, q3, q4, q5⟩ := hP
  subst q1
  rw [lg_entry_eq]
  exact body p l e R s m _ below meth c G n s.heap [] 0 0 _ C9 (by omega) (by omega) q2 va_S.rf (lvS_entry e1 (by rw [lg_len]; exact hn))
theorem ct_of (hp : plainName (mY M).cls = true) (hm : mK M ≤ 1) (hh : mH M = []) {k : Nat} {ls : List (Option Value)} (e1 : els args ++ List.replicate k none = ls) (hn : (lg_sl args).length ≤ mL M) (body : PW M d n 0 ls [] h Q) : CT M d n args h Q := by
  intro l hl G
  have ew : wsM M = .code (mY M) (mC M) (mL M) (mR M) :: UU := wsM_eq hh
  by_cases m0 : mK M = 0
  · rw [if_pos m0]
    refine Met.ofW (cc := mC M) (maxL := mL M) (ret := mR M) hp ew fun p e s m va below meth c s₁ B hml hP => ?_
    have ht : c.exceptionTable.toList = tableOf (mH M) := by
      obtain ⟨meth9, c9, h1, h2, -, -, -, -, h7, -⟩ := Cond.code_spec B.named (atoms_spec (ws := wsM M) B.pre _ (by rw [ew]; exact List.mem_cons_self))
      cases Option.some.inj (h1.symm.trans B.method)
      cases Option.some.inj (h2.symm.trans (Stand.of_body B).code)
      rw [hh, Array.isEmpty_iff.mp h7]
      rfl
    have w := ent_go (e := e) (below := below) e1 hn (ent_cx (Q := Q) hl hm B hml ht hP) hP body
    unfold PZ at w
    rw [if_pos m0] at w
    exact w
  · rw [if_neg m0]
    refine vx_ofW (cc := mC M) (maxL := mL M) (ret := mR M) hp ew fun p e s m va below meth c s₁ B hml hx hP => ?_
    have ht : c.exceptionTable.toList = tableOf (mH M) := by
      rw [hh]
      exact List.eq_nil_iff_forall_not_mem.mpr fun x h => hx x h
    have w := ent_go (e := e) (below := below) e1 hn (ent_cx (Q := Q) hl hm B hml ht hP) hP body
    unfold PZ at w
    rw [if_neg m0, if_pos (show mK M = 1 by omega)] at w
    exact w
theorem ct_ofH (hp : plainName (mY M).cls = true) (m0 : mK M = 0) (hh : mH M ≠ []) {k : Nat} {ls : List (Option Value)} (e1 : els args ++ List.replicate k none = ls) (hn : (lg_sl args).length ≤ mL M) (body : PW M d n 0 ls [] h Q) : CT M d n args h Q := by
  intro l hl G
  have ew : wsM M = .codeWith (mY M) (mC M) (mL M) (mR M) (mH M) :: UU := if_neg hh
  rw [if_pos m0]
  refine Met_ofWH (cc := mC M) (maxL := mL M) (ret := mR M) hp ew fun p e s m va below meth c s₁ B hml hP => ?_
  have ht : c.exceptionTable.toList = tableOf (mH M) := vx_table (x := mY M) B (atoms_spec (ws := wsM M) B.pre _ (by rw [ew]; exact List.mem_cons_self))
  have w := ent_go (e := e) (below := below) e1 hn (ent_cx (Q := Q) hl (by omega) B hml ht hP) hP body
  unfold PZ at w
  rw [if_pos m0] at w
  exact w
end ENT
theorem thr_ot {w : Cond} (h : w ∈ UU ∨ w ∈ UN) : vx_ot w = true := by
  rcases h with h | h
  · have := (List.mem_filter.mp h).2
    unfold vx_ot
    rw [this, Bool.or_true]
  · have := (List.mem_filter.mp h).2
    cases w <;> first | rfl | cases this
abbrev exN : List String := ["java/lang/RuntimeException", "java/lang/Exception"]
abbrev TW (ic : Nat) (E : String) : Prop := Bundle.fit E = true ∧ Cond.initialized E ∈ UU ∧ ∀ w ∈ vx_atS "RowTriggers" ic E exN, w ∈ UU ∨ w ∈ UN
section THR
variable {M : Mth} {d n pc : Nat} {ls : List (Option Value)} {st : List Value} {h : Hp} {Q : Out → Hp → Prop}
theorem pw_throw {ik is ic : Nat} {E tx : String} (tw : TW ic E) (hm : mK M = 1) (hh : mH M = []) (hown : (mY M).cls = "RowTriggers") (hk : Cond.classLink "RowTriggers" ik E ∈ UU) (hs : (is, tx) ∈ strs) (d0 : decode (mC M) pc = .ok (.new ik, 3)) (d3 : decode (mC M) (pc + 3) = .ok (.dup, 1)) (d4 : decode (mC M) (pc + 4) = .ok (.ldc is, 2)) (d6 : decode (mC M) (pc + 6) = .ok (.invokespecial ic, 3)) (d9 : decode (mC M) (pc + 9) = .ok (.athrow, 1)) (hd : 6 ≤ d) (hn : 1 ≤ n) (hq : Q (.inr E) (none, h.2)) : PW M d n pc ls [] h Q := by
  intro p l e_ R s m args below meth c G N H locs cells slots lsA C9 hc hs9 hR hS hw
  obtain ⟨⟨k1, k2, k3, k4, k5, k6⟩, t1, t2, t3, t4, t5, t6, ⟨r1, r2, r3, r4⟩, t8, t9⟩ := id C9
  obtain ⟨w1, w2, w3⟩ := tw
  obtain ⟨sa, hsa⟩ := t5.2.1 _ hs
  rw [hown] at k5
  rw [hh] at t3
  unfold PZ
  rw [if_neg (by omega), if_pos hm]
  exact vx_throwS (A := fr G) (names := exN) (cls := E) (text := tx) k1 k2 t8 k5 w1 (by decide) (t1 _ hk) (t1 _ w2) hsa (fun w hw => (w3 w hw).elim (fun h => t1 _ h) (fun h => va_Nw.use (by have := (List.mem_filter.mp h).2; cases w <;> first | rfl | cases this) (t5.2.2.1 _ h))) (fun w hw => by
      rcases List.mem_cons.mp hw with e | hw
      · rw [e]; exact thr_ot (Or.inl hk)
      · rcases List.mem_cons.mp hw with e | hw
        · rw [e]; exact thr_ot (Or.inl w2)
        · exact thr_ot (w3 w hw)) t5.1.1 t5.1.2 hS (hw.1.trans k3.symm) d0 d3 d4 d6 d9 (fun x hx => by rw [t3] at hx; cases hx) (by show 2 + 3 < _; omega) (by show 0 + (13 * (2 + 1) + 43) ≤ _; omega) (by omega) (by omega) t2
    (fun t ha hz hq9 => ⟨⟨(none, h.2), hq, hR.grow hz hq9⟩, ⟨Nat.le_trans hS.1 hz, fun q g1 g2 => by rw [hq9 q (Nat.lt_of_lt_of_le g1 hS.1)]; exact hS.2.1 q g1 g2⟩⟩) hS.2.2 (by omega) (by omega)
theorem pw_throwW {ik is ic : Nat} {E tx : String} (tw : TW ic E) (hm : mK M = 1) (hh : mH M = []) (hown : (mY M).cls = "RowTriggers") (hk : Cond.classLink "RowTriggers" ik E ∈ UU) (hs : (is, tx) ∈ strs) (d0 : decode (mC M) pc = .ok (.new ik, 3)) (d3 : decode (mC M) (pc + 3) = .ok (.dup, 1)) (d4 : decode (mC M) (pc + 4) = .ok (.ldc_w is, 3)) (d7 : decode (mC M) (pc + 7) = .ok (.invokespecial ic, 3)) (d10 : decode (mC M) (pc + 10) = .ok (.athrow, 1)) (hd : 6 ≤ d) (hn : 1 ≤ n) (hq : Q (.inr E) (none, h.2)) : PW M d n pc ls [] h Q := by
  intro p l e_ R s m args below meth c G N H locs cells slots lsA C9 hc hs9 hR hS hw
  obtain ⟨⟨k1, k2, k3, k4, k5, k6⟩, t1, t2, t3, t4, t5, t6, ⟨r1, r2, r3, r4⟩, t8, t9⟩ := id C9
  obtain ⟨w1, w2, w3⟩ := tw
  obtain ⟨sa, hsa⟩ := t5.2.1 _ hs
  rw [hown] at k5
  rw [hh] at t3
  unfold PZ
  rw [if_neg (by omega), if_pos hm]
  exact vx_throwSW (A := fr G) (names := exN) (cls := E) (text := tx) k1 k2 t8 k5 w1 (by decide) (t1 _ hk) (t1 _ w2) hsa (fun w hw => (w3 w hw).elim (fun h => t1 _ h) (fun h => va_Nw.use (by have := (List.mem_filter.mp h).2; cases w <;> first | rfl | cases this) (t5.2.2.1 _ h))) (fun w hw => by
      rcases List.mem_cons.mp hw with e | hw
      · rw [e]; exact thr_ot (Or.inl hk)
      · rcases List.mem_cons.mp hw with e | hw
        · rw [e]; exact thr_ot (Or.inl w2)
        · exact thr_ot (w3 w hw)) t5.1.1 t5.1.2 hS (hw.1.trans k3.symm) d0 d3 d4 d7 d10 (fun x hx => by rw [t3] at hx; cases hx) (by show 2 + 3 < _; omega) (by show 0 + (13 * (2 + 1) + 43) ≤ _; omega) (by omega) (by omega) t2
    (fun t ha hz hq9 => ⟨⟨(none, h.2), hq, hR.grow hz hq9⟩, ⟨Nat.le_trans hS.1 hz, fun q g1 g2 => by rw [hq9 q (Nat.lt_of_lt_of_le g1 hS.1)]; exact hS.2.1 q g1 g2⟩⟩) hS.2.2 (by omega) (by omega)
/-- System.arraycopy between two rows of ints -/
theorem pw_copy {idx a b n0 n1 : Nat} {f g : Nat → Value} {sp dp x : Int32} (hd : decode (mC M) pc = .ok (.invokestatic idx, 3)) (hlk : Cond.methodLink (mY M).cls idx arraycopyName ∈ UU) (hnat : Cond.native arraycopyName ∈ UU) (hst : Cond.static arraycopyName ∈ UU) (hini : Cond.initialized "java/lang/System" ∈ UU) (ha : h.2 a = some (.inl (.int, n0, f))) (hb : h.2 b = some (.inl (.int, n1, g))) (h1 : ¬ sp < 0) (h2 : ¬ dp < 0) (h3 : ¬ x < 0) (h4 : sp.toNatClampNeg + x.toNatClampNeg ≤ n0) (h5 : dp.toNatClampNeg + x.toNatClampNeg ≤ n1) (hf : ∀ i, ∃ y : Int32, f i = .int y) (hd1 : 1 ≤ d) (hr : (st.map fun v => v.category).sum ≤ 8)
    (kk : PW M d n (pc + 3) ls st (upH h b (.inl (.int, n1, va_cpy f g sp.toNatClampNeg dp.toNatClampNeg x.toNatClampNeg))) Q) : PW M d n pc ls (.int x :: .int dp :: .ref b :: .int sp :: .ref a :: st) h Q := by
  have nn : ∀ z : Int32, ¬ z < 0 → z.toInt = (z.toNatClampNeg : Int) := by
    intro z hz
    have hz0 : (0 : Int) ≤ z.toInt := by
      have := Int32.not_lt.mp hz
      simpa using Int32.le_iff_toInt_le.mp this
    show z.toInt = ((z.toInt.toNat : Nat) : Int)
    omega
  intro p l e_ R s m args below meth c G N H locs cells slots lsA C9 hc hs9 hR hS hw
  obtain ⟨⟨k1, k2, k3, k4, k5, k6⟩, t1, t2, t3, t4, t5, t6, ⟨r1, r2, r3, r4⟩, t8, t9⟩ := id C9
  intro T hT X
  have hc0 : H[ad G a]? = some (arrV (G.2.1 .int) n0 (fun j => cv G (f j))) := hR.at ha
  have hc1 : H[ad G b]? = some (arrV (G.2.1 .int) n1 (fun j => cv G (g j))) := hR.at hb
  obtain ⟨-, k0, hk0, cm0, hkk0⟩ := (t4.2 0 _ rfl).1 n0 (fun j => cv G (f j))
  obtain ⟨vm', X', step⟩ := X.arraycopy k1 k5 (t1 _ hlk) (t1 _ hnat) (t1 _ hst) (t1 _ hini) (src := ad G a) (dst := ad G b) (cs := arrV (G.2.1 .int) n0 (fun j => cv G (f j))) (cd := arrV (G.2.1 .int) n1 (fun j => cv G (g j))) (srcPos := sp) (destPos := dp) (n := x) (by rw [hT]; exact hc0) (by rw [hT]; exact hc1)
    (fun _ h => by cases h) (fun _ h => by cases h) (fun h => by cases h) (fun h => by cases h) hk0 hk0 hkk0 hkk0 (by simp [refKind]) h1 h2 h3
    (by rw [nn sp h1, nn x h3, arrV_size]; omega)
    (by rw [nn dp h2, nn x h3, arrV_size]; omega)
    (fun vm₁ _ i hi => by
      have e : (arrV (G.2.1 .int) n0 (fun j => cv G (f j))).slots.getD (sp.toNatClampNeg + i) .null = cv G (f (sp.toNatClampNeg + i)) := by
        rw [Array.getD_eq_getD_getElem?, arrV_read _ _ (by omega)]
        rfl
      obtain ⟨y, hy⟩ := hf (sp.toNatClampNeg + i)
      rw [hy] at e
      refine ⟨?_, ?_⟩
      · rw [e]
        rfl
      · rw [e]
        exact trivial)
    (g := F0 m pc lsA ((Value.int x :: .int dp :: .ref b :: .int sp :: .ref a :: st).map (cv G))) rfl (by rw [k3]; exact hw.1) (rest := st.map (cv G)) rfl (by rw [k2]; exact hd) (by omega) (by rw [cats]; show 2 * 0 + _ + (7 + 11) ≤ _; omega)
  have e1 : copied (arrV (G.2.1 .int) n0 (fun j => cv G (f j))) (arrV (G.2.1 .int) n1 (fun j => cv G (g j))) sp dp x = arrV (G.2.1 .int) n1 (fun j => cv G (va_cpy f g sp.toNatClampNeg dp.toNatClampNeg x.toNatClampNeg j)) := va_copied (cv G) _ _ f g h4
  rw [e1] at X' step
  have hl : ad G b < H.size := (Array.getElem?_eq_some_iff.mp hc1).1
  generalize hY : arrV (G.2.1 .int) n1 (fun j => cv G (va_cpy f g sp.toNatClampNeg dp.toNatClampNeg x.toNatClampNeg j)) = Y at X' step
  have hheap : ((T.setVm vm').setCell (ad G b) Y).heap = H.setIfInBounds (ad G b) Y := by rw [← hT]; rfl
  have oq : ∀ q : Nat, q ≠ ad G b → (H.setIfInBounds (ad G b) Y)[q]? = H[q]? := fun q hq => by simp [Array.getElem?_setIfInBounds, Ne.symm hq]
  obtain ⟨t, a1, b1⟩ := kk p l e_ R s m args below meth c G N _ _ cells slots lsA C9 hc hs9 (hR.put hb (by simp) oq (by
      show (H.setIfInBounds (ad G b) Y)[ad G b]? = some (arrV _ _ _)
      rw [← hY]
      simp [Array.getElem?_setIfInBounds, hl])) ⟨by simp; exact hS.1, fun q g1 g2 => by
      rw [oq q (fun e => g2 (by rw [e]; exact hR.fr hb))]
      exact hS.2.1 q g1 g2, fun q hq => by
      rcases List.mem_append.mp hq with h | h
      · exact hS.2.2 q h
      · obtain ⟨z, -, hz⟩ := List.mem_map.mp h
        rw [← hz]
        exact hR.fr hb⟩ hw _ hheap X'
  exact ⟨t, step t a1, b1⟩
end THR
theorem clX0 : Cls 0 RX0 TX0 1 tyX0 := by
  refine ⟨rfl, fun w hw => ?_, tyX0_ok, nmX0⟩
  obtain ⟨k, hk, rfl⟩ := List.mem_map.mp hw
  rw [List.mem_range] at hk
  match k, hk with
  | 0, _ => exact UU_in 220 (by decide +kernel) rfl
  | k + 1, h => exact absurd h (by omega)
theorem clX1 : Cls 1 RX1 TX1 3 tyX1 := by
  refine ⟨rfl, fun w hw => ?_, tyX1_ok, nmX1⟩
  obtain ⟨k, hk, rfl⟩ := List.mem_map.mp hw
  rw [List.mem_range] at hk
  match k, hk with
  | 0, _ => exact UU_in 263 (by decide +kernel) rfl
  | 1, _ => exact UU_in 265 (by decide +kernel) rfl
  | 2, _ => exact UU_in 267 (by decide +kernel) rfl
  | k + 3, h => exact absurd h (by omega)
theorem clX2 : Cls 2 RX2 TX2 4 tyX2 := by
  refine ⟨rfl, fun w hw => ?_, tyX2_ok, nmX2⟩
  obtain ⟨k, hk, rfl⟩ := List.mem_map.mp hw
  rw [List.mem_range] at hk
  match k, hk with
  | 0, _ => exact UU_in 91 (by decide +kernel) rfl
  | 1, _ => exact UU_in 93 (by decide +kernel) rfl
  | 2, _ => exact UU_in 95 (by decide +kernel) rfl
  | 3, _ => exact UU_in 97 (by decide +kernel) rfl
  | k + 4, h => exact absurd h (by omega)
theorem clX3 : Cls 3 RX3 TX3 9 tyX3 := by
  refine ⟨rfl, fun w hw => ?_, tyX3_ok, nmX3⟩
  obtain ⟨k, hk, rfl⟩ := List.mem_map.mp hw
  rw [List.mem_range] at hk
  match k, hk with
  | 0, _ => exact UU_in 131 (by decide +kernel) rfl
  | 1, _ => exact UU_in 133 (by decide +kernel) rfl
  | 2, _ => exact UU_in 135 (by decide +kernel) rfl
  | 3, _ => exact UU_in 137 (by decide +kernel) rfl
  | 4, _ => exact UU_in 139 (by decide +kernel) rfl
  | 5, _ => exact UU_in 141 (by decide +kernel) rfl
  | 6, _ => exact UU_in 143 (by decide +kernel) rfl
  | 7, _ => exact UU_in 145 (by decide +kernel) rfl
  | 8, _ => exact UU_in 147 (by decide +kernel) rfl
  | k + 9, h => exact absurd h (by omega)
theorem clX4 : Cls 4 RX4 TX4 7 tyX4 := by
  refine ⟨rfl, fun w hw => ?_, tyX4_ok, nmX4⟩
  obtain ⟨k, hk, rfl⟩ := List.mem_map.mp hw
  rw [List.mem_range] at hk
  match k, hk with
  | 0, _ => exact UU_in 172 (by decide +kernel) rfl
  | 1, _ => exact UU_in 174 (by decide +kernel) rfl
  | 2, _ => exact UU_in 176 (by decide +kernel) rfl
  | 3, _ => exact UU_in 178 (by decide +kernel) rfl
  | 4, _ => exact UU_in 180 (by decide +kernel) rfl
  | 5, _ => exact UU_in 182 (by decide +kernel) rfl
  | 6, _ => exact UU_in 184 (by decide +kernel) rfl
  | k + 7, h => exact absurd h (by omega)
theorem clX5 : Cls 5 RX5 TX5 4 tyX5 := by
  refine ⟨rfl, fun w hw => ?_, tyX5_ok, nmX5⟩
  obtain ⟨k, hk, rfl⟩ := List.mem_map.mp hw
  rw [List.mem_range] at hk
  match k, hk with
  | 0, _ => exact UU_in 203 (by decide +kernel) rfl
  | 1, _ => exact UU_in 205 (by decide +kernel) rfl
  | 2, _ => exact UU_in 207 (by decide +kernel) rfl
  | 3, _ => exact UU_in 209 (by decide +kernel) rfl
  | k + 4, h => exact absurd h (by omega)
theorem clX6 : Cls 6 RX6 TX6 5 tyX6 := by
  refine ⟨rfl, fun w hw => ?_, tyX6_ok, nmX6⟩
  obtain ⟨k, hk, rfl⟩ := List.mem_map.mp hw
  rw [List.mem_range] at hk
  match k, hk with
  | 0, _ => exact UU_in 238 (by decide +kernel) rfl
  | 1, _ => exact UU_in 240 (by decide +kernel) rfl
  | 2, _ => exact UU_in 242 (by decide +kernel) rfl
  | 3, _ => exact UU_in 244 (by decide +kernel) rfl
  | 4, _ => exact UU_in 246 (by decide +kernel) rfl
  | k + 5, h => exact absurd h (by omega)
theorem clX7 : Cls 7 RX7 TX7 7 tyX7 := by
  refine ⟨rfl, fun w hw => ?_, tyX7_ok, nmX7⟩
  obtain ⟨k, hk, rfl⟩ := List.mem_map.mp hw
  rw [List.mem_range] at hk
  match k, hk with
  | 0, _ => exact UU_in 277 (by decide +kernel) rfl
  | 1, _ => exact UU_in 279 (by decide +kernel) rfl
  | 2, _ => exact UU_in 281 (by decide +kernel) rfl
  | 3, _ => exact UU_in 283 (by decide +kernel) rfl
  | 4, _ => exact UU_in 285 (by decide +kernel) rfl
  | 5, _ => exact UU_in 287 (by decide +kernel) rfl
  | 6, _ => exact UU_in 289 (by decide +kernel) rfl
  | k + 7, h => exact absurd h (by omega)
theorem clX8 : Cls 8 RX8 TX8 22 tyX8 := by
  refine ⟨rfl, fun w hw => ?_, tyX8_ok, nmX8⟩
  obtain ⟨k, hk, rfl⟩ := List.mem_map.mp hw
  rw [List.mem_range] at hk
  match k, hk with
  | 0, _ => exact UU_in 923 (by decide +kernel) rfl
  | 1, _ => exact UU_in 925 (by decide +kernel) rfl
  | 2, _ => exact UU_in 927 (by decide +kernel) rfl
  | 3, _ => exact UU_in 929 (by decide +kernel) rfl
  | 4, _ => exact UU_in 931 (by decide +kernel) rfl
  | 5, _ => exact UU_in 933 (by decide +kernel) rfl
  | 6, _ => exact UU_in 935 (by decide +kernel) rfl
  | 7, _ => exact UU_in 937 (by decide +kernel) rfl
  | 8, _ => exact UU_in 939 (by decide +kernel) rfl
  | 9, _ => exact UU_in 941 (by decide +kernel) rfl
  | 10, _ => exact UU_in 943 (by decide +kernel) rfl
  | 11, _ => exact UU_in 945 (by decide +kernel) rfl
  | 12, _ => exact UU_in 947 (by decide +kernel) rfl
  | 13, _ => exact UU_in 949 (by decide +kernel) rfl
  | 14, _ => exact UU_in 951 (by decide +kernel) rfl
  | 15, _ => exact UU_in 953 (by decide +kernel) rfl
  | 16, _ => exact UU_in 955 (by decide +kernel) rfl
  | 17, _ => exact UU_in 957 (by decide +kernel) rfl
  | 18, _ => exact UU_in 959 (by decide +kernel) rfl
  | 19, _ => exact UU_in 961 (by decide +kernel) rfl
  | 20, _ => exact UU_in 963 (by decide +kernel) rfl
  | 21, _ => exact UU_in 965 (by decide +kernel) rfl
  | k + 22, h => exact absurd h (by omega)
end
section
abbrev MX0_init : Mth := (yX0_init, cX0_init, 1, none, [], 0, 0, fun _ => 0)
set_option maxRecDepth 100000 in
theorem okX0_init : MOK MX0_init 0 := ⟨rfl, UU_in 216 rfl rfl, UU_in 46 (by decide +kernel) rfl, ⟨by decide +kernel, by decide +kernel, by decide +kernel⟩, by decide⟩
theorem imX0_init : Cond.instanceMethod yX0_init ∈ UU := UU_in 215 (by decide +kernel) rfl
abbrev MX0_nextOf : Mth := (yX0_nextOf, cX0_nextOf, 4, (some .int), [], 0, 0, fun _ => 0)
set_option maxRecDepth 100000 in
theorem okX0_nextOf : MOK MX0_nextOf 2 := ⟨rfl, UU_in 322 rfl rfl, UU_in 46 (by decide +kernel) rfl, ⟨by decide +kernel, by decide +kernel, by decide +kernel⟩, by decide⟩
theorem stX0_nextOf : Cond.static yX0_nextOf ∈ UU := UU_in 321 (by decide +kernel) rfl
abbrev MX0_search : Mth := (yX0_search, cX0_search, 8, (some .int), [], 0, 0, fun _ => 0)
set_option maxRecDepth 100000 in
theorem okX0_search : MOK MX0_search 2 := ⟨rfl, UU_in 821 rfl rfl, UU_in 46 (by decide +kernel) rfl, ⟨by decide +kernel, by decide +kernel, by decide +kernel⟩, by decide⟩
theorem imX0_search : Cond.instanceMethod yX0_search ∈ UU := UU_in 819 (by decide +kernel) rfl
theorem seX0_search : Cond.selects yX0_search.cls yX0_search yX0_search ∈ UU := UU_in 820 (by decide +kernel) rfl
abbrev MX0_fillTable : Mth := (yX0_fillTable, cX0_fillTable, 4, none, [], 0, 0, fun _ => 0)
set_option maxRecDepth 100000 in
theorem okX0_fillTable : MOK MX0_fillTable 1 := ⟨rfl, UU_in 319 rfl rfl, UU_in 46 (by decide +kernel) rfl, ⟨by decide +kernel, by decide +kernel, by decide +kernel⟩, by decide⟩
theorem imX0_fillTable : Cond.instanceMethod yX0_fillTable ∈ UU := UU_in 317 (by decide +kernel) rfl
theorem seX0_fillTable : Cond.selects yX0_fillTable.cls yX0_fillTable yX0_fillTable ∈ UU := UU_in 318 (by decide +kernel) rfl
abbrev MX1_init : Mth := (yX1_init, cX1_init, 2, none, [], 0, 0, fun _ => 0)
set_option maxRecDepth 100000 in
theorem okX1_init : MOK MX1_init 0 := ⟨rfl, UU_in 254 rfl rfl, UU_in 48 (by decide +kernel) rfl, ⟨by decide +kernel, by decide +kernel, by decide +kernel⟩, by decide⟩
theorem imX1_init : Cond.instanceMethod yX1_init ∈ UU := UU_in 253 (by decide +kernel) rfl
abbrev MX1_keep : Mth := (yX1_keep, cX1_keep, 2, none, [], 0, 0, fun _ => 0)
set_option maxRecDepth 100000 in
theorem okX1_keep : MOK MX1_keep 1 := ⟨rfl, UU_in 524 rfl rfl, UU_in 48 (by decide +kernel) rfl, ⟨by decide +kernel, by decide +kernel, by decide +kernel⟩, by decide⟩
theorem imX1_keep : Cond.instanceMethod yX1_keep ∈ UU := UU_in 522 (by decide +kernel) rfl
theorem seX1_keep : Cond.selects yX1_keep.cls yX1_keep yX1_keep ∈ UU := UU_in 523 (by decide +kernel) rfl
abbrev MX1_takeBack : Mth := (yX1_takeBack, cX1_takeBack, 2, none, [], 0, 0, fun _ => 0)
set_option maxRecDepth 100000 in
theorem okX1_takeBack : MOK MX1_takeBack 1 := ⟨rfl, UU_in 874 rfl rfl, UU_in 48 (by decide +kernel) rfl, ⟨by decide +kernel, by decide +kernel, by decide +kernel⟩, by decide⟩
theorem imX1_takeBack : Cond.instanceMethod yX1_takeBack ∈ UU := UU_in 872 (by decide +kernel) rfl
theorem seX1_takeBack : Cond.selects yX1_takeBack.cls yX1_takeBack yX1_takeBack ∈ UU := UU_in 873 (by decide +kernel) rfl
abbrev MX2_init : Mth := (yX2_init, cX2_init, 1, none, [], 0, 0, fun _ => 0)
set_option maxRecDepth 100000 in
theorem okX2_init : MOK MX2_init 0 := ⟨rfl, UU_in 82 rfl rfl, UU_in 43 (by decide +kernel) rfl, ⟨by decide +kernel, by decide +kernel, by decide +kernel⟩, by decide⟩
theorem imX2_init : Cond.instanceMethod yX2_init ∈ UU := UU_in 81 (by decide +kernel) rfl
abbrev MX2_copyFrom : Mth := (yX2_copyFrom, cX2_copyFrom, 2, none, [], 0, 0, fun _ => 0)
set_option maxRecDepth 100000 in
theorem okX2_copyFrom : MOK MX2_copyFrom 1 := ⟨rfl, UU_in 539 rfl rfl, UU_in 43 (by decide +kernel) rfl, ⟨by decide +kernel, by decide +kernel, by decide +kernel⟩, by decide⟩
theorem imX2_copyFrom : Cond.instanceMethod yX2_copyFrom ∈ UU := UU_in 537 (by decide +kernel) rfl
theorem seX2_copyFrom : Cond.selects yX2_copyFrom.cls yX2_copyFrom yX2_copyFrom ∈ UU := UU_in 538 (by decide +kernel) rfl
abbrev MX2_placeOf : Mth := (yX2_placeOf, cX2_placeOf, 2, (some .int), [], 0, 0, fun _ => 0)
set_option maxRecDepth 100000 in
theorem okX2_placeOf : MOK MX2_placeOf 1 := ⟨rfl, UU_in 605 rfl rfl, UU_in 43 (by decide +kernel) rfl, ⟨by decide +kernel, by decide +kernel, by decide +kernel⟩, by decide⟩
theorem imX2_placeOf : Cond.instanceMethod yX2_placeOf ∈ UU := UU_in 603 (by decide +kernel) rfl
theorem seX2_placeOf : Cond.selects yX2_placeOf.cls yX2_placeOf yX2_placeOf ∈ UU := UU_in 604 (by decide +kernel) rfl
abbrev MX2_note : Mth := (yX2_note, cX2_note, 3, none, [], 0, 0, fun _ => 0)
set_option maxRecDepth 100000 in
theorem okX2_note : MOK MX2_note 2 := ⟨rfl, UU_in 612 rfl rfl, UU_in 43 (by decide +kernel) rfl, ⟨by decide +kernel, by decide +kernel, by decide +kernel⟩, by decide⟩
theorem imX2_note : Cond.instanceMethod yX2_note ∈ UU := UU_in 610 (by decide +kernel) rfl
theorem seX2_note : Cond.selects yX2_note.cls yX2_note yX2_note ∈ UU := UU_in 611 (by decide +kernel) rfl
abbrev MX2_forget : Mth := (yX2_forget, cX2_forget, 7, none, [], 0, 0, fun _ => 0)
set_option maxRecDepth 100000 in
theorem okX2_forget : MOK MX2_forget 1 := ⟨rfl, UU_in 601 rfl rfl, UU_in 43 (by decide +kernel) rfl, ⟨by decide +kernel, by decide +kernel, by decide +kernel⟩, by decide⟩
theorem imX2_forget : Cond.instanceMethod yX2_forget ∈ UU := UU_in 599 (by decide +kernel) rfl
theorem seX2_forget : Cond.selects yX2_forget.cls yX2_forget yX2_forget ∈ UU := UU_in 600 (by decide +kernel) rfl
abbrev MX3_init : Mth := (yX3_init, cX3_init, 1, none, [], 0, 0, fun _ => 0)
set_option maxRecDepth 100000 in
theorem okX3_init : MOK MX3_init 0 := ⟨rfl, UU_in 105 rfl rfl, UU_in 44 (by decide +kernel) rfl, ⟨by decide +kernel, by decide +kernel, by decide +kernel⟩, by decide⟩
theorem imX3_init : Cond.instanceMethod yX3_init ∈ UU := UU_in 104 (by decide +kernel) rfl
abbrev MX3_start : Mth := (yX3_start, cX3_start, 4, none, [], 0, 0, fun _ => 0)
set_option maxRecDepth 100000 in
theorem okX3_start : MOK MX3_start 3 := ⟨rfl, UU_in 547 rfl rfl, UU_in 44 (by decide +kernel) rfl, ⟨by decide +kernel, by decide +kernel, by decide +kernel⟩, by decide⟩
theorem imX3_start : Cond.instanceMethod yX3_start ∈ UU := UU_in 545 (by decide +kernel) rfl
theorem seX3_start : Cond.selects yX3_start.cls yX3_start yX3_start ∈ UU := UU_in 546 (by decide +kernel) rfl
abbrev MX3_copyFrom : Mth := (yX3_copyFrom, cX3_copyFrom, 2, none, [], 0, 0, fun _ => 0)
set_option maxRecDepth 100000 in
theorem okX3_copyFrom : MOK MX3_copyFrom 1 := ⟨rfl, UU_in 535 rfl rfl, UU_in 44 (by decide +kernel) rfl, ⟨by decide +kernel, by decide +kernel, by decide +kernel⟩, by decide⟩
theorem imX3_copyFrom : Cond.instanceMethod yX3_copyFrom ∈ UU := UU_in 533 (by decide +kernel) rfl
theorem seX3_copyFrom : Cond.selects yX3_copyFrom.cls yX3_copyFrom yX3_copyFrom ∈ UU := UU_in 534 (by decide +kernel) rfl
abbrev MX3_setsOff : Mth := (yX3_setsOff, cX3_setsOff, 2, (some .boolean), [], 0, 0, fun _ => 0)
set_option maxRecDepth 100000 in
theorem okX3_setsOff : MOK MX3_setsOff 1 := ⟨rfl, UU_in 326 rfl rfl, UU_in 44 (by decide +kernel) rfl, ⟨by decide +kernel, by decide +kernel, by decide +kernel⟩, by decide⟩
theorem imX3_setsOff : Cond.instanceMethod yX3_setsOff ∈ UU := UU_in 324 (by decide +kernel) rfl
theorem seX3_setsOff : Cond.selects yX3_setsOff.cls yX3_setsOff yX3_setsOff ∈ UU := UU_in 325 (by decide +kernel) rfl
abbrev MX4_init : Mth := (yX4_init, cX4_init, 2, none, [], 0, 0, fun _ => 0)
set_option maxRecDepth 100000 in
theorem okX4_init : MOK MX4_init 0 := ⟨rfl, UU_in 74 rfl rfl, UU_in 42 (by decide +kernel) rfl, ⟨by decide +kernel, by decide +kernel, by decide +kernel⟩, by decide⟩
theorem imX4_init : Cond.instanceMethod yX4_init ∈ UU := UU_in 73 (by decide +kernel) rfl
abbrev MX4_copyFrom : Mth := (yX4_copyFrom, cX4_copyFrom, 3, none, [], 0, 0, fun _ => 0)
set_option maxRecDepth 100000 in
theorem okX4_copyFrom : MOK MX4_copyFrom 1 := ⟨rfl, UU_in 528 rfl rfl, UU_in 42 (by decide +kernel) rfl, ⟨by decide +kernel, by decide +kernel, by decide +kernel⟩, by decide⟩
theorem imX4_copyFrom : Cond.instanceMethod yX4_copyFrom ∈ UU := UU_in 526 (by decide +kernel) rfl
theorem seX4_copyFrom : Cond.selects yX4_copyFrom.cls yX4_copyFrom yX4_copyFrom ∈ UU := UU_in 527 (by decide +kernel) rfl
abbrev MX4_isThere : Mth := (yX4_isThere, cX4_isThere, 2, (some .boolean), [], 0, 0, fun _ => 0)
set_option maxRecDepth 100000 in
theorem okX4_isThere : MOK MX4_isThere 1 := ⟨rfl, UU_in 677 rfl rfl, UU_in 42 (by decide +kernel) rfl, ⟨by decide +kernel, by decide +kernel, by decide +kernel⟩, by decide⟩
theorem imX4_isThere : Cond.instanceMethod yX4_isThere ∈ UU := UU_in 675 (by decide +kernel) rfl
theorem seX4_isThere : Cond.selects yX4_isThere.cls yX4_isThere yX4_isThere ∈ UU := UU_in 676 (by decide +kernel) rfl
abbrev MX4_rowsThere : Mth := (yX4_rowsThere, cX4_rowsThere, 3, (some .int), [], 0, 0, fun _ => 0)
set_option maxRecDepth 100000 in
theorem okX4_rowsThere : MOK MX4_rowsThere 0 := ⟨rfl, UU_in 299 rfl rfl, UU_in 42 (by decide +kernel) rfl, ⟨by decide +kernel, by decide +kernel, by decide +kernel⟩, by decide⟩
theorem imX4_rowsThere : Cond.instanceMethod yX4_rowsThere ∈ UU := UU_in 297 (by decide +kernel) rfl
theorem seX4_rowsThere : Cond.selects yX4_rowsThere.cls yX4_rowsThere yX4_rowsThere ∈ UU := UU_in 298 (by decide +kernel) rfl
abbrev MX4_takeRuleAway : Mth := (yX4_takeRuleAway, cX4_takeRuleAway, 3, none, [], 0, 0, fun _ => 0)
set_option maxRecDepth 100000 in
theorem okX4_takeRuleAway : MOK MX4_takeRuleAway 1 := ⟨rfl, UU_in 597 rfl rfl, UU_in 42 (by decide +kernel) rfl, ⟨by decide +kernel, by decide +kernel, by decide +kernel⟩, by decide⟩
theorem imX4_takeRuleAway : Cond.instanceMethod yX4_takeRuleAway ∈ UU := UU_in 595 (by decide +kernel) rfl
theorem seX4_takeRuleAway : Cond.selects yX4_takeRuleAway.cls yX4_takeRuleAway yX4_takeRuleAway ∈ UU := UU_in 596 (by decide +kernel) rfl
abbrev MX5_init : Mth := (yX5_init, cX5_init, 1, none, [], 0, 0, fun _ => 0)
set_option maxRecDepth 100000 in
theorem okX5_init : MOK MX5_init 0 := ⟨rfl, UU_in 191 rfl rfl, UU_in 45 (by decide +kernel) rfl, ⟨by decide +kernel, by decide +kernel, by decide +kernel⟩, by decide⟩
theorem imX5_init : Cond.instanceMethod yX5_init ∈ UU := UU_in 190 (by decide +kernel) rfl
abbrev MX5_begin : Mth := (yX5_begin, cX5_begin, 2, none, [], 0, 0, fun _ => 0)
set_option maxRecDepth 100000 in
theorem okX5_begin : MOK MX5_begin 1 := ⟨rfl, UU_in 644 rfl rfl, UU_in 45 (by decide +kernel) rfl, ⟨by decide +kernel, by decide +kernel, by decide +kernel⟩, by decide⟩
theorem imX5_begin : Cond.instanceMethod yX5_begin ∈ UU := UU_in 643 (by decide +kernel) rfl
theorem seX5_begin : Cond.selects yX5_begin.cls yX5_begin yX5_begin ∈ UU := UU_in 4 (by decide +kernel) rfl
abbrev MX5_putIn : Mth := (yX5_putIn, cX5_putIn, 6, none, [], 0, 0, fun _ => 0)
set_option maxRecDepth 100000 in
theorem okX5_putIn : MOK MX5_putIn 5 := ⟨rfl, UU_in 640 rfl rfl, UU_in 45 (by decide +kernel) rfl, ⟨by decide +kernel, by decide +kernel, by decide +kernel⟩, by decide⟩
theorem imX5_putIn : Cond.instanceMethod yX5_putIn ∈ UU := UU_in 638 (by decide +kernel) rfl
theorem seX5_putIn : Cond.selects yX5_putIn.cls yX5_putIn yX5_putIn ∈ UU := UU_in 639 (by decide +kernel) rfl
abbrev MX5_change : Mth := (yX5_change, cX5_change, 5, none, [], 0, 0, fun _ => 0)
set_option maxRecDepth 100000 in
theorem okX5_change : MOK MX5_change 4 := ⟨rfl, UU_in 704 rfl rfl, UU_in 45 (by decide +kernel) rfl, ⟨by decide +kernel, by decide +kernel, by decide +kernel⟩, by decide⟩
theorem imX5_change : Cond.instanceMethod yX5_change ∈ UU := UU_in 702 (by decide +kernel) rfl
theorem seX5_change : Cond.selects yX5_change.cls yX5_change yX5_change ∈ UU := UU_in 703 (by decide +kernel) rfl
abbrev MX5_takeOut : Mth := (yX5_takeOut, cX5_takeOut, 3, none, [], 0, 0, fun _ => 0)
set_option maxRecDepth 100000 in
theorem okX5_takeOut : MOK MX5_takeOut 2 := ⟨rfl, UU_in 716 rfl rfl, UU_in 45 (by decide +kernel) rfl, ⟨by decide +kernel, by decide +kernel, by decide +kernel⟩, by decide⟩
theorem imX5_takeOut : Cond.instanceMethod yX5_takeOut ∈ UU := UU_in 714 (by decide +kernel) rfl
theorem seX5_takeOut : Cond.selects yX5_takeOut.cls yX5_takeOut yX5_takeOut ∈ UU := UU_in 715 (by decide +kernel) rfl
abbrev MX5_happen : Mth := (yX5_happen, cX5_happen, 8, none, [], 0, 0, fun _ => 0)
set_option maxRecDepth 100000 in
theorem okX5_happen : MOK MX5_happen 5 := ⟨rfl, UU_in 653 rfl rfl, UU_in 45 (by decide +kernel) rfl, ⟨by decide +kernel, by decide +kernel, by decide +kernel⟩, by decide⟩
theorem imX5_happen : Cond.instanceMethod yX5_happen ∈ UU := UU_in 652 (by decide +kernel) rfl
theorem seX5_happen : Cond.selects yX5_happen.cls yX5_happen yX5_happen ∈ UU := UU_in 5 (by decide +kernel) rfl
abbrev MX5_act : Mth := (yX5_act, cX5_act, 6, none, [], 0, 0, fun _ => 0)
set_option maxRecDepth 100000 in
theorem okX5_act : MOK MX5_act 2 := ⟨rfl, UU_in 672 rfl rfl, UU_in 45 (by decide +kernel) rfl, ⟨by decide +kernel, by decide +kernel, by decide +kernel⟩, by decide⟩
theorem imX5_act : Cond.instanceMethod yX5_act ∈ UU := UU_in 671 (by decide +kernel) rfl
theorem seX5_act : Cond.selects yX5_act.cls yX5_act yX5_act ∈ UU := UU_in 9 (by decide +kernel) rfl
abbrev MX5_alterTable : Mth := (yX5_alterTable, cX5_alterTable, 5, none, [], 0, 0, fun _ => 0)
set_option maxRecDepth 100000 in
theorem okX5_alterTable : MOK MX5_alterTable 4 := ⟨rfl, UU_in 665 rfl rfl, UU_in 45 (by decide +kernel) rfl, ⟨by decide +kernel, by decide +kernel, by decide +kernel⟩, by decide⟩
theorem imX5_alterTable : Cond.instanceMethod yX5_alterTable ∈ UU := UU_in 664 (by decide +kernel) rfl
theorem seX5_alterTable : Cond.selects yX5_alterTable.cls yX5_alterTable yX5_alterTable ∈ UU := UU_in 8 (by decide +kernel) rfl
abbrev MX5_matchingRules : Mth := (yX5_matchingRules, cX5_matchingRules, 9, (some .int), [], 0, 0, fun _ => 0)
set_option maxRecDepth 100000 in
theorem okX5_matchingRules : MOK MX5_matchingRules 4 := ⟨rfl, UU_in 657 rfl rfl, UU_in 45 (by decide +kernel) rfl, ⟨by decide +kernel, by decide +kernel, by decide +kernel⟩, by decide⟩
theorem imX5_matchingRules : Cond.instanceMethod yX5_matchingRules ∈ UU := UU_in 656 (by decide +kernel) rfl
theorem seX5_matchingRules : Cond.selects yX5_matchingRules.cls yX5_matchingRules yX5_matchingRules ∈ UU := UU_in 6 (by decide +kernel) rfl
abbrev MX5_hasRefusing : Mth := (yX5_hasRefusing, cX5_hasRefusing, 3, (some .boolean), [], 0, 0, fun _ => 0)
set_option maxRecDepth 100000 in
theorem okX5_hasRefusing : MOK MX5_hasRefusing 1 := ⟨rfl, UU_in 661 rfl rfl, UU_in 45 (by decide +kernel) rfl, ⟨by decide +kernel, by decide +kernel, by decide +kernel⟩, by decide⟩
theorem imX5_hasRefusing : Cond.instanceMethod yX5_hasRefusing ∈ UU := UU_in 660 (by decide +kernel) rfl
theorem seX5_hasRefusing : Cond.selects yX5_hasRefusing.cls yX5_hasRefusing yX5_hasRefusing ∈ UU := UU_in 7 (by decide +kernel) rfl
abbrev MX6_init : Mth := (yX6_init, cX6_init, 1, none, [], 0, 0, fun _ => 0)
set_option maxRecDepth 100000 in
theorem okX6_init : MOK MX6_init 0 := ⟨rfl, UU_in 227 rfl rfl, UU_in 47 (by decide +kernel) rfl, ⟨by decide +kernel, by decide +kernel, by decide +kernel⟩, by decide⟩
theorem imX6_init : Cond.instanceMethod yX6_init ∈ UU := UU_in 226 (by decide +kernel) rfl
abbrev MX6_append : Mth := (yX6_append, cX6_append, 2, none, [], 0, 0, fun _ => 0)
set_option maxRecDepth 100000 in
theorem okX6_append : MOK MX6_append 1 := ⟨rfl, UU_in 848 rfl rfl, UU_in 47 (by decide +kernel) rfl, ⟨by decide +kernel, by decide +kernel, by decide +kernel⟩, by decide⟩
theorem imX6_append : Cond.instanceMethod yX6_append ∈ UU := UU_in 846 (by decide +kernel) rfl
theorem seX6_append : Cond.selects yX6_append.cls yX6_append yX6_append ∈ UU := UU_in 847 (by decide +kernel) rfl
abbrev MX6_firstError : Mth := (yX6_firstError, cX6_firstError, 2, (some .int), [], 0, 0, fun _ => 0)
set_option maxRecDepth 100000 in
theorem okX6_firstError : MOK MX6_firstError 0 := ⟨rfl, UU_in 342 rfl rfl, UU_in 47 (by decide +kernel) rfl, ⟨by decide +kernel, by decide +kernel, by decide +kernel⟩, by decide⟩
theorem imX6_firstError : Cond.instanceMethod yX6_firstError ∈ UU := UU_in 340 (by decide +kernel) rfl
theorem seX6_firstError : Cond.selects yX6_firstError.cls yX6_firstError yX6_firstError ∈ UU := UU_in 341 (by decide +kernel) rfl
abbrev MX6_readCommand : Mth := (yX6_readCommand, cX6_readCommand, 6, (some .boolean), [], 0, 0, fun _ => 0)
set_option maxRecDepth 100000 in
theorem okX6_readCommand : MOK MX6_readCommand 0 := ⟨rfl, UU_in 346 rfl rfl, UU_in 47 (by decide +kernel) rfl, ⟨by decide +kernel, by decide +kernel, by decide +kernel⟩, by decide⟩
theorem imX6_readCommand : Cond.instanceMethod yX6_readCommand ∈ UU := UU_in 344 (by decide +kernel) rfl
theorem seX6_readCommand : Cond.selects yX6_readCommand.cls yX6_readCommand yX6_readCommand ∈ UU := UU_in 345 (by decide +kernel) rfl
abbrev MX6_formOf : Mth := (yX6_formOf, cX6_formOf, 1, (some (.object "java/lang/String")), [], 0, 0, fun _ => 0)
set_option maxRecDepth 100000 in
theorem okX6_formOf : MOK MX6_formOf 1 := ⟨rfl, UU_in 349 rfl rfl, UU_in 47 (by decide +kernel) rfl, ⟨by decide +kernel, by decide +kernel, by decide +kernel⟩, by decide⟩
theorem stX6_formOf : Cond.static yX6_formOf ∈ UU := UU_in 348 (by decide +kernel) rfl
abbrev MX6_readSign : Mth := (yX6_readSign, cX6_readSign, 2, (some .boolean), [], 0, 0, fun _ => 0)
set_option maxRecDepth 100000 in
theorem okX6_readSign : MOK MX6_readSign 1 := ⟨rfl, UU_in 417 rfl rfl, UU_in 47 (by decide +kernel) rfl, ⟨by decide +kernel, by decide +kernel, by decide +kernel⟩, by decide⟩
theorem imX6_readSign : Cond.instanceMethod yX6_readSign ∈ UU := UU_in 415 (by decide +kernel) rfl
theorem seX6_readSign : Cond.selects yX6_readSign.cls yX6_readSign yX6_readSign ∈ UU := UU_in 416 (by decide +kernel) rfl
abbrev MX6_readNumber : Mth := (yX6_readNumber, cX6_readNumber, 5, (some .int), [], 0, 0, fun _ => 0)
set_option maxRecDepth 100000 in
theorem okX6_readNumber : MOK MX6_readNumber 1 := ⟨rfl, UU_in 409 rfl rfl, UU_in 47 (by decide +kernel) rfl, ⟨by decide +kernel, by decide +kernel, by decide +kernel⟩, by decide⟩
theorem imX6_readNumber : Cond.instanceMethod yX6_readNumber ∈ UU := UU_in 408 (by decide +kernel) rfl
theorem seX6_readNumber : Cond.selects yX6_readNumber.cls yX6_readNumber yX6_readNumber ∈ UU := UU_in 0 (by decide +kernel) rfl
abbrev MX6_isDigitNext : Mth := (yX6_isDigitNext, cX6_isDigitNext, 1, (some .boolean), [], 0, 0, fun _ => 0)
set_option maxRecDepth 100000 in
theorem okX6_isDigitNext : MOK MX6_isDigitNext 0 := ⟨rfl, UU_in 413 rfl rfl, UU_in 47 (by decide +kernel) rfl, ⟨by decide +kernel, by decide +kernel, by decide +kernel⟩, by decide⟩
theorem imX6_isDigitNext : Cond.instanceMethod yX6_isDigitNext ∈ UU := UU_in 412 (by decide +kernel) rfl
theorem seX6_isDigitNext : Cond.selects yX6_isDigitNext.cls yX6_isDigitNext yX6_isDigitNext ∈ UU := UU_in 1 (by decide +kernel) rfl
abbrev MX7_init : Mth := (yX7_init, cX7_init, 2, none, [], 0, 0, fun _ => 0)
set_option maxRecDepth 100000 in
theorem okX7_init : MOK MX7_init 0 := ⟨rfl, UU_in 66 rfl rfl, UU_in 41 (by decide +kernel) rfl, ⟨by decide +kernel, by decide +kernel, by decide +kernel⟩, by decide⟩
theorem imX7_init : Cond.instanceMethod yX7_init ∈ UU := UU_in 65 (by decide +kernel) rfl
abbrev MX7_addRule : Mth := (yX7_addRule, cX7_addRule, 5, (some .int), [], 1, 0, fun _ => 0)
set_option maxRecDepth 100000 in
theorem okX7_addRule : MOK MX7_addRule 3 := ⟨rfl, UU_in 431 rfl rfl, UU_in 41 (by decide +kernel) rfl, ⟨by decide +kernel, by decide +kernel, by decide +kernel⟩, by decide⟩
theorem imX7_addRule : Cond.instanceMethod yX7_addRule ∈ UU := UU_in 429 (by decide +kernel) rfl
theorem seX7_addRule : Cond.selects yX7_addRule.cls yX7_addRule yX7_addRule ∈ UU := UU_in 430 (by decide +kernel) rfl
abbrev MX7_setAction : Mth := (yX7_setAction, cX7_setAction, 8, (some .int), [], 1, 0, fun _ => 0)
set_option maxRecDepth 100000 in
theorem okX7_setAction : MOK MX7_setAction 5 := ⟨rfl, UU_in 555 rfl rfl, UU_in 41 (by decide +kernel) rfl, ⟨by decide +kernel, by decide +kernel, by decide +kernel⟩, by decide⟩
theorem imX7_setAction : Cond.instanceMethod yX7_setAction ∈ UU := UU_in 553 (by decide +kernel) rfl
theorem seX7_setAction : Cond.selects yX7_setAction.cls yX7_setAction yX7_setAction ∈ UU := UU_in 554 (by decide +kernel) rfl
abbrev MX7_turnMute : Mth := (yX7_turnMute, cX7_turnMute, 3, (some .boolean), [], 1, 0, fun _ => 0)
set_option maxRecDepth 100000 in
theorem okX7_turnMute : MOK MX7_turnMute 1 := ⟨rfl, UU_in 586 rfl rfl, UU_in 41 (by decide +kernel) rfl, ⟨by decide +kernel, by decide +kernel, by decide +kernel⟩, by decide⟩
theorem imX7_turnMute : Cond.instanceMethod yX7_turnMute ∈ UU := UU_in 584 (by decide +kernel) rfl
theorem seX7_turnMute : Cond.selects yX7_turnMute.cls yX7_turnMute yX7_turnMute ∈ UU := UU_in 585 (by decide +kernel) rfl
abbrev MX7_dropRule : Mth := (yX7_dropRule, cX7_dropRule, 3, (some .int), [], 1, 0, fun _ => 0)
set_option maxRecDepth 100000 in
theorem okX7_dropRule : MOK MX7_dropRule 1 := ⟨rfl, UU_in 593 rfl rfl, UU_in 41 (by decide +kernel) rfl, ⟨by decide +kernel, by decide +kernel, by decide +kernel⟩, by decide⟩
theorem imX7_dropRule : Cond.instanceMethod yX7_dropRule ∈ UU := UU_in 591 (by decide +kernel) rfl
theorem seX7_dropRule : Cond.selects yX7_dropRule.cls yX7_dropRule yX7_dropRule ∈ UU := UU_in 592 (by decide +kernel) rfl
abbrev MX7_setDepth : Mth := (yX7_setDepth, cX7_setDepth, 3, (some .int), [], 1, 0, fun _ => 0)
set_option maxRecDepth 100000 in
theorem okX7_setDepth : MOK MX7_setDepth 1 := ⟨rfl, UU_in 620 rfl rfl, UU_in 41 (by decide +kernel) rfl, ⟨by decide +kernel, by decide +kernel, by decide +kernel⟩, by decide⟩
theorem imX7_setDepth : Cond.instanceMethod yX7_setDepth ∈ UU := UU_in 618 (by decide +kernel) rfl
theorem seX7_setDepth : Cond.selects yX7_setDepth.cls yX7_setDepth yX7_setDepth ∈ UU := UU_in 619 (by decide +kernel) rfl
abbrev MX7_insert : Mth := (yX7_insert, cX7_insert, 5, (some .int), [], 1, 0, fun _ => 0)
set_option maxRecDepth 100000 in
theorem okX7_insert : MOK MX7_insert 4 := ⟨rfl, UU_in 628 rfl rfl, UU_in 41 (by decide +kernel) rfl, ⟨by decide +kernel, by decide +kernel, by decide +kernel⟩, by decide⟩
theorem imX7_insert : Cond.instanceMethod yX7_insert ∈ UU := UU_in 626 (by decide +kernel) rfl
theorem seX7_insert : Cond.selects yX7_insert.cls yX7_insert yX7_insert ∈ UU := UU_in 627 (by decide +kernel) rfl
abbrev MX7_update : Mth := (yX7_update, cX7_update, 4, (some .int), [], 1, 0, fun _ => 0)
set_option maxRecDepth 100000 in
theorem okX7_update : MOK MX7_update 3 := ⟨rfl, UU_in 692 rfl rfl, UU_in 41 (by decide +kernel) rfl, ⟨by decide +kernel, by decide +kernel, by decide +kernel⟩, by decide⟩
theorem imX7_update : Cond.instanceMethod yX7_update ∈ UU := UU_in 690 (by decide +kernel) rfl
theorem seX7_update : Cond.selects yX7_update.cls yX7_update yX7_update ∈ UU := UU_in 691 (by decide +kernel) rfl
abbrev MX7_remove : Mth := (yX7_remove, cX7_remove, 2, (some .int), [], 1, 0, fun _ => 0)
set_option maxRecDepth 100000 in
theorem okX7_remove : MOK MX7_remove 1 := ⟨rfl, UU_in 712 rfl rfl, UU_in 41 (by decide +kernel) rfl, ⟨by decide +kernel, by decide +kernel, by decide +kernel⟩, by decide⟩
theorem imX7_remove : Cond.instanceMethod yX7_remove ∈ UU := UU_in 710 (by decide +kernel) rfl
theorem seX7_remove : Cond.selects yX7_remove.cls yX7_remove yX7_remove ∈ UU := UU_in 711 (by decide +kernel) rfl
abbrev MX7_whyNotUpdate : Mth := (yX7_whyNotUpdate, cX7_whyNotUpdate, 4, (some .int), [], 1, 0, fun _ => 0)
set_option maxRecDepth 100000 in
theorem okX7_whyNotUpdate : MOK MX7_whyNotUpdate 3 := ⟨rfl, UU_in 723 rfl rfl, UU_in 41 (by decide +kernel) rfl, ⟨by decide +kernel, by decide +kernel, by decide +kernel⟩, by decide⟩
theorem imX7_whyNotUpdate : Cond.instanceMethod yX7_whyNotUpdate ∈ UU := UU_in 721 (by decide +kernel) rfl
theorem seX7_whyNotUpdate : Cond.selects yX7_whyNotUpdate.cls yX7_whyNotUpdate yX7_whyNotUpdate ∈ UU := UU_in 722 (by decide +kernel) rfl
abbrev MX7_eventsOfUpdate : Mth := (yX7_eventsOfUpdate, cX7_eventsOfUpdate, 4, (some .int), [], 1, 0, fun _ => 0)
set_option maxRecDepth 100000 in
theorem okX7_eventsOfUpdate : MOK MX7_eventsOfUpdate 3 := ⟨rfl, UU_in 730 rfl rfl, UU_in 41 (by decide +kernel) rfl, ⟨by decide +kernel, by decide +kernel, by decide +kernel⟩, by decide⟩
theorem imX7_eventsOfUpdate : Cond.instanceMethod yX7_eventsOfUpdate ∈ UU := UU_in 728 (by decide +kernel) rfl
theorem seX7_eventsOfUpdate : Cond.selects yX7_eventsOfUpdate.cls yX7_eventsOfUpdate yX7_eventsOfUpdate ∈ UU := UU_in 729 (by decide +kernel) rfl
abbrev MX7_depthOfUpdate : Mth := (yX7_depthOfUpdate, cX7_depthOfUpdate, 4, (some .int), [], 1, 0, fun _ => 0)
set_option maxRecDepth 100000 in
theorem okX7_depthOfUpdate : MOK MX7_depthOfUpdate 3 := ⟨rfl, UU_in 737 rfl rfl, UU_in 41 (by decide +kernel) rfl, ⟨by decide +kernel, by decide +kernel, by decide +kernel⟩, by decide⟩
theorem imX7_depthOfUpdate : Cond.instanceMethod yX7_depthOfUpdate ∈ UU := UU_in 735 (by decide +kernel) rfl
theorem seX7_depthOfUpdate : Cond.selects yX7_depthOfUpdate.cls yX7_depthOfUpdate yX7_depthOfUpdate ∈ UU := UU_in 736 (by decide +kernel) rfl
abbrev MX7_tryUpdate : Mth := (yX7_tryUpdate, cX7_tryUpdate, 4, none, [], 1, 0, fun _ => 0)
set_option maxRecDepth 100000 in
theorem okX7_tryUpdate : MOK MX7_tryUpdate 3 := ⟨rfl, UU_in 696 rfl rfl, UU_in 41 (by decide +kernel) rfl, ⟨by decide +kernel, by decide +kernel, by decide +kernel⟩, by decide⟩
theorem imX7_tryUpdate : Cond.instanceMethod yX7_tryUpdate ∈ UU := UU_in 695 (by decide +kernel) rfl
theorem seX7_tryUpdate : Cond.selects yX7_tryUpdate.cls yX7_tryUpdate yX7_tryUpdate ∈ UU := UU_in 11 (by decide +kernel) rfl
abbrev MX7_finishStatement : Mth := (yX7_finishStatement, cX7_finishStatement, 1, (some .int), [], 1, 0, fun _ => 0)
set_option maxRecDepth 100000 in
theorem okX7_finishStatement : MOK MX7_finishStatement 0 := ⟨rfl, UU_in 683 rfl rfl, UU_in 41 (by decide +kernel) rfl, ⟨by decide +kernel, by decide +kernel, by decide +kernel⟩, by decide⟩
theorem imX7_finishStatement : Cond.instanceMethod yX7_finishStatement ∈ UU := UU_in 682 (by decide +kernel) rfl
theorem seX7_finishStatement : Cond.selects yX7_finishStatement.cls yX7_finishStatement yX7_finishStatement ∈ UU := UU_in 10 (by decide +kernel) rfl
abbrev MX7_hasRow : Mth := (yX7_hasRow, cX7_hasRow, 2, (some .boolean), [], 1, 0, fun _ => 0)
set_option maxRecDepth 100000 in
theorem okX7_hasRow : MOK MX7_hasRow 1 := ⟨rfl, UU_in 744 rfl rfl, UU_in 41 (by decide +kernel) rfl, ⟨by decide +kernel, by decide +kernel, by decide +kernel⟩, by decide⟩
theorem imX7_hasRow : Cond.instanceMethod yX7_hasRow ∈ UU := UU_in 742 (by decide +kernel) rfl
theorem seX7_hasRow : Cond.selects yX7_hasRow.cls yX7_hasRow yX7_hasRow ∈ UU := UU_in 743 (by decide +kernel) rfl
abbrev MX7_rowCount : Mth := (yX7_rowCount, cX7_rowCount, 1, (some .int), [], 0, 0, fun _ => 0)
set_option maxRecDepth 100000 in
theorem okX7_rowCount : MOK MX7_rowCount 0 := ⟨rfl, UU_in 295 rfl rfl, UU_in 41 (by decide +kernel) rfl, ⟨by decide +kernel, by decide +kernel, by decide +kernel⟩, by decide⟩
theorem imX7_rowCount : Cond.instanceMethod yX7_rowCount ∈ UU := UU_in 293 (by decide +kernel) rfl
theorem seX7_rowCount : Cond.selects yX7_rowCount.cls yX7_rowCount yX7_rowCount ∈ UU := UU_in 294 (by decide +kernel) rfl
abbrev MX7_valueAt : Mth := (yX7_valueAt, cX7_valueAt, 3, (some .int), [], 1, 0, fun _ => 0)
set_option maxRecDepth 100000 in
theorem okX7_valueAt : MOK MX7_valueAt 2 := ⟨rfl, UU_in 752 rfl rfl, UU_in 41 (by decide +kernel) rfl, ⟨by decide +kernel, by decide +kernel, by decide +kernel⟩, by decide⟩
theorem imX7_valueAt : Cond.instanceMethod yX7_valueAt ∈ UU := UU_in 750 (by decide +kernel) rfl
theorem seX7_valueAt : Cond.selects yX7_valueAt.cls yX7_valueAt yX7_valueAt ∈ UU := UU_in 751 (by decide +kernel) rfl
abbrev MX7_sumOf : Mth := (yX7_sumOf, cX7_sumOf, 4, (some .int), [], 1, 0, fun _ => 0)
set_option maxRecDepth 100000 in
theorem okX7_sumOf : MOK MX7_sumOf 1 := ⟨rfl, UU_in 761 rfl rfl, UU_in 41 (by decide +kernel) rfl, ⟨by decide +kernel, by decide +kernel, by decide +kernel⟩, by decide⟩
theorem imX7_sumOf : Cond.instanceMethod yX7_sumOf ∈ UU := UU_in 759 (by decide +kernel) rfl
theorem seX7_sumOf : Cond.selects yX7_sumOf.cls yX7_sumOf yX7_sumOf ∈ UU := UU_in 760 (by decide +kernel) rfl
abbrev MX7_ruleCount : Mth := (yX7_ruleCount, cX7_ruleCount, 1, (some .int), [], 0, 0, fun _ => 0)
set_option maxRecDepth 100000 in
theorem okX7_ruleCount : MOK MX7_ruleCount 0 := ⟨rfl, UU_in 303 rfl rfl, UU_in 41 (by decide +kernel) rfl, ⟨by decide +kernel, by decide +kernel, by decide +kernel⟩, by decide⟩
theorem imX7_ruleCount : Cond.instanceMethod yX7_ruleCount ∈ UU := UU_in 301 (by decide +kernel) rfl
theorem seX7_ruleCount : Cond.selects yX7_ruleCount.cls yX7_ruleCount yX7_ruleCount ∈ UU := UU_in 302 (by decide +kernel) rfl
abbrev MX7_actionOf : Mth := (yX7_actionOf, cX7_actionOf, 2, (some .int), [], 1, 0, fun _ => 0)
set_option maxRecDepth 100000 in
theorem okX7_actionOf : MOK MX7_actionOf 1 := ⟨rfl, UU_in 768 rfl rfl, UU_in 41 (by decide +kernel) rfl, ⟨by decide +kernel, by decide +kernel, by decide +kernel⟩, by decide⟩
theorem imX7_actionOf : Cond.instanceMethod yX7_actionOf ∈ UU := UU_in 766 (by decide +kernel) rfl
theorem seX7_actionOf : Cond.selects yX7_actionOf.cls yX7_actionOf yX7_actionOf ∈ UU := UU_in 767 (by decide +kernel) rfl
abbrev MX7_isMuted : Mth := (yX7_isMuted, cX7_isMuted, 2, (some .boolean), [], 1, 0, fun _ => 0)
set_option maxRecDepth 100000 in
theorem okX7_isMuted : MOK MX7_isMuted 1 := ⟨rfl, UU_in 775 rfl rfl, UU_in 41 (by decide +kernel) rfl, ⟨by decide +kernel, by decide +kernel, by decide +kernel⟩, by decide⟩
theorem imX7_isMuted : Cond.instanceMethod yX7_isMuted ∈ UU := UU_in 773 (by decide +kernel) rfl
theorem seX7_isMuted : Cond.selects yX7_isMuted.cls yX7_isMuted yX7_isMuted ∈ UU := UU_in 774 (by decide +kernel) rfl
abbrev MX7_actsOf : Mth := (yX7_actsOf, cX7_actsOf, 2, (some .int), [], 1, 0, fun _ => 0)
set_option maxRecDepth 100000 in
theorem okX7_actsOf : MOK MX7_actsOf 1 := ⟨rfl, UU_in 782 rfl rfl, UU_in 41 (by decide +kernel) rfl, ⟨by decide +kernel, by decide +kernel, by decide +kernel⟩, by decide⟩
theorem imX7_actsOf : Cond.instanceMethod yX7_actsOf ∈ UU := UU_in 780 (by decide +kernel) rfl
theorem seX7_actsOf : Cond.selects yX7_actsOf.cls yX7_actsOf yX7_actsOf ∈ UU := UU_in 781 (by decide +kernel) rfl
abbrev MX7_eventCount : Mth := (yX7_eventCount, cX7_eventCount, 1, (some .int), [], 0, 0, fun _ => 0)
set_option maxRecDepth 100000 in
theorem okX7_eventCount : MOK MX7_eventCount 0 := ⟨rfl, UU_in 307 rfl rfl, UU_in 41 (by decide +kernel) rfl, ⟨by decide +kernel, by decide +kernel, by decide +kernel⟩, by decide⟩
theorem imX7_eventCount : Cond.instanceMethod yX7_eventCount ∈ UU := UU_in 305 (by decide +kernel) rfl
theorem seX7_eventCount : Cond.selects yX7_eventCount.cls yX7_eventCount yX7_eventCount ∈ UU := UU_in 306 (by decide +kernel) rfl
abbrev MX7_logSize : Mth := (yX7_logSize, cX7_logSize, 1, (some .int), [], 0, 0, fun _ => 0)
set_option maxRecDepth 100000 in
theorem okX7_logSize : MOK MX7_logSize 0 := ⟨rfl, UU_in 311 rfl rfl, UU_in 41 (by decide +kernel) rfl, ⟨by decide +kernel, by decide +kernel, by decide +kernel⟩, by decide⟩
theorem imX7_logSize : Cond.instanceMethod yX7_logSize ∈ UU := UU_in 309 (by decide +kernel) rfl
theorem seX7_logSize : Cond.selects yX7_logSize.cls yX7_logSize yX7_logSize ∈ UU := UU_in 310 (by decide +kernel) rfl
abbrev MX7_loggedRule : Mth := (yX7_loggedRule, cX7_loggedRule, 2, (some .int), [], 1, 0, fun _ => 0)
set_option maxRecDepth 100000 in
theorem okX7_loggedRule : MOK MX7_loggedRule 1 := ⟨rfl, UU_in 789 rfl rfl, UU_in 41 (by decide +kernel) rfl, ⟨by decide +kernel, by decide +kernel, by decide +kernel⟩, by decide⟩
theorem imX7_loggedRule : Cond.instanceMethod yX7_loggedRule ∈ UU := UU_in 787 (by decide +kernel) rfl
theorem seX7_loggedRule : Cond.selects yX7_loggedRule.cls yX7_loggedRule yX7_loggedRule ∈ UU := UU_in 788 (by decide +kernel) rfl
abbrev MX7_loggedDepth : Mth := (yX7_loggedDepth, cX7_loggedDepth, 2, (some .int), [], 1, 0, fun _ => 0)
set_option maxRecDepth 100000 in
theorem okX7_loggedDepth : MOK MX7_loggedDepth 1 := ⟨rfl, UU_in 802 rfl rfl, UU_in 41 (by decide +kernel) rfl, ⟨by decide +kernel, by decide +kernel, by decide +kernel⟩, by decide⟩
theorem imX7_loggedDepth : Cond.instanceMethod yX7_loggedDepth ∈ UU := UU_in 800 (by decide +kernel) rfl
theorem seX7_loggedDepth : Cond.selects yX7_loggedDepth.cls yX7_loggedDepth yX7_loggedDepth ∈ UU := UU_in 801 (by decide +kernel) rfl
abbrev MX7_canSetOff : Mth := (yX7_canSetOff, cX7_canSetOff, 3, (some .boolean), [], 1, 0, fun _ => 0)
set_option maxRecDepth 100000 in
theorem okX7_canSetOff : MOK MX7_canSetOff 2 := ⟨rfl, UU_in 809 rfl rfl, UU_in 41 (by decide +kernel) rfl, ⟨by decide +kernel, by decide +kernel, by decide +kernel⟩, by decide⟩
theorem imX7_canSetOff : Cond.instanceMethod yX7_canSetOff ∈ UU := UU_in 807 (by decide +kernel) rfl
theorem seX7_canSetOff : Cond.selects yX7_canSetOff.cls yX7_canSetOff yX7_canSetOff ∈ UU := UU_in 808 (by decide +kernel) rfl
abbrev MX7_reachOf : Mth := (yX7_reachOf, cX7_reachOf, 2, (some .int), [], 1, 0, fun _ => 0)
set_option maxRecDepth 100000 in
theorem okX7_reachOf : MOK MX7_reachOf 1 := ⟨rfl, UU_in 817 rfl rfl, UU_in 41 (by decide +kernel) rfl, ⟨by decide +kernel, by decide +kernel, by decide +kernel⟩, by decide⟩
theorem imX7_reachOf : Cond.instanceMethod yX7_reachOf ∈ UU := UU_in 815 (by decide +kernel) rfl
theorem seX7_reachOf : Cond.selects yX7_reachOf.cls yX7_reachOf yX7_reachOf ∈ UU := UU_in 816 (by decide +kernel) rfl
abbrev MX7_reachByTable : Mth := (yX7_reachByTable, cX7_reachByTable, 2, (some .int), [], 1, 0, fun _ => 0)
set_option maxRecDepth 100000 in
theorem okX7_reachByTable : MOK MX7_reachByTable 1 := ⟨rfl, UU_in 828 rfl rfl, UU_in 41 (by decide +kernel) rfl, ⟨by decide +kernel, by decide +kernel, by decide +kernel⟩, by decide⟩
theorem imX7_reachByTable : Cond.instanceMethod yX7_reachByTable ∈ UU := UU_in 826 (by decide +kernel) rfl
theorem seX7_reachByTable : Cond.selects yX7_reachByTable.cls yX7_reachByTable yX7_reachByTable ∈ UU := UU_in 827 (by decide +kernel) rfl
abbrev MX7_circularRules : Mth := (yX7_circularRules, cX7_circularRules, 3, (some .int), [], 0, 0, fun _ => 0)
set_option maxRecDepth 100000 in
theorem okX7_circularRules : MOK MX7_circularRules 0 := ⟨rfl, UU_in 315 rfl rfl, UU_in 41 (by decide +kernel) rfl, ⟨by decide +kernel, by decide +kernel, by decide +kernel⟩, by decide⟩
theorem imX7_circularRules : Cond.instanceMethod yX7_circularRules ∈ UU := UU_in 313 (by decide +kernel) rfl
theorem seX7_circularRules : Cond.selects yX7_circularRules.cls yX7_circularRules yX7_circularRules ∈ UU := UU_in 314 (by decide +kernel) rfl
abbrev MX7_appendText : Mth := (yX7_appendText, cX7_appendText, 5, (some .int), [], 1, 0, fun _ => 0)
set_option maxRecDepth 100000 in
theorem okX7_appendText : MOK MX7_appendText 1 := ⟨rfl, UU_in 835 rfl rfl, UU_in 41 (by decide +kernel) rfl, ⟨by decide +kernel, by decide +kernel, by decide +kernel⟩, by decide⟩
theorem imX7_appendText : Cond.instanceMethod yX7_appendText ∈ UU := UU_in 833 (by decide +kernel) rfl
theorem seX7_appendText : Cond.selects yX7_appendText.cls yX7_appendText yX7_appendText ∈ UU := UU_in 834 (by decide +kernel) rfl
abbrev MX7_clearText : Mth := (yX7_clearText, cX7_clearText, 2, (some .int), [], 0, 0, fun _ => 0)
set_option maxRecDepth 100000 in
theorem okX7_clearText : MOK MX7_clearText 0 := ⟨rfl, UU_in 330 rfl rfl, UU_in 41 (by decide +kernel) rfl, ⟨by decide +kernel, by decide +kernel, by decide +kernel⟩, by decide⟩
theorem imX7_clearText : Cond.instanceMethod yX7_clearText ∈ UU := UU_in 328 (by decide +kernel) rfl
theorem seX7_clearText : Cond.selects yX7_clearText.cls yX7_clearText yX7_clearText ∈ UU := UU_in 329 (by decide +kernel) rfl
abbrev MX7_textLength : Mth := (yX7_textLength, cX7_textLength, 1, (some .int), [], 0, 0, fun _ => 0)
set_option maxRecDepth 100000 in
theorem okX7_textLength : MOK MX7_textLength 0 := ⟨rfl, UU_in 334 rfl rfl, UU_in 41 (by decide +kernel) rfl, ⟨by decide +kernel, by decide +kernel, by decide +kernel⟩, by decide⟩
theorem imX7_textLength : Cond.instanceMethod yX7_textLength ∈ UU := UU_in 332 (by decide +kernel) rfl
theorem seX7_textLength : Cond.selects yX7_textLength.cls yX7_textLength yX7_textLength ∈ UU := UU_in 333 (by decide +kernel) rfl
abbrev MX7_textError : Mth := (yX7_textError, cX7_textError, 1, (some .int), [], 0, 0, fun _ => 0)
set_option maxRecDepth 100000 in
theorem okX7_textError : MOK MX7_textError 0 := ⟨rfl, UU_in 338 rfl rfl, UU_in 41 (by decide +kernel) rfl, ⟨by decide +kernel, by decide +kernel, by decide +kernel⟩, by decide⟩
theorem imX7_textError : Cond.instanceMethod yX7_textError ∈ UU := UU_in 336 (by decide +kernel) rfl
theorem seX7_textError : Cond.selects yX7_textError.cls yX7_textError yX7_textError ∈ UU := UU_in 337 (by decide +kernel) rfl
abbrev MX7_runText : Mth := (yX7_runText, cX7_runText, 2, (some .int), [], 1, 0, fun _ => 0)
set_option maxRecDepth 100000 in
theorem okX7_runText : MOK MX7_runText 0 := ⟨rfl, UU_in 855 rfl rfl, UU_in 41 (by decide +kernel) rfl, ⟨by decide +kernel, by decide +kernel, by decide +kernel⟩, by decide⟩
theorem imX7_runText : Cond.instanceMethod yX7_runText ∈ UU := UU_in 853 (by decide +kernel) rfl
theorem seX7_runText : Cond.selects yX7_runText.cls yX7_runText yX7_runText ∈ UU := UU_in 854 (by decide +kernel) rfl
abbrev MX7_execute : Mth := (yX7_execute, cX7_execute, 2, (some .boolean), [], 0, 0, fun _ => 0)
set_option maxRecDepth 100000 in
theorem okX7_execute : MOK MX7_execute 0 := ⟨rfl, UU_in 861 rfl rfl, UU_in 41 (by decide +kernel) rfl, ⟨by decide +kernel, by decide +kernel, by decide +kernel⟩, by decide⟩
theorem imX7_execute : Cond.instanceMethod yX7_execute ∈ UU := UU_in 860 (by decide +kernel) rfl
theorem seX7_execute : Cond.selects yX7_execute.cls yX7_execute yX7_execute ∈ UU := UU_in 13 (by decide +kernel) rfl
abbrev MX7_codeOf : Mth := (yX7_codeOf, cX7_codeOf, 3, (some .int), [], 0, 0, fun _ => 0)
set_option maxRecDepth 100000 in
theorem okX7_codeOf : MOK MX7_codeOf 2 := ⟨rfl, UU_in 841 rfl rfl, UU_in 41 (by decide +kernel) rfl, ⟨by decide +kernel, by decide +kernel, by decide +kernel⟩, by decide⟩
theorem stX7_codeOf : Cond.static yX7_codeOf ∈ UU := UU_in 840 (by decide +kernel) rfl
abbrev MX7_charactersIn : Mth := (yX7_charactersIn, cX7_charactersIn, 4, (some .int), [], 0, 0, fun _ => 0)
set_option maxRecDepth 100000 in
theorem okX7_charactersIn : MOK MX7_charactersIn 1 := ⟨rfl, UU_in 838 rfl rfl, UU_in 41 (by decide +kernel) rfl, ⟨by decide +kernel, by decide +kernel, by decide +kernel⟩, by decide⟩
theorem stX7_charactersIn : Cond.static yX7_charactersIn ∈ UU := UU_in 837 (by decide +kernel) rfl
abbrev MX7_undo : Mth := (yX7_undo, cX7_undo, 1, (some .int), [], 1, 0, fun _ => 0)
set_option maxRecDepth 100000 in
theorem okX7_undo : MOK MX7_undo 0 := ⟨rfl, UU_in 869 rfl rfl, UU_in 41 (by decide +kernel) rfl, ⟨by decide +kernel, by decide +kernel, by decide +kernel⟩, by decide⟩
theorem imX7_undo : Cond.instanceMethod yX7_undo ∈ UU := UU_in 867 (by decide +kernel) rfl
theorem seX7_undo : Cond.selects yX7_undo.cls yX7_undo yX7_undo ∈ UU := UU_in 868 (by decide +kernel) rfl
abbrev MX7_undoCount : Mth := (yX7_undoCount, cX7_undoCount, 1, (some .int), [], 0, 0, fun _ => 0)
set_option maxRecDepth 100000 in
theorem okX7_undoCount : MOK MX7_undoCount 0 := ⟨rfl, UU_in 422 rfl rfl, UU_in 41 (by decide +kernel) rfl, ⟨by decide +kernel, by decide +kernel, by decide +kernel⟩, by decide⟩
theorem imX7_undoCount : Cond.instanceMethod yX7_undoCount ∈ UU := UU_in 420 (by decide +kernel) rfl
theorem seX7_undoCount : Cond.selects yX7_undoCount.cls yX7_undoCount yX7_undoCount ∈ UU := UU_in 421 (by decide +kernel) rfl
abbrev MX7_saveState : Mth := (yX7_saveState, cX7_saveState, 2, (some .int), [], 1, 0, fun _ => 0)
set_option maxRecDepth 100000 in
theorem okX7_saveState : MOK MX7_saveState 1 := ⟨rfl, UU_in 882 rfl rfl, UU_in 41 (by decide +kernel) rfl, ⟨by decide +kernel, by decide +kernel, by decide +kernel⟩, by decide⟩
theorem imX7_saveState : Cond.instanceMethod yX7_saveState ∈ UU := UU_in 880 (by decide +kernel) rfl
theorem seX7_saveState : Cond.selects yX7_saveState.cls yX7_saveState yX7_saveState ∈ UU := UU_in 881 (by decide +kernel) rfl
abbrev MX7_loadState : Mth := (yX7_loadState, cX7_loadState, 2, (some .int), [], 1, 0, fun _ => 0)
set_option maxRecDepth 100000 in
theorem okX7_loadState : MOK MX7_loadState 1 := ⟨rfl, UU_in 893 rfl rfl, UU_in 41 (by decide +kernel) rfl, ⟨by decide +kernel, by decide +kernel, by decide +kernel⟩, by decide⟩
theorem imX7_loadState : Cond.instanceMethod yX7_loadState ∈ UU := UU_in 891 (by decide +kernel) rfl
theorem seX7_loadState : Cond.selects yX7_loadState.cls yX7_loadState yX7_loadState ∈ UU := UU_in 892 (by decide +kernel) rfl
abbrev MX7_isRow : Mth := (yX7_isRow, cX7_isRow, 1, (some .boolean), [], 0, 0, fun _ => 0)
set_option maxRecDepth 100000 in
theorem okX7_isRow : MOK MX7_isRow 1 := ⟨rfl, UU_in 578 rfl rfl, UU_in 41 (by decide +kernel) rfl, ⟨by decide +kernel, by decide +kernel, by decide +kernel⟩, by decide⟩
theorem stX7_isRow : Cond.static yX7_isRow ∈ UU := UU_in 577 (by decide +kernel) rfl
abbrev MX7_isColumn : Mth := (yX7_isColumn, cX7_isColumn, 1, (some .boolean), [], 0, 0, fun _ => 0)
set_option maxRecDepth 100000 in
theorem okX7_isColumn : MOK MX7_isColumn 1 := ⟨rfl, UU_in 434 rfl rfl, UU_in 41 (by decide +kernel) rfl, ⟨by decide +kernel, by decide +kernel, by decide +kernel⟩, by decide⟩
theorem stX7_isColumn : Cond.static yX7_isColumn ∈ UU := UU_in 433 (by decide +kernel) rfl
abbrev MX7_isValue : Mth := (yX7_isValue, cX7_isValue, 1, (some .boolean), [], 0, 0, fun _ => 0)
set_option maxRecDepth 100000 in
theorem okX7_isValue : MOK MX7_isValue 1 := ⟨rfl, UU_in 437 rfl rfl, UU_in 41 (by decide +kernel) rfl, ⟨by decide +kernel, by decide +kernel, by decide +kernel⟩, by decide⟩
theorem stX7_isValue : Cond.static yX7_isValue ∈ UU := UU_in 436 (by decide +kernel) rfl
abbrev MX7_cell : Mth := (yX7_cell, cX7_cell, 2, (some .int), [], 0, 0, fun _ => 0)
set_option maxRecDepth 100000 in
theorem okX7_cell : MOK MX7_cell 2 := ⟨rfl, UU_in 649 rfl rfl, UU_in 41 (by decide +kernel) rfl, ⟨by decide +kernel, by decide +kernel, by decide +kernel⟩, by decide⟩
theorem stX7_cell : Cond.static yX7_cell ∈ UU := UU_in 648 (by decide +kernel) rfl
abbrev MX7_checkRow : Mth := (yX7_checkRow, cX7_checkRow, 1, none, [], 1, 0, fun _ => 0)
set_option maxRecDepth 100000 in
theorem okX7_checkRow : MOK MX7_checkRow 1 := ⟨rfl, UU_in 631 rfl rfl, UU_in 41 (by decide +kernel) rfl, ⟨by decide +kernel, by decide +kernel, by decide +kernel⟩, by decide⟩
theorem stX7_checkRow : Cond.static yX7_checkRow ∈ UU := UU_in 630 (by decide +kernel) rfl
abbrev MX7_checkColumn : Mth := (yX7_checkColumn, cX7_checkColumn, 1, none, [], 1, 0, fun _ => 0)
set_option maxRecDepth 100000 in
theorem okX7_checkColumn : MOK MX7_checkColumn 1 := ⟨rfl, UU_in 699 rfl rfl, UU_in 41 (by decide +kernel) rfl, ⟨by decide +kernel, by decide +kernel, by decide +kernel⟩, by decide⟩
theorem stX7_checkColumn : Cond.static yX7_checkColumn ∈ UU := UU_in 698 (by decide +kernel) rfl
abbrev MX7_checkValue : Mth := (yX7_checkValue, cX7_checkValue, 1, none, [], 1, 0, fun _ => 0)
set_option maxRecDepth 100000 in
theorem okX7_checkValue : MOK MX7_checkValue 1 := ⟨rfl, UU_in 635 rfl rfl, UU_in 41 (by decide +kernel) rfl, ⟨by decide +kernel, by decide +kernel, by decide +kernel⟩, by decide⟩
theorem stX7_checkValue : Cond.static yX7_checkValue ∈ UU := UU_in 634 (by decide +kernel) rfl
abbrev MX7_checkRule : Mth := (yX7_checkRule, cX7_checkRule, 2, none, [], 1, 0, fun _ => 0)
set_option maxRecDepth 100000 in
theorem okX7_checkRule : MOK MX7_checkRule 1 := ⟨rfl, UU_in 559 rfl rfl, UU_in 41 (by decide +kernel) rfl, ⟨by decide +kernel, by decide +kernel, by decide +kernel⟩, by decide⟩
theorem imX7_checkRule : Cond.instanceMethod yX7_checkRule ∈ UU := UU_in 558 (by decide +kernel) rfl
theorem seX7_checkRule : Cond.selects yX7_checkRule.cls yX7_checkRule yX7_checkRule ∈ UU := UU_in 3 (by decide +kernel) rfl
abbrev MX7_checkAgo : Mth := (yX7_checkAgo, cX7_checkAgo, 2, none, [], 1, 0, fun _ => 0)
set_option maxRecDepth 100000 in
theorem okX7_checkAgo : MOK MX7_checkAgo 1 := ⟨rfl, UU_in 793 rfl rfl, UU_in 41 (by decide +kernel) rfl, ⟨by decide +kernel, by decide +kernel, by decide +kernel⟩, by decide⟩
theorem imX7_checkAgo : Cond.instanceMethod yX7_checkAgo ∈ UU := UU_in 792 (by decide +kernel) rfl
theorem seX7_checkAgo : Cond.selects yX7_checkAgo.cls yX7_checkAgo yX7_checkAgo ∈ UU := UU_in 12 (by decide +kernel) rfl
abbrev MX7_checkSlot : Mth := (yX7_checkSlot, cX7_checkSlot, 1, none, [], 1, 0, fun _ => 0)
set_option maxRecDepth 100000 in
theorem okX7_checkSlot : MOK MX7_checkSlot 1 := ⟨rfl, UU_in 885 rfl rfl, UU_in 41 (by decide +kernel) rfl, ⟨by decide +kernel, by decide +kernel, by decide +kernel⟩, by decide⟩
theorem stX7_checkSlot : Cond.static yX7_checkSlot ∈ UU := UU_in 884 (by decide +kernel) rfl
abbrev MX8_init : Mth := (yX8_init, cX8_init, 1, none, [], 0, 0, fun _ => 0)
set_option maxRecDepth 100000 in
theorem okX8_init : MOK MX8_init 0 := ⟨rfl, UU_in 899 rfl rfl, UU_in 49 (by decide +kernel) rfl, ⟨by decide +kernel, by decide +kernel, by decide +kernel⟩, by decide⟩
theorem imX8_init : Cond.instanceMethod yX8_init ∈ UU := UU_in 898 (by decide +kernel) rfl
abbrev MX8_thrown : Mth := (yX8_thrown, cX8_thrown, 1, (some .int), [], 0, 0, fun _ => 0)
set_option maxRecDepth 100000 in
theorem okX8_thrown : MOK MX8_thrown 0 := ⟨rfl, UU_in 971 rfl rfl, UU_in 49 (by decide +kernel) rfl, ⟨by decide +kernel, by decide +kernel, by decide +kernel⟩, by decide⟩
theorem imX8_thrown : Cond.instanceMethod yX8_thrown ∈ UU := UU_in 969 (by decide +kernel) rfl
theorem seX8_thrown : Cond.selects yX8_thrown.cls yX8_thrown yX8_thrown ∈ UU := UU_in 970 (by decide +kernel) rfl
abbrev MX8_in : Mth := (yX8_in, cX8_in, 3, (some .boolean), [], 0, 0, fun _ => 0)
set_option maxRecDepth 100000 in
theorem okX8_in : MOK MX8_in 3 := ⟨rfl, UU_in 978 rfl rfl, UU_in 49 (by decide +kernel) rfl, ⟨by decide +kernel, by decide +kernel, by decide +kernel⟩, by decide⟩
theorem stX8_in : Cond.static yX8_in ∈ UU := UU_in 977 (by decide +kernel) rfl
abbrev MX8_holds : Mth := (yX8_holds, cX8_holds, 2, (some .boolean), [], 0, 0, fun _ => 0)
set_option maxRecDepth 100000 in
theorem okX8_holds : MOK MX8_holds 1 := ⟨rfl, UU_in 988 rfl rfl, UU_in 49 (by decide +kernel) rfl, ⟨by decide +kernel, by decide +kernel, by decide +kernel⟩, by decide⟩
theorem imX8_holds : Cond.instanceMethod yX8_holds ∈ UU := UU_in 987 (by decide +kernel) rfl
theorem seX8_holds : Cond.selects yX8_holds.cls yX8_holds yX8_holds ∈ UU := UU_in 14 (by decide +kernel) rfl
abbrev MX8_isRow : Mth := (yX8_isRow, cX8_isRow, 1, (some .boolean), [], 0, 0, fun _ => 0)
set_option maxRecDepth 100000 in
theorem okX8_isRow : MOK MX8_isRow 1 := ⟨rfl, UU_in 1011 rfl rfl, UU_in 49 (by decide +kernel) rfl, ⟨by decide +kernel, by decide +kernel, by decide +kernel⟩, by decide⟩
theorem stX8_isRow : Cond.static yX8_isRow ∈ UU := UU_in 1010 (by decide +kernel) rfl
abbrev MX8_isColumn : Mth := (yX8_isColumn, cX8_isColumn, 1, (some .boolean), [], 0, 0, fun _ => 0)
set_option maxRecDepth 100000 in
theorem okX8_isColumn : MOK MX8_isColumn 1 := ⟨rfl, UU_in 981 rfl rfl, UU_in 49 (by decide +kernel) rfl, ⟨by decide +kernel, by decide +kernel, by decide +kernel⟩, by decide⟩
theorem stX8_isColumn : Cond.static yX8_isColumn ∈ UU := UU_in 980 (by decide +kernel) rfl
abbrev MX8_isValue : Mth := (yX8_isValue, cX8_isValue, 1, (some .boolean), [], 0, 0, fun _ => 0)
set_option maxRecDepth 100000 in
theorem okX8_isValue : MOK MX8_isValue 1 := ⟨rfl, UU_in 984 rfl rfl, UU_in 49 (by decide +kernel) rfl, ⟨by decide +kernel, by decide +kernel, by decide +kernel⟩, by decide⟩
theorem stX8_isValue : Cond.static yX8_isValue ∈ UU := UU_in 983 (by decide +kernel) rfl
abbrev MX8_isRule : Mth := (yX8_isRule, cX8_isRule, 2, (some .boolean), [], 0, 0, fun _ => 0)
set_option maxRecDepth 100000 in
theorem okX8_isRule : MOK MX8_isRule 1 := ⟨rfl, UU_in 1008 rfl rfl, UU_in 49 (by decide +kernel) rfl, ⟨by decide +kernel, by decide +kernel, by decide +kernel⟩, by decide⟩
theorem imX8_isRule : Cond.instanceMethod yX8_isRule ∈ UU := UU_in 1007 (by decide +kernel) rfl
theorem seX8_isRule : Cond.selects yX8_isRule.cls yX8_isRule yX8_isRule ∈ UU := UU_in 18 (by decide +kernel) rfl
abbrev MX8_of : Mth := (yX8_of, cX8_of, 2, (some .int), [], 0, 0, fun _ => 0)
set_option maxRecDepth 100000 in
theorem okX8_of : MOK MX8_of 2 := ⟨rfl, UU_in 1038 rfl rfl, UU_in 49 (by decide +kernel) rfl, ⟨by decide +kernel, by decide +kernel, by decide +kernel⟩, by decide⟩
theorem stX8_of : Cond.static yX8_of ∈ UU := UU_in 1037 (by decide +kernel) rfl
abbrev MX8_at : Mth := (yX8_at, cX8_at, 3, (some .int), [], 0, 0, fun _ => 0)
set_option maxRecDepth 100000 in
theorem okX8_at : MOK MX8_at 2 := ⟨rfl, UU_in 1023 rfl rfl, UU_in 49 (by decide +kernel) rfl, ⟨by decide +kernel, by decide +kernel, by decide +kernel⟩, by decide⟩
theorem imX8_at : Cond.instanceMethod yX8_at ∈ UU := UU_in 1022 (by decide +kernel) rfl
theorem seX8_at : Cond.selects yX8_at.cls yX8_at yX8_at ∈ UU := UU_in 19 (by decide +kernel) rfl
abbrev MX8_recordAside : Mth := (yX8_recordAside, cX8_recordAside, 2, none, [], 0, 0, fun _ => 0)
set_option maxRecDepth 100000 in
theorem okX8_recordAside : MOK MX8_recordAside 0 := ⟨rfl, UU_in 1000 rfl rfl, UU_in 49 (by decide +kernel) rfl, ⟨by decide +kernel, by decide +kernel, by decide +kernel⟩, by decide⟩
theorem imX8_recordAside : Cond.instanceMethod yX8_recordAside ∈ UU := UU_in 999 (by decide +kernel) rfl
theorem seX8_recordAside : Cond.selects yX8_recordAside.cls yX8_recordAside yX8_recordAside ∈ UU := UU_in 17 (by decide +kernel) rfl
abbrev MX8_putAside : Mth := (yX8_putAside, cX8_putAside, 2, none, [], 0, 0, fun _ => 0)
set_option maxRecDepth 100000 in
theorem okX8_putAside : MOK MX8_putAside 0 := ⟨rfl, UU_in 996 rfl rfl, UU_in 49 (by decide +kernel) rfl, ⟨by decide +kernel, by decide +kernel, by decide +kernel⟩, by decide⟩
theorem imX8_putAside : Cond.instanceMethod yX8_putAside ∈ UU := UU_in 995 (by decide +kernel) rfl
theorem seX8_putAside : Cond.selects yX8_putAside.cls yX8_putAside yX8_putAside ∈ UU := UU_in 16 (by decide +kernel) rfl
abbrev MX8_putBack : Mth := (yX8_putBack, cX8_putBack, 2, none, [], 0, 0, fun _ => 0)
set_option maxRecDepth 100000 in
theorem okX8_putBack : MOK MX8_putBack 0 := ⟨rfl, UU_in 1066 rfl rfl, UU_in 49 (by decide +kernel) rfl, ⟨by decide +kernel, by decide +kernel, by decide +kernel⟩, by decide⟩
theorem imX8_putBack : Cond.instanceMethod yX8_putBack ∈ UU := UU_in 1065 (by decide +kernel) rfl
theorem seX8_putBack : Cond.selects yX8_putBack.cls yX8_putBack yX8_putBack ∈ UU := UU_in 27 (by decide +kernel) rfl
abbrev MX8_record : Mth := (yX8_record, cX8_record, 1, none, [], 0, 0, fun _ => 0)
set_option maxRecDepth 100000 in
theorem okX8_record : MOK MX8_record 0 := ⟨rfl, UU_in 992 rfl rfl, UU_in 49 (by decide +kernel) rfl, ⟨by decide +kernel, by decide +kernel, by decide +kernel⟩, by decide⟩
theorem imX8_record : Cond.instanceMethod yX8_record ∈ UU := UU_in 991 (by decide +kernel) rfl
theorem seX8_record : Cond.selects yX8_record.cls yX8_record yX8_record ∈ UU := UU_in 15 (by decide +kernel) rfl
abbrev MX8_rowsNow : Mth := (yX8_rowsNow, cX8_rowsNow, 3, (some .int), [], 0, 0, fun _ => 0)
set_option maxRecDepth 100000 in
theorem okX8_rowsNow : MOK MX8_rowsNow 0 := ⟨rfl, UU_in 1110 rfl rfl, UU_in 49 (by decide +kernel) rfl, ⟨by decide +kernel, by decide +kernel, by decide +kernel⟩, by decide⟩
theorem imX8_rowsNow : Cond.instanceMethod yX8_rowsNow ∈ UU := UU_in 1109 (by decide +kernel) rfl
theorem seX8_rowsNow : Cond.selects yX8_rowsNow.cls yX8_rowsNow yX8_rowsNow ∈ UU := UU_in 31 (by decide +kernel) rfl
abbrev MX8_matching : Mth := (yX8_matching, cX8_matching, 11, (some .int), [], 0, 0, fun _ => 0)
set_option maxRecDepth 100000 in
theorem okX8_matching : MOK MX8_matching 5 := ⟨rfl, UU_in 1050 rfl rfl, UU_in 49 (by decide +kernel) rfl, ⟨by decide +kernel, by decide +kernel, by decide +kernel⟩, by decide⟩
theorem imX8_matching : Cond.instanceMethod yX8_matching ∈ UU := UU_in 1049 (by decide +kernel) rfl
theorem seX8_matching : Cond.selects yX8_matching.cls yX8_matching yX8_matching ∈ UU := UU_in 23 (by decide +kernel) rfl
abbrev MX8_begins : Mth := (yX8_begins, cX8_begins, 6, (some .boolean), [], 0, 0, fun _ => 0)
set_option maxRecDepth 100000 in
theorem okX8_begins : MOK MX8_begins 5 := ⟨rfl, UU_in 1046 rfl rfl, UU_in 49 (by decide +kernel) rfl, ⟨by decide +kernel, by decide +kernel, by decide +kernel⟩, by decide⟩
theorem imX8_begins : Cond.instanceMethod yX8_begins ∈ UU := UU_in 1045 (by decide +kernel) rfl
theorem seX8_begins : Cond.selects yX8_begins.cls yX8_begins yX8_begins ∈ UU := UU_in 22 (by decide +kernel) rfl
abbrev MX8_logs : Mth := (yX8_logs, cX8_logs, 4, none, [], 0, 0, fun _ => 0)
set_option maxRecDepth 100000 in
theorem okX8_logs : MOK MX8_logs 1 := ⟨rfl, UU_in 1062 rfl rfl, UU_in 49 (by decide +kernel) rfl, ⟨by decide +kernel, by decide +kernel, by decide +kernel⟩, by decide⟩
theorem imX8_logs : Cond.instanceMethod yX8_logs ∈ UU := UU_in 1061 (by decide +kernel) rfl
theorem seX8_logs : Cond.selects yX8_logs.cls yX8_logs yX8_logs ∈ UU := UU_in 26 (by decide +kernel) rfl
abbrev MX8_acts : Mth := (yX8_acts, cX8_acts, 6, (some .boolean), [], 0, 0, fun _ => 0)
set_option maxRecDepth 100000 in
theorem okX8_acts : MOK MX8_acts 1 := ⟨rfl, UU_in 1058 rfl rfl, UU_in 49 (by decide +kernel) rfl, ⟨by decide +kernel, by decide +kernel, by decide +kernel⟩, by decide⟩
theorem imX8_acts : Cond.instanceMethod yX8_acts ∈ UU := UU_in 1057 (by decide +kernel) rfl
theorem seX8_acts : Cond.selects yX8_acts.cls yX8_acts yX8_acts ∈ UU := UU_in 25 (by decide +kernel) rfl
abbrev MX8_follows : Mth := (yX8_follows, cX8_follows, 2, (some .boolean), [], 0, 0, fun _ => 0)
set_option maxRecDepth 100000 in
theorem okX8_follows : MOK MX8_follows 0 := ⟨rfl, UU_in 1054 rfl rfl, UU_in 49 (by decide +kernel) rfl, ⟨by decide +kernel, by decide +kernel, by decide +kernel⟩, by decide⟩
theorem imX8_follows : Cond.instanceMethod yX8_follows ∈ UU := UU_in 1053 (by decide +kernel) rfl
theorem seX8_follows : Cond.selects yX8_follows.cls yX8_follows yX8_follows ∈ UU := UU_in 24 (by decide +kernel) rfl
abbrev MX8_states : Mth := (yX8_states, cX8_states, 6, (some .boolean), [], 0, 0, fun _ => 0)
set_option maxRecDepth 100000 in
theorem okX8_states : MOK MX8_states 4 := ⟨rfl, UU_in 1042 rfl rfl, UU_in 49 (by decide +kernel) rfl, ⟨by decide +kernel, by decide +kernel, by decide +kernel⟩, by decide⟩
theorem imX8_states : Cond.instanceMethod yX8_states ∈ UU := UU_in 1041 (by decide +kernel) rfl
theorem seX8_states : Cond.selects yX8_states.cls yX8_states yX8_states ∈ UU := UU_in 21 (by decide +kernel) rfl
abbrev MX8_inserts : Mth := (yX8_inserts, cX8_inserts, 5, (some .boolean), [], 0, 0, fun _ => 0)
set_option maxRecDepth 100000 in
theorem okX8_inserts : MOK MX8_inserts 4 := ⟨rfl, UU_in 1035 rfl rfl, UU_in 49 (by decide +kernel) rfl, ⟨by decide +kernel, by decide +kernel, by decide +kernel⟩, by decide⟩
theorem imX8_inserts : Cond.instanceMethod yX8_inserts ∈ UU := UU_in 1034 (by decide +kernel) rfl
theorem seX8_inserts : Cond.selects yX8_inserts.cls yX8_inserts yX8_inserts ∈ UU := UU_in 20 (by decide +kernel) rfl
abbrev MX8_updates : Mth := (yX8_updates, cX8_updates, 4, (some .boolean), [], 0, 0, fun _ => 0)
set_option maxRecDepth 100000 in
theorem okX8_updates : MOK MX8_updates 3 := ⟨rfl, UU_in 1074 rfl rfl, UU_in 49 (by decide +kernel) rfl, ⟨by decide +kernel, by decide +kernel, by decide +kernel⟩, by decide⟩
theorem imX8_updates : Cond.instanceMethod yX8_updates ∈ UU := UU_in 1073 (by decide +kernel) rfl
theorem seX8_updates : Cond.selects yX8_updates.cls yX8_updates yX8_updates ∈ UU := UU_in 28 (by decide +kernel) rfl
abbrev MX8_removes : Mth := (yX8_removes, cX8_removes, 2, (some .boolean), [], 0, 0, fun _ => 0)
set_option maxRecDepth 100000 in
theorem okX8_removes : MOK MX8_removes 1 := ⟨rfl, UU_in 1082 rfl rfl, UU_in 49 (by decide +kernel) rfl, ⟨by decide +kernel, by decide +kernel, by decide +kernel⟩, by decide⟩
theorem imX8_removes : Cond.instanceMethod yX8_removes ∈ UU := UU_in 1081 (by decide +kernel) rfl
theorem seX8_removes : Cond.selects yX8_removes.cls yX8_removes yX8_removes ∈ UU := UU_in 29 (by decide +kernel) rfl
abbrev MX8_addRule : Mth := (yX8_addRule, cX8_addRule, 6, (some .int), [], 0, 0, fun _ => 0)
set_option maxRecDepth 100000 in
theorem okX8_addRule : MOK MX8_addRule 3 := ⟨rfl, UU_in 975 rfl rfl, UU_in 49 (by decide +kernel) rfl, ⟨by decide +kernel, by decide +kernel, by decide +kernel⟩, by decide⟩
theorem imX8_addRule : Cond.instanceMethod yX8_addRule ∈ UU := UU_in 973 (by decide +kernel) rfl
theorem seX8_addRule : Cond.selects yX8_addRule.cls yX8_addRule yX8_addRule ∈ UU := UU_in 974 (by decide +kernel) rfl
abbrev MX8_setAction : Mth := (yX8_setAction, cX8_setAction, 8, (some .int), [], 0, 0, fun _ => 0)
set_option maxRecDepth 100000 in
theorem okX8_setAction : MOK MX8_setAction 5 := ⟨rfl, UU_in 1004 rfl rfl, UU_in 49 (by decide +kernel) rfl, ⟨by decide +kernel, by decide +kernel, by decide +kernel⟩, by decide⟩
theorem imX8_setAction : Cond.instanceMethod yX8_setAction ∈ UU := UU_in 1002 (by decide +kernel) rfl
theorem seX8_setAction : Cond.selects yX8_setAction.cls yX8_setAction yX8_setAction ∈ UU := UU_in 1003 (by decide +kernel) rfl
abbrev MX8_turnMute : Mth := (yX8_turnMute, cX8_turnMute, 3, (some .boolean), [], 0, 0, fun _ => 0)
set_option maxRecDepth 100000 in
theorem okX8_turnMute : MOK MX8_turnMute 1 := ⟨rfl, UU_in 1015 rfl rfl, UU_in 49 (by decide +kernel) rfl, ⟨by decide +kernel, by decide +kernel, by decide +kernel⟩, by decide⟩
theorem imX8_turnMute : Cond.instanceMethod yX8_turnMute ∈ UU := UU_in 1013 (by decide +kernel) rfl
theorem seX8_turnMute : Cond.selects yX8_turnMute.cls yX8_turnMute yX8_turnMute ∈ UU := UU_in 1014 (by decide +kernel) rfl
abbrev MX8_dropRule : Mth := (yX8_dropRule, cX8_dropRule, 6, (some .int), [], 0, 0, fun _ => 0)
set_option maxRecDepth 100000 in
theorem okX8_dropRule : MOK MX8_dropRule 1 := ⟨rfl, UU_in 1019 rfl rfl, UU_in 49 (by decide +kernel) rfl, ⟨by decide +kernel, by decide +kernel, by decide +kernel⟩, by decide⟩
theorem imX8_dropRule : Cond.instanceMethod yX8_dropRule ∈ UU := UU_in 1017 (by decide +kernel) rfl
theorem seX8_dropRule : Cond.selects yX8_dropRule.cls yX8_dropRule yX8_dropRule ∈ UU := UU_in 1018 (by decide +kernel) rfl
abbrev MX8_setDepth : Mth := (yX8_setDepth, cX8_setDepth, 3, (some .int), [], 0, 0, fun _ => 0)
set_option maxRecDepth 100000 in
theorem okX8_setDepth : MOK MX8_setDepth 1 := ⟨rfl, UU_in 1027 rfl rfl, UU_in 49 (by decide +kernel) rfl, ⟨by decide +kernel, by decide +kernel, by decide +kernel⟩, by decide⟩
theorem imX8_setDepth : Cond.instanceMethod yX8_setDepth ∈ UU := UU_in 1025 (by decide +kernel) rfl
theorem seX8_setDepth : Cond.selects yX8_setDepth.cls yX8_setDepth yX8_setDepth ∈ UU := UU_in 1026 (by decide +kernel) rfl
abbrev MX8_insert : Mth := (yX8_insert, cX8_insert, 6, (some .int), [], 0, 0, fun _ => 0)
set_option maxRecDepth 100000 in
theorem okX8_insert : MOK MX8_insert 4 := ⟨rfl, UU_in 1031 rfl rfl, UU_in 49 (by decide +kernel) rfl, ⟨by decide +kernel, by decide +kernel, by decide +kernel⟩, by decide⟩
theorem imX8_insert : Cond.instanceMethod yX8_insert ∈ UU := UU_in 1029 (by decide +kernel) rfl
theorem seX8_insert : Cond.selects yX8_insert.cls yX8_insert yX8_insert ∈ UU := UU_in 1030 (by decide +kernel) rfl
abbrev MX8_update : Mth := (yX8_update, cX8_update, 5, (some .int), [], 0, 0, fun _ => 0)
set_option maxRecDepth 100000 in
theorem okX8_update : MOK MX8_update 3 := ⟨rfl, UU_in 1070 rfl rfl, UU_in 49 (by decide +kernel) rfl, ⟨by decide +kernel, by decide +kernel, by decide +kernel⟩, by decide⟩
theorem imX8_update : Cond.instanceMethod yX8_update ∈ UU := UU_in 1068 (by decide +kernel) rfl
theorem seX8_update : Cond.selects yX8_update.cls yX8_update yX8_update ∈ UU := UU_in 1069 (by decide +kernel) rfl
abbrev MX8_remove : Mth := (yX8_remove, cX8_remove, 2, (some .int), [], 0, 0, fun _ => 0)
set_option maxRecDepth 100000 in
theorem okX8_remove : MOK MX8_remove 1 := ⟨rfl, UU_in 1078 rfl rfl, UU_in 49 (by decide +kernel) rfl, ⟨by decide +kernel, by decide +kernel, by decide +kernel⟩, by decide⟩
theorem imX8_remove : Cond.instanceMethod yX8_remove ∈ UU := UU_in 1076 (by decide +kernel) rfl
theorem seX8_remove : Cond.selects yX8_remove.cls yX8_remove yX8_remove ∈ UU := UU_in 1077 (by decide +kernel) rfl
abbrev MX8_triesUpdate : Mth := (yX8_triesUpdate, cX8_triesUpdate, 5, (some .boolean), [], 0, 0, fun _ => 0)
set_option maxRecDepth 100000 in
theorem okX8_triesUpdate : MOK MX8_triesUpdate 3 := ⟨rfl, UU_in 1090 rfl rfl, UU_in 49 (by decide +kernel) rfl, ⟨by decide +kernel, by decide +kernel, by decide +kernel⟩, by decide⟩
theorem imX8_triesUpdate : Cond.instanceMethod yX8_triesUpdate ∈ UU := UU_in 1089 (by decide +kernel) rfl
theorem seX8_triesUpdate : Cond.selects yX8_triesUpdate.cls yX8_triesUpdate yX8_triesUpdate ∈ UU := UU_in 30 (by decide +kernel) rfl
abbrev MX8_whyNotUpdate : Mth := (yX8_whyNotUpdate, cX8_whyNotUpdate, 4, (some .int), [], 0, 0, fun _ => 0)
set_option maxRecDepth 100000 in
theorem okX8_whyNotUpdate : MOK MX8_whyNotUpdate 3 := ⟨rfl, UU_in 1086 rfl rfl, UU_in 49 (by decide +kernel) rfl, ⟨by decide +kernel, by decide +kernel, by decide +kernel⟩, by decide⟩
theorem imX8_whyNotUpdate : Cond.instanceMethod yX8_whyNotUpdate ∈ UU := UU_in 1084 (by decide +kernel) rfl
theorem seX8_whyNotUpdate : Cond.selects yX8_whyNotUpdate.cls yX8_whyNotUpdate yX8_whyNotUpdate ∈ UU := UU_in 1085 (by decide +kernel) rfl
abbrev MX8_eventsOfUpdate : Mth := (yX8_eventsOfUpdate, cX8_eventsOfUpdate, 4, (some .int), [], 0, 0, fun _ => 0)
set_option maxRecDepth 100000 in
theorem okX8_eventsOfUpdate : MOK MX8_eventsOfUpdate 3 := ⟨rfl, UU_in 1094 rfl rfl, UU_in 49 (by decide +kernel) rfl, ⟨by decide +kernel, by decide +kernel, by decide +kernel⟩, by decide⟩
theorem imX8_eventsOfUpdate : Cond.instanceMethod yX8_eventsOfUpdate ∈ UU := UU_in 1092 (by decide +kernel) rfl
theorem seX8_eventsOfUpdate : Cond.selects yX8_eventsOfUpdate.cls yX8_eventsOfUpdate yX8_eventsOfUpdate ∈ UU := UU_in 1093 (by decide +kernel) rfl
abbrev MX8_depthOfUpdate : Mth := (yX8_depthOfUpdate, cX8_depthOfUpdate, 4, (some .int), [], 0, 0, fun _ => 0)
set_option maxRecDepth 100000 in
theorem okX8_depthOfUpdate : MOK MX8_depthOfUpdate 3 := ⟨rfl, UU_in 1098 rfl rfl, UU_in 49 (by decide +kernel) rfl, ⟨by decide +kernel, by decide +kernel, by decide +kernel⟩, by decide⟩
theorem imX8_depthOfUpdate : Cond.instanceMethod yX8_depthOfUpdate ∈ UU := UU_in 1096 (by decide +kernel) rfl
theorem seX8_depthOfUpdate : Cond.selects yX8_depthOfUpdate.cls yX8_depthOfUpdate yX8_depthOfUpdate ∈ UU := UU_in 1097 (by decide +kernel) rfl
abbrev MX8_hasRow : Mth := (yX8_hasRow, cX8_hasRow, 2, (some .boolean), [], 0, 0, fun _ => 0)
set_option maxRecDepth 100000 in
theorem okX8_hasRow : MOK MX8_hasRow 1 := ⟨rfl, UU_in 1102 rfl rfl, UU_in 49 (by decide +kernel) rfl, ⟨by decide +kernel, by decide +kernel, by decide +kernel⟩, by decide⟩
theorem imX8_hasRow : Cond.instanceMethod yX8_hasRow ∈ UU := UU_in 1100 (by decide +kernel) rfl
theorem seX8_hasRow : Cond.selects yX8_hasRow.cls yX8_hasRow yX8_hasRow ∈ UU := UU_in 1101 (by decide +kernel) rfl
abbrev MX8_rowCount : Mth := (yX8_rowCount, cX8_rowCount, 1, (some .int), [], 0, 0, fun _ => 0)
set_option maxRecDepth 100000 in
theorem okX8_rowCount : MOK MX8_rowCount 0 := ⟨rfl, UU_in 1106 rfl rfl, UU_in 49 (by decide +kernel) rfl, ⟨by decide +kernel, by decide +kernel, by decide +kernel⟩, by decide⟩
theorem imX8_rowCount : Cond.instanceMethod yX8_rowCount ∈ UU := UU_in 1104 (by decide +kernel) rfl
theorem seX8_rowCount : Cond.selects yX8_rowCount.cls yX8_rowCount yX8_rowCount ∈ UU := UU_in 1105 (by decide +kernel) rfl
abbrev MX8_valueAt : Mth := (yX8_valueAt, cX8_valueAt, 3, (some .int), [], 0, 0, fun _ => 0)
set_option maxRecDepth 100000 in
theorem okX8_valueAt : MOK MX8_valueAt 2 := ⟨rfl, UU_in 1114 rfl rfl, UU_in 49 (by decide +kernel) rfl, ⟨by decide +kernel, by decide +kernel, by decide +kernel⟩, by decide⟩
theorem imX8_valueAt : Cond.instanceMethod yX8_valueAt ∈ UU := UU_in 1112 (by decide +kernel) rfl
theorem seX8_valueAt : Cond.selects yX8_valueAt.cls yX8_valueAt yX8_valueAt ∈ UU := UU_in 1113 (by decide +kernel) rfl
abbrev MX8_sumOf : Mth := (yX8_sumOf, cX8_sumOf, 4, (some .int), [], 0, 0, fun _ => 0)
set_option maxRecDepth 100000 in
theorem okX8_sumOf : MOK MX8_sumOf 1 := ⟨rfl, UU_in 1118 rfl rfl, UU_in 49 (by decide +kernel) rfl, ⟨by decide +kernel, by decide +kernel, by decide +kernel⟩, by decide⟩
theorem imX8_sumOf : Cond.instanceMethod yX8_sumOf ∈ UU := UU_in 1116 (by decide +kernel) rfl
theorem seX8_sumOf : Cond.selects yX8_sumOf.cls yX8_sumOf yX8_sumOf ∈ UU := UU_in 1117 (by decide +kernel) rfl
abbrev MX8_ruleCount : Mth := (yX8_ruleCount, cX8_ruleCount, 1, (some .int), [], 0, 0, fun _ => 0)
set_option maxRecDepth 100000 in
theorem okX8_ruleCount : MOK MX8_ruleCount 0 := ⟨rfl, UU_in 1122 rfl rfl, UU_in 49 (by decide +kernel) rfl, ⟨by decide +kernel, by decide +kernel, by decide +kernel⟩, by decide⟩
theorem imX8_ruleCount : Cond.instanceMethod yX8_ruleCount ∈ UU := UU_in 1120 (by decide +kernel) rfl
theorem seX8_ruleCount : Cond.selects yX8_ruleCount.cls yX8_ruleCount yX8_ruleCount ∈ UU := UU_in 1121 (by decide +kernel) rfl
abbrev MX8_actionOf : Mth := (yX8_actionOf, cX8_actionOf, 2, (some .int), [], 0, 0, fun _ => 0)
set_option maxRecDepth 100000 in
theorem okX8_actionOf : MOK MX8_actionOf 1 := ⟨rfl, UU_in 1126 rfl rfl, UU_in 49 (by decide +kernel) rfl, ⟨by decide +kernel, by decide +kernel, by decide +kernel⟩, by decide⟩
theorem imX8_actionOf : Cond.instanceMethod yX8_actionOf ∈ UU := UU_in 1124 (by decide +kernel) rfl
theorem seX8_actionOf : Cond.selects yX8_actionOf.cls yX8_actionOf yX8_actionOf ∈ UU := UU_in 1125 (by decide +kernel) rfl
abbrev MX8_isMuted : Mth := (yX8_isMuted, cX8_isMuted, 2, (some .boolean), [], 0, 0, fun _ => 0)
set_option maxRecDepth 100000 in
theorem okX8_isMuted : MOK MX8_isMuted 1 := ⟨rfl, UU_in 1130 rfl rfl, UU_in 49 (by decide +kernel) rfl, ⟨by decide +kernel, by decide +kernel, by decide +kernel⟩, by decide⟩
theorem imX8_isMuted : Cond.instanceMethod yX8_isMuted ∈ UU := UU_in 1128 (by decide +kernel) rfl
theorem seX8_isMuted : Cond.selects yX8_isMuted.cls yX8_isMuted yX8_isMuted ∈ UU := UU_in 1129 (by decide +kernel) rfl
abbrev MX8_actsOf : Mth := (yX8_actsOf, cX8_actsOf, 2, (some .int), [], 0, 0, fun _ => 0)
set_option maxRecDepth 100000 in
theorem okX8_actsOf : MOK MX8_actsOf 1 := ⟨rfl, UU_in 1134 rfl rfl, UU_in 49 (by decide +kernel) rfl, ⟨by decide +kernel, by decide +kernel, by decide +kernel⟩, by decide⟩
theorem imX8_actsOf : Cond.instanceMethod yX8_actsOf ∈ UU := UU_in 1132 (by decide +kernel) rfl
theorem seX8_actsOf : Cond.selects yX8_actsOf.cls yX8_actsOf yX8_actsOf ∈ UU := UU_in 1133 (by decide +kernel) rfl
abbrev MX8_eventCount : Mth := (yX8_eventCount, cX8_eventCount, 1, (some .int), [], 0, 0, fun _ => 0)
set_option maxRecDepth 100000 in
theorem okX8_eventCount : MOK MX8_eventCount 0 := ⟨rfl, UU_in 1138 rfl rfl, UU_in 49 (by decide +kernel) rfl, ⟨by decide +kernel, by decide +kernel, by decide +kernel⟩, by decide⟩
theorem imX8_eventCount : Cond.instanceMethod yX8_eventCount ∈ UU := UU_in 1136 (by decide +kernel) rfl
theorem seX8_eventCount : Cond.selects yX8_eventCount.cls yX8_eventCount yX8_eventCount ∈ UU := UU_in 1137 (by decide +kernel) rfl
abbrev MX8_logSize : Mth := (yX8_logSize, cX8_logSize, 1, (some .int), [], 0, 0, fun _ => 0)
set_option maxRecDepth 100000 in
theorem okX8_logSize : MOK MX8_logSize 0 := ⟨rfl, UU_in 1142 rfl rfl, UU_in 49 (by decide +kernel) rfl, ⟨by decide +kernel, by decide +kernel, by decide +kernel⟩, by decide⟩
theorem imX8_logSize : Cond.instanceMethod yX8_logSize ∈ UU := UU_in 1140 (by decide +kernel) rfl
theorem seX8_logSize : Cond.selects yX8_logSize.cls yX8_logSize yX8_logSize ∈ UU := UU_in 1141 (by decide +kernel) rfl
abbrev MX8_loggedRule : Mth := (yX8_loggedRule, cX8_loggedRule, 2, (some .int), [], 0, 0, fun _ => 0)
set_option maxRecDepth 100000 in
theorem okX8_loggedRule : MOK MX8_loggedRule 1 := ⟨rfl, UU_in 1146 rfl rfl, UU_in 49 (by decide +kernel) rfl, ⟨by decide +kernel, by decide +kernel, by decide +kernel⟩, by decide⟩
theorem imX8_loggedRule : Cond.instanceMethod yX8_loggedRule ∈ UU := UU_in 1144 (by decide +kernel) rfl
theorem seX8_loggedRule : Cond.selects yX8_loggedRule.cls yX8_loggedRule yX8_loggedRule ∈ UU := UU_in 1145 (by decide +kernel) rfl
abbrev MX8_loggedDepth : Mth := (yX8_loggedDepth, cX8_loggedDepth, 2, (some .int), [], 0, 0, fun _ => 0)
set_option maxRecDepth 100000 in
theorem okX8_loggedDepth : MOK MX8_loggedDepth 1 := ⟨rfl, UU_in 1150 rfl rfl, UU_in 49 (by decide +kernel) rfl, ⟨by decide +kernel, by decide +kernel, by decide +kernel⟩, by decide⟩
theorem imX8_loggedDepth : Cond.instanceMethod yX8_loggedDepth ∈ UU := UU_in 1148 (by decide +kernel) rfl
theorem seX8_loggedDepth : Cond.selects yX8_loggedDepth.cls yX8_loggedDepth yX8_loggedDepth ∈ UU := UU_in 1149 (by decide +kernel) rfl
abbrev MX8_setsOff : Mth := (yX8_setsOff, cX8_setsOff, 5, (some .boolean), [], 0, 0, fun _ => 0)
set_option maxRecDepth 100000 in
theorem okX8_setsOff : MOK MX8_setsOff 2 := ⟨rfl, UU_in 1158 rfl rfl, UU_in 49 (by decide +kernel) rfl, ⟨by decide +kernel, by decide +kernel, by decide +kernel⟩, by decide⟩
theorem imX8_setsOff : Cond.instanceMethod yX8_setsOff ∈ UU := UU_in 1157 (by decide +kernel) rfl
theorem seX8_setsOff : Cond.selects yX8_setsOff.cls yX8_setsOff yX8_setsOff ∈ UU := UU_in 32 (by decide +kernel) rfl
abbrev MX8_straight : Mth := (yX8_straight, cX8_straight, 4, (some .int), [], 0, 0, fun _ => 0)
set_option maxRecDepth 100000 in
theorem okX8_straight : MOK MX8_straight 1 := ⟨rfl, UU_in 1170 rfl rfl, UU_in 49 (by decide +kernel) rfl, ⟨by decide +kernel, by decide +kernel, by decide +kernel⟩, by decide⟩
theorem imX8_straight : Cond.instanceMethod yX8_straight ∈ UU := UU_in 1169 (by decide +kernel) rfl
theorem seX8_straight : Cond.selects yX8_straight.cls yX8_straight yX8_straight ∈ UU := UU_in 34 (by decide +kernel) rfl
abbrev MX8_reach : Mth := (yX8_reach, cX8_reach, 6, (some .int), [], 0, 0, fun _ => 0)
set_option maxRecDepth 100000 in
theorem okX8_reach : MOK MX8_reach 1 := ⟨rfl, UU_in 1166 rfl rfl, UU_in 49 (by decide +kernel) rfl, ⟨by decide +kernel, by decide +kernel, by decide +kernel⟩, by decide⟩
theorem imX8_reach : Cond.instanceMethod yX8_reach ∈ UU := UU_in 1165 (by decide +kernel) rfl
theorem seX8_reach : Cond.selects yX8_reach.cls yX8_reach yX8_reach ∈ UU := UU_in 33 (by decide +kernel) rfl
abbrev MX8_canSetOff : Mth := (yX8_canSetOff, cX8_canSetOff, 3, (some .boolean), [], 0, 0, fun _ => 0)
set_option maxRecDepth 100000 in
theorem okX8_canSetOff : MOK MX8_canSetOff 2 := ⟨rfl, UU_in 1154 rfl rfl, UU_in 49 (by decide +kernel) rfl, ⟨by decide +kernel, by decide +kernel, by decide +kernel⟩, by decide⟩
theorem imX8_canSetOff : Cond.instanceMethod yX8_canSetOff ∈ UU := UU_in 1152 (by decide +kernel) rfl
theorem seX8_canSetOff : Cond.selects yX8_canSetOff.cls yX8_canSetOff yX8_canSetOff ∈ UU := UU_in 1153 (by decide +kernel) rfl
abbrev MX8_reachOf : Mth := (yX8_reachOf, cX8_reachOf, 2, (some .int), [], 0, 0, fun _ => 0)
set_option maxRecDepth 100000 in
theorem okX8_reachOf : MOK MX8_reachOf 1 := ⟨rfl, UU_in 1162 rfl rfl, UU_in 49 (by decide +kernel) rfl, ⟨by decide +kernel, by decide +kernel, by decide +kernel⟩, by decide⟩
theorem imX8_reachOf : Cond.instanceMethod yX8_reachOf ∈ UU := UU_in 1160 (by decide +kernel) rfl
theorem seX8_reachOf : Cond.selects yX8_reachOf.cls yX8_reachOf yX8_reachOf ∈ UU := UU_in 1161 (by decide +kernel) rfl
abbrev MX8_reachByTable : Mth := (yX8_reachByTable, cX8_reachByTable, 2, (some .int), [], 0, 0, fun _ => 0)
set_option maxRecDepth 100000 in
theorem okX8_reachByTable : MOK MX8_reachByTable 1 := ⟨rfl, UU_in 1174 rfl rfl, UU_in 49 (by decide +kernel) rfl, ⟨by decide +kernel, by decide +kernel, by decide +kernel⟩, by decide⟩
theorem imX8_reachByTable : Cond.instanceMethod yX8_reachByTable ∈ UU := UU_in 1172 (by decide +kernel) rfl
theorem seX8_reachByTable : Cond.selects yX8_reachByTable.cls yX8_reachByTable yX8_reachByTable ∈ UU := UU_in 1173 (by decide +kernel) rfl
abbrev MX8_circularRules : Mth := (yX8_circularRules, cX8_circularRules, 3, (some .int), [], 0, 0, fun _ => 0)
set_option maxRecDepth 100000 in
theorem okX8_circularRules : MOK MX8_circularRules 0 := ⟨rfl, UU_in 1179 rfl rfl, UU_in 49 (by decide +kernel) rfl, ⟨by decide +kernel, by decide +kernel, by decide +kernel⟩, by decide⟩
theorem imX8_circularRules : Cond.instanceMethod yX8_circularRules ∈ UU := UU_in 1177 (by decide +kernel) rfl
theorem seX8_circularRules : Cond.selects yX8_circularRules.cls yX8_circularRules yX8_circularRules ∈ UU := UU_in 1178 (by decide +kernel) rfl
abbrev MX8_appendText : Mth := (yX8_appendText, cX8_appendText, 7, (some .int), [], 0, 0, fun _ => 0)
set_option maxRecDepth 100000 in
theorem okX8_appendText : MOK MX8_appendText 1 := ⟨rfl, UU_in 1183 rfl rfl, UU_in 49 (by decide +kernel) rfl, ⟨by decide +kernel, by decide +kernel, by decide +kernel⟩, by decide⟩
theorem imX8_appendText : Cond.instanceMethod yX8_appendText ∈ UU := UU_in 1181 (by decide +kernel) rfl
theorem seX8_appendText : Cond.selects yX8_appendText.cls yX8_appendText yX8_appendText ∈ UU := UU_in 1182 (by decide +kernel) rfl
abbrev MX8_clearText : Mth := (yX8_clearText, cX8_clearText, 2, (some .int), [], 0, 0, fun _ => 0)
set_option maxRecDepth 100000 in
theorem okX8_clearText : MOK MX8_clearText 0 := ⟨rfl, UU_in 1188 rfl rfl, UU_in 49 (by decide +kernel) rfl, ⟨by decide +kernel, by decide +kernel, by decide +kernel⟩, by decide⟩
theorem imX8_clearText : Cond.instanceMethod yX8_clearText ∈ UU := UU_in 1186 (by decide +kernel) rfl
theorem seX8_clearText : Cond.selects yX8_clearText.cls yX8_clearText yX8_clearText ∈ UU := UU_in 1187 (by decide +kernel) rfl
abbrev MX8_textLength : Mth := (yX8_textLength, cX8_textLength, 1, (some .int), [], 0, 0, fun _ => 0)
set_option maxRecDepth 100000 in
theorem okX8_textLength : MOK MX8_textLength 0 := ⟨rfl, UU_in 1192 rfl rfl, UU_in 49 (by decide +kernel) rfl, ⟨by decide +kernel, by decide +kernel, by decide +kernel⟩, by decide⟩
theorem imX8_textLength : Cond.instanceMethod yX8_textLength ∈ UU := UU_in 1190 (by decide +kernel) rfl
theorem seX8_textLength : Cond.selects yX8_textLength.cls yX8_textLength yX8_textLength ∈ UU := UU_in 1191 (by decide +kernel) rfl
abbrev MX8_takes : Mth := (yX8_takes, cX8_takes, 5, (some .int), [], 0, 0, fun _ => 0)
set_option maxRecDepth 100000 in
theorem okX8_takes : MOK MX8_takes 2 := ⟨rfl, UU_in 1208 rfl rfl, UU_in 49 (by decide +kernel) rfl, ⟨by decide +kernel, by decide +kernel, by decide +kernel⟩, by decide⟩
theorem imX8_takes : Cond.instanceMethod yX8_takes ∈ UU := UU_in 1207 (by decide +kernel) rfl
theorem seX8_takes : Cond.selects yX8_takes.cls yX8_takes yX8_takes ∈ UU := UU_in 37 (by decide +kernel) rfl
abbrev MX8_number : Mth := (yX8_number, cX8_number, 2, (some .int), [], 0, 0, fun _ => 0)
set_option maxRecDepth 100000 in
theorem okX8_number : MOK MX8_number 0 := ⟨rfl, UU_in 1212 rfl rfl, UU_in 49 (by decide +kernel) rfl, ⟨by decide +kernel, by decide +kernel, by decide +kernel⟩, by decide⟩
theorem imX8_number : Cond.instanceMethod yX8_number ∈ UU := UU_in 1211 (by decide +kernel) rfl
theorem seX8_number : Cond.selects yX8_number.cls yX8_number yX8_number ∈ UU := UU_in 38 (by decide +kernel) rfl
abbrev MX8_readCommand : Mth := (yX8_readCommand, cX8_readCommand, 2, none, [], 0, 0, fun _ => 0)
set_option maxRecDepth 100000 in
theorem okX8_readCommand : MOK MX8_readCommand 0 := ⟨rfl, UU_in 1204 rfl rfl, UU_in 49 (by decide +kernel) rfl, ⟨by decide +kernel, by decide +kernel, by decide +kernel⟩, by decide⟩
theorem imX8_readCommand : Cond.instanceMethod yX8_readCommand ∈ UU := UU_in 1203 (by decide +kernel) rfl
theorem seX8_readCommand : Cond.selects yX8_readCommand.cls yX8_readCommand yX8_readCommand ∈ UU := UU_in 36 (by decide +kernel) rfl
abbrev MX8_does : Mth := (yX8_does, cX8_does, 1, (some .boolean), [], 0, 0, fun _ => 0)
set_option maxRecDepth 100000 in
theorem okX8_does : MOK MX8_does 0 := ⟨rfl, UU_in 1216 rfl rfl, UU_in 49 (by decide +kernel) rfl, ⟨by decide +kernel, by decide +kernel, by decide +kernel⟩, by decide⟩
theorem imX8_does : Cond.instanceMethod yX8_does ∈ UU := UU_in 1215 (by decide +kernel) rfl
theorem seX8_does : Cond.selects yX8_does.cls yX8_does yX8_does ∈ UU := UU_in 39 (by decide +kernel) rfl
abbrev MX8_goesThrough : Mth := (yX8_goesThrough, cX8_goesThrough, 5, none, [], 0, 0, fun _ => 0)
set_option maxRecDepth 100000 in
theorem okX8_goesThrough : MOK MX8_goesThrough 1 := ⟨rfl, UU_in 1200 rfl rfl, UU_in 49 (by decide +kernel) rfl, ⟨by decide +kernel, by decide +kernel, by decide +kernel⟩, by decide⟩
theorem imX8_goesThrough : Cond.instanceMethod yX8_goesThrough ∈ UU := UU_in 1199 (by decide +kernel) rfl
theorem seX8_goesThrough : Cond.selects yX8_goesThrough.cls yX8_goesThrough yX8_goesThrough ∈ UU := UU_in 35 (by decide +kernel) rfl
abbrev MX8_textError : Mth := (yX8_textError, cX8_textError, 1, (some .int), [], 0, 0, fun _ => 0)
set_option maxRecDepth 100000 in
theorem okX8_textError : MOK MX8_textError 0 := ⟨rfl, UU_in 1196 rfl rfl, UU_in 49 (by decide +kernel) rfl, ⟨by decide +kernel, by decide +kernel, by decide +kernel⟩, by decide⟩
theorem imX8_textError : Cond.instanceMethod yX8_textError ∈ UU := UU_in 1194 (by decide +kernel) rfl
theorem seX8_textError : Cond.selects yX8_textError.cls yX8_textError yX8_textError ∈ UU := UU_in 1195 (by decide +kernel) rfl
abbrev MX8_runText : Mth := (yX8_runText, cX8_runText, 1, (some .int), [], 0, 0, fun _ => 0)
set_option maxRecDepth 100000 in
theorem okX8_runText : MOK MX8_runText 0 := ⟨rfl, UU_in 1220 rfl rfl, UU_in 49 (by decide +kernel) rfl, ⟨by decide +kernel, by decide +kernel, by decide +kernel⟩, by decide⟩
theorem imX8_runText : Cond.instanceMethod yX8_runText ∈ UU := UU_in 1218 (by decide +kernel) rfl
theorem seX8_runText : Cond.selects yX8_runText.cls yX8_runText yX8_runText ∈ UU := UU_in 1219 (by decide +kernel) rfl
abbrev MX8_undo : Mth := (yX8_undo, cX8_undo, 2, (some .int), [], 0, 0, fun _ => 0)
set_option maxRecDepth 100000 in
theorem okX8_undo : MOK MX8_undo 0 := ⟨rfl, UU_in 1224 rfl rfl, UU_in 49 (by decide +kernel) rfl, ⟨by decide +kernel, by decide +kernel, by decide +kernel⟩, by decide⟩
theorem imX8_undo : Cond.instanceMethod yX8_undo ∈ UU := UU_in 1222 (by decide +kernel) rfl
theorem seX8_undo : Cond.selects yX8_undo.cls yX8_undo yX8_undo ∈ UU := UU_in 1223 (by decide +kernel) rfl
abbrev MX8_undoCount : Mth := (yX8_undoCount, cX8_undoCount, 1, (some .int), [], 0, 0, fun _ => 0)
set_option maxRecDepth 100000 in
theorem okX8_undoCount : MOK MX8_undoCount 0 := ⟨rfl, UU_in 1228 rfl rfl, UU_in 49 (by decide +kernel) rfl, ⟨by decide +kernel, by decide +kernel, by decide +kernel⟩, by decide⟩
theorem imX8_undoCount : Cond.instanceMethod yX8_undoCount ∈ UU := UU_in 1226 (by decide +kernel) rfl
theorem seX8_undoCount : Cond.selects yX8_undoCount.cls yX8_undoCount yX8_undoCount ∈ UU := UU_in 1227 (by decide +kernel) rfl
abbrev MX8_saveState : Mth := (yX8_saveState, cX8_saveState, 3, (some .int), [], 0, 0, fun _ => 0)
set_option maxRecDepth 100000 in
theorem okX8_saveState : MOK MX8_saveState 1 := ⟨rfl, UU_in 1232 rfl rfl, UU_in 49 (by decide +kernel) rfl, ⟨by decide +kernel, by decide +kernel, by decide +kernel⟩, by decide⟩
theorem imX8_saveState : Cond.instanceMethod yX8_saveState ∈ UU := UU_in 1230 (by decide +kernel) rfl
theorem seX8_saveState : Cond.selects yX8_saveState.cls yX8_saveState yX8_saveState ∈ UU := UU_in 1231 (by decide +kernel) rfl
abbrev MX8_loadState : Mth := (yX8_loadState, cX8_loadState, 3, (some .int), [], 0, 0, fun _ => 0)
set_option maxRecDepth 100000 in
theorem okX8_loadState : MOK MX8_loadState 1 := ⟨rfl, UU_in 1236 rfl rfl, UU_in 49 (by decide +kernel) rfl, ⟨by decide +kernel, by decide +kernel, by decide +kernel⟩, by decide⟩
theorem imX8_loadState : Cond.instanceMethod yX8_loadState ∈ UU := UU_in 1234 (by decide +kernel) rfl
theorem seX8_loadState : Cond.selects yX8_loadState.cls yX8_loadState yX8_loadState ∈ UU := UU_in 1235 (by decide +kernel) rfl
abbrev MJ9_floorMod_7cf53 : Mth := (yJ9_floorMod_7cf53, cJ9_floorMod_7cf53, 3, (some .int), [], 0, 0, fun _ => 0)
set_option maxRecDepth 100000 in
theorem okJ9_floorMod_7cf53 : MOK MJ9_floorMod_7cf53 2 := ⟨rfl, UU_in 608 rfl rfl, UU_in 56 (by decide +kernel) rfl, ⟨by decide +kernel, by decide +kernel, by decide +kernel⟩, by decide⟩
theorem stJ9_floorMod_7cf53 : Cond.static yJ9_floorMod_7cf53 ∈ UU := UU_in 607 (by decide +kernel) rfl
abbrev MJ0_length_8abf5 : Mth := (yJ0_length_8abf5, cJ0_length_8abf5, 1, (some .int), [], 0, 0, fun _ => 0)
set_option maxRecDepth 100000 in
theorem okJ0_length_8abf5 : MOK MJ0_length_8abf5 0 := ⟨rfl, UU_in 361 rfl rfl, UU_in 58 (by decide +kernel) rfl, ⟨by decide +kernel, by decide +kernel, by decide +kernel⟩, by decide⟩
theorem imJ0_length_8abf5 : Cond.instanceMethod yJ0_length_8abf5 ∈ UU := UU_in 359 (by decide +kernel) rfl
theorem seJ0_length_8abf5 : Cond.selects yJ0_length_8abf5.cls yJ0_length_8abf5 yJ0_length_8abf5 ∈ UU := UU_in 360 (by decide +kernel) rfl
abbrev MJ0_isEmpty_aae02 : Mth := (yJ0_isEmpty_aae02, cJ0_isEmpty_aae02, 1, (some .boolean), [], 0, 0, fun _ => 0)
set_option maxRecDepth 100000 in
theorem okJ0_isEmpty_aae02 : MOK MJ0_isEmpty_aae02 0 := ⟨rfl, UU_in 357 rfl rfl, UU_in 58 (by decide +kernel) rfl, ⟨by decide +kernel, by decide +kernel, by decide +kernel⟩, by decide⟩
theorem imJ0_isEmpty_aae02 : Cond.instanceMethod yJ0_isEmpty_aae02 ∈ UU := UU_in 355 (by decide +kernel) rfl
theorem seJ0_isEmpty_aae02 : Cond.selects yJ0_isEmpty_aae02.cls yJ0_isEmpty_aae02 yJ0_isEmpty_aae02 ∈ UU := UU_in 356 (by decide +kernel) rfl
abbrev MJ0_charAt_5068e : Mth := (yJ0_charAt_5068e, cJ0_charAt_5068e, 2, (some .char), [], 0, 0, fun _ => 0)
set_option maxRecDepth 100000 in
theorem okJ0_charAt_5068e : MOK MJ0_charAt_5068e 1 := ⟨rfl, UU_in 371 rfl rfl, UU_in 58 (by decide +kernel) rfl, ⟨by decide +kernel, by decide +kernel, by decide +kernel⟩, by decide⟩
theorem imJ0_charAt_5068e : Cond.instanceMethod yJ0_charAt_5068e ∈ UU := UU_in 369 (by decide +kernel) rfl
theorem seJ0_charAt_5068e : Cond.selects yJ0_charAt_5068e.cls yJ0_charAt_5068e yJ0_charAt_5068e ∈ UU := UU_in 370 (by decide +kernel) rfl
abbrev MJ0_coder_7d493 : Mth := (yJ0_coder_7d493, cJ0_coder_7d493, 1, (some .byte), [], 0, 0, fun _ => 0)
set_option maxRecDepth 100000 in
theorem okJ0_coder_7d493 : MOK MJ0_coder_7d493 0 := ⟨rfl, UU_in 365 rfl rfl, UU_in 58 (by decide +kernel) rfl, ⟨by decide +kernel, by decide +kernel, by decide +kernel⟩, by decide⟩
theorem imJ0_coder_7d493 : Cond.instanceMethod yJ0_coder_7d493 ∈ UU := UU_in 363 (by decide +kernel) rfl
theorem seJ0_coder_7d493 : Cond.selects yJ0_coder_7d493.cls yJ0_coder_7d493 yJ0_coder_7d493 ∈ UU := UU_in 364 (by decide +kernel) rfl
abbrev MJ0_isLatin1_aae02 : Mth := (yJ0_isLatin1_aae02, cJ0_isLatin1_aae02, 1, (some .boolean), [], 0, 0, fun _ => 0)
set_option maxRecDepth 100000 in
theorem okJ0_isLatin1_aae02 : MOK MJ0_isLatin1_aae02 0 := ⟨rfl, UU_in 375 rfl rfl, UU_in 58 (by decide +kernel) rfl, ⟨by decide +kernel, by decide +kernel, by decide +kernel⟩, by decide⟩
theorem imJ0_isLatin1_aae02 : Cond.instanceMethod yJ0_isLatin1_aae02 ∈ UU := UU_in 373 (by decide +kernel) rfl
theorem seJ0_isLatin1_aae02 : Cond.selects yJ0_isLatin1_aae02.cls yJ0_isLatin1_aae02 yJ0_isLatin1_aae02 ∈ UU := UU_in 374 (by decide +kernel) rfl
abbrev MJ0_checkIndex_df160 : Mth := (yJ0_checkIndex_df160, cJ0_checkIndex_df160, 2, none, [], 0, 0, fun _ => 0)
set_option maxRecDepth 100000 in
theorem okJ0_checkIndex_df160 : MOK MJ0_checkIndex_df160 2 := ⟨rfl, UU_in 381 rfl rfl, UU_in 58 (by decide +kernel) rfl, ⟨by decide +kernel, by decide +kernel, by decide +kernel⟩, by decide⟩
theorem stJ0_checkIndex_df160 : Cond.static yJ0_checkIndex_df160 ∈ UU := UU_in 380 (by decide +kernel) rfl
abbrev MJ1_charAt_3b067 : Mth := (yJ1_charAt_3b067, cJ1_charAt_3b067, 2, (some .char), [], 0, 0, fun _ => 0)
set_option maxRecDepth 100000 in
theorem okJ1_charAt_3b067 : MOK MJ1_charAt_3b067 2 := ⟨rfl, UU_in 378 rfl rfl, UU_in 59 (by decide +kernel) rfl, ⟨by decide +kernel, by decide +kernel, by decide +kernel⟩, by decide⟩
theorem stJ1_charAt_3b067 : Cond.static yJ1_charAt_3b067 ∈ UU := UU_in 377 (by decide +kernel) rfl
abbrev MJ2_getChar_3b067 : Mth := (yJ2_getChar_3b067, cJ2_getChar_3b067, 2, (some .char), [], 0, 0, fun _ => 0)
set_option maxRecDepth 100000 in
theorem okJ2_getChar_3b067 : MOK MJ2_getChar_3b067 2 := ⟨rfl, UU_in 399 rfl rfl, UU_in 61 (by decide +kernel) rfl, ⟨by decide +kernel, by decide +kernel, by decide +kernel⟩, by decide⟩
theorem stJ2_getChar_3b067 : Cond.static yJ2_getChar_3b067 ∈ UU := UU_in 398 (by decide +kernel) rfl
abbrev MJ2_length_9d52b : Mth := (yJ2_length_9d52b, cJ2_length_9d52b, 1, (some .int), [], 0, 0, fun _ => 0)
set_option maxRecDepth 100000 in
theorem okJ2_length_9d52b : MOK MJ2_length_9d52b 1 := ⟨rfl, UU_in 395 rfl rfl, UU_in 61 (by decide +kernel) rfl, ⟨by decide +kernel, by decide +kernel, by decide +kernel⟩, by decide⟩
theorem stJ2_length_9d52b : Cond.static yJ2_length_9d52b ∈ UU := UU_in 394 (by decide +kernel) rfl
abbrev MJ2_charAt_3b067 : Mth := (yJ2_charAt_3b067, cJ2_charAt_3b067, 2, (some .char), [], 0, 0, fun _ => 0)
set_option maxRecDepth 100000 in
theorem okJ2_charAt_3b067 : MOK MJ2_charAt_3b067 2 := ⟨rfl, UU_in 389 rfl rfl, UU_in 61 (by decide +kernel) rfl, ⟨by decide +kernel, by decide +kernel, by decide +kernel⟩, by decide⟩
theorem stJ2_charAt_3b067 : Cond.static yJ2_charAt_3b067 ∈ UU := UU_in 388 (by decide +kernel) rfl
abbrev MJ2_checkIndex_2214a : Mth := (yJ2_checkIndex_2214a, cJ2_checkIndex_2214a, 2, none, [], 0, 0, fun _ => 0)
set_option maxRecDepth 100000 in
theorem okJ2_checkIndex_2214a : MOK MJ2_checkIndex_2214a 2 := ⟨rfl, UU_in 392 rfl rfl, UU_in 61 (by decide +kernel) rfl, ⟨by decide +kernel, by decide +kernel, by decide +kernel⟩, by decide⟩
theorem stJ2_checkIndex_2214a : Cond.static yJ2_checkIndex_2214a ∈ UU := UU_in 391 (by decide +kernel) rfl
abbrev MJ3_checkIndex_8e157 : Mth := (yJ3_checkIndex_8e157, cJ3_checkIndex_8e157, 3, (some .int), [], 0, 0, fun _ => 0)
set_option maxRecDepth 100000 in
theorem okJ3_checkIndex_8e157 : MOK MJ3_checkIndex_8e157 3 := ⟨rfl, UU_in 386 rfl rfl, UU_in 60 (by decide +kernel) rfl, ⟨by decide +kernel, by decide +kernel, by decide +kernel⟩, by decide⟩
theorem stJ3_checkIndex_8e157 : Cond.static yJ3_checkIndex_8e157 ∈ UU := UU_in 385 (by decide +kernel) rfl
abbrev ML_addRule : Mth := (yL_addRule, cL_addRule, 6, (some .int), [((0), (12), (15), (13)), ((0), (12), (19), (15))], 0, 0, fun _ => 0)
set_option maxRecDepth 100000 in
theorem cwL_addRule : Cond.codeWith (mY ML_addRule) (mC ML_addRule) (mL ML_addRule) (mR ML_addRule) (mH ML_addRule) ∈ UU := UU_in 425 rfl rfl
theorem stL_addRule : Cond.static yL_addRule ∈ UU := UU_in 424 (by decide +kernel) rfl
abbrev ML_setAction : Mth := (yL_setAction, cL_setAction, 8, (some .int), [((0), (16), (19), (21)), ((0), (16), (23), (13))], 0, 0, fun _ => 0)
set_option maxRecDepth 100000 in
theorem cwL_setAction : Cond.codeWith (mY ML_setAction) (mC ML_setAction) (mL ML_setAction) (mR ML_setAction) (mH ML_setAction) ∈ UU := UU_in 550 rfl rfl
theorem stL_setAction : Cond.static yL_setAction ∈ UU := UU_in 549 (by decide +kernel) rfl
abbrev ML_turnMute : Mth := (yL_turnMute, cL_turnMute, 4, (some .int), [((0), (16), (19), (21))], 0, 0, fun _ => 0)
set_option maxRecDepth 100000 in
theorem cwL_turnMute : Cond.codeWith (mY ML_turnMute) (mC ML_turnMute) (mL ML_turnMute) (mR ML_turnMute) (mH ML_turnMute) ∈ UU := UU_in 582 rfl rfl
theorem stL_turnMute : Cond.static yL_turnMute ∈ UU := UU_in 581 (by decide +kernel) rfl
abbrev ML_dropRule : Mth := (yL_dropRule, cL_dropRule, 4, (some .int), [((0), (9), (12), (21))], 0, 0, fun _ => 0)
set_option maxRecDepth 100000 in
theorem cwL_dropRule : Cond.codeWith (mY ML_dropRule) (mC ML_dropRule) (mL ML_dropRule) (mR ML_dropRule) (mH ML_dropRule) ∈ UU := UU_in 589 rfl rfl
theorem stL_dropRule : Cond.static yL_dropRule ∈ UU := UU_in 588 (by decide +kernel) rfl
abbrev ML_setDepth : Mth := (yL_setDepth, cL_setDepth, 4, (some .int), [((0), (9), (12), (13))], 0, 0, fun _ => 0)
set_option maxRecDepth 100000 in
theorem cwL_setDepth : Cond.codeWith (mY ML_setDepth) (mC ML_setDepth) (mL ML_setDepth) (mR ML_setDepth) (mH ML_setDepth) ∈ UU := UU_in 616 rfl rfl
theorem stL_setDepth : Cond.static yL_setDepth ∈ UU := UU_in 615 (by decide +kernel) rfl
abbrev ML_insert : Mth := (yL_insert, cL_insert, 7, (some .int), [((0), (14), (17), (21)), ((0), (14), (21), (13)), ((0), (14), (25), (15))], 0, 0, fun _ => 0)
set_option maxRecDepth 100000 in
theorem cwL_insert : Cond.codeWith (mY ML_insert) (mC ML_insert) (mL ML_insert) (mR ML_insert) (mH ML_insert) ∈ UU := UU_in 624 rfl rfl
theorem stL_insert : Cond.static yL_insert ∈ UU := UU_in 623 (by decide +kernel) rfl
abbrev ML_update : Mth := (yL_update, cL_update, 6, (some .int), [((0), (12), (15), (21)), ((0), (12), (19), (13)), ((0), (12), (23), (15))], 0, 0, fun _ => 0)
set_option maxRecDepth 100000 in
theorem cwL_update : Cond.codeWith (mY ML_update) (mC ML_update) (mL ML_update) (mR ML_update) (mH ML_update) ∈ UU := UU_in 688 rfl rfl
theorem stL_update : Cond.static yL_update ∈ UU := UU_in 687 (by decide +kernel) rfl
abbrev ML_remove : Mth := (yL_remove, cL_remove, 4, (some .int), [((0), (9), (12), (21)), ((0), (9), (15), (15))], 0, 0, fun _ => 0)
set_option maxRecDepth 100000 in
theorem cwL_remove : Cond.codeWith (mY ML_remove) (mC ML_remove) (mL ML_remove) (mR ML_remove) (mH ML_remove) ∈ UU := UU_in 708 rfl rfl
theorem stL_remove : Cond.static yL_remove ∈ UU := UU_in 707 (by decide +kernel) rfl
abbrev ML_whyNotUpdate : Mth := (yL_whyNotUpdate, cL_whyNotUpdate, 6, (some .int), [((0), (12), (15), (21)), ((0), (12), (19), (13))], 0, 0, fun _ => 0)
set_option maxRecDepth 100000 in
theorem cwL_whyNotUpdate : Cond.codeWith (mY ML_whyNotUpdate) (mC ML_whyNotUpdate) (mL ML_whyNotUpdate) (mR ML_whyNotUpdate) (mH ML_whyNotUpdate) ∈ UU := UU_in 719 rfl rfl
theorem stL_whyNotUpdate : Cond.static yL_whyNotUpdate ∈ UU := UU_in 718 (by decide +kernel) rfl
abbrev ML_eventsOfUpdate : Mth := (yL_eventsOfUpdate, cL_eventsOfUpdate, 6, (some .int), [((0), (12), (15), (21)), ((0), (12), (19), (13))], 0, 0, fun _ => 0)
set_option maxRecDepth 100000 in
theorem cwL_eventsOfUpdate : Cond.codeWith (mY ML_eventsOfUpdate) (mC ML_eventsOfUpdate) (mL ML_eventsOfUpdate) (mR ML_eventsOfUpdate) (mH ML_eventsOfUpdate) ∈ UU := UU_in 726 rfl rfl
theorem stL_eventsOfUpdate : Cond.static yL_eventsOfUpdate ∈ UU := UU_in 725 (by decide +kernel) rfl
abbrev ML_depthOfUpdate : Mth := (yL_depthOfUpdate, cL_depthOfUpdate, 6, (some .int), [((0), (12), (15), (21)), ((0), (12), (19), (13))], 0, 0, fun _ => 0)
set_option maxRecDepth 100000 in
theorem cwL_depthOfUpdate : Cond.codeWith (mY ML_depthOfUpdate) (mC ML_depthOfUpdate) (mL ML_depthOfUpdate) (mR ML_depthOfUpdate) (mH ML_depthOfUpdate) ∈ UU := UU_in 733 rfl rfl
theorem stL_depthOfUpdate : Cond.static yL_depthOfUpdate ∈ UU := UU_in 732 (by decide +kernel) rfl
abbrev ML_hasRow : Mth := (yL_hasRow, cL_hasRow, 4, (some .int), [((0), (16), (19), (21))], 0, 0, fun _ => 0)
set_option maxRecDepth 100000 in
theorem cwL_hasRow : Cond.codeWith (mY ML_hasRow) (mC ML_hasRow) (mL ML_hasRow) (mR ML_hasRow) (mH ML_hasRow) ∈ UU := UU_in 740 rfl rfl
theorem stL_hasRow : Cond.static yL_hasRow ∈ UU := UU_in 739 (by decide +kernel) rfl
abbrev ML_valueAt : Mth := (yL_valueAt, cL_valueAt, 5, (some .int), [((0), (10), (13), (21)), ((0), (10), (17), (15))], 0, 0, fun _ => 0)
set_option maxRecDepth 100000 in
theorem cwL_valueAt : Cond.codeWith (mY ML_valueAt) (mC ML_valueAt) (mL ML_valueAt) (mR ML_valueAt) (mH ML_valueAt) ∈ UU := UU_in 748 rfl rfl
theorem stL_valueAt : Cond.static yL_valueAt ∈ UU := UU_in 747 (by decide +kernel) rfl
abbrev ML_sumOf : Mth := (yL_sumOf, cL_sumOf, 4, (some .int), [((0), (9), (12), (21))], 0, 0, fun _ => 0)
set_option maxRecDepth 100000 in
theorem cwL_sumOf : Cond.codeWith (mY ML_sumOf) (mC ML_sumOf) (mL ML_sumOf) (mR ML_sumOf) (mH ML_sumOf) ∈ UU := UU_in 757 rfl rfl
theorem stL_sumOf : Cond.static yL_sumOf ∈ UU := UU_in 756 (by decide +kernel) rfl
abbrev ML_actionOf : Mth := (yL_actionOf, cL_actionOf, 4, (some .int), [((0), (9), (12), (21))], 0, 0, fun _ => 0)
set_option maxRecDepth 100000 in
theorem cwL_actionOf : Cond.codeWith (mY ML_actionOf) (mC ML_actionOf) (mL ML_actionOf) (mR ML_actionOf) (mH ML_actionOf) ∈ UU := UU_in 764 rfl rfl
theorem stL_actionOf : Cond.static yL_actionOf ∈ UU := UU_in 763 (by decide +kernel) rfl
abbrev ML_isMuted : Mth := (yL_isMuted, cL_isMuted, 4, (some .int), [((0), (16), (19), (21))], 0, 0, fun _ => 0)
set_option maxRecDepth 100000 in
theorem cwL_isMuted : Cond.codeWith (mY ML_isMuted) (mC ML_isMuted) (mL ML_isMuted) (mR ML_isMuted) (mH ML_isMuted) ∈ UU := UU_in 771 rfl rfl
theorem stL_isMuted : Cond.static yL_isMuted ∈ UU := UU_in 770 (by decide +kernel) rfl
abbrev ML_actsOf : Mth := (yL_actsOf, cL_actsOf, 4, (some .int), [((0), (9), (12), (21))], 0, 0, fun _ => 0)
set_option maxRecDepth 100000 in
theorem cwL_actsOf : Cond.codeWith (mY ML_actsOf) (mC ML_actsOf) (mL ML_actsOf) (mR ML_actsOf) (mH ML_actsOf) ∈ UU := UU_in 778 rfl rfl
theorem stL_actsOf : Cond.static yL_actsOf ∈ UU := UU_in 777 (by decide +kernel) rfl
abbrev ML_loggedRule : Mth := (yL_loggedRule, cL_loggedRule, 4, (some .int), [((0), (9), (12), (21))], 0, 0, fun _ => 0)
set_option maxRecDepth 100000 in
theorem cwL_loggedRule : Cond.codeWith (mY ML_loggedRule) (mC ML_loggedRule) (mL ML_loggedRule) (mR ML_loggedRule) (mH ML_loggedRule) ∈ UU := UU_in 785 rfl rfl
theorem stL_loggedRule : Cond.static yL_loggedRule ∈ UU := UU_in 784 (by decide +kernel) rfl
abbrev ML_loggedDepth : Mth := (yL_loggedDepth, cL_loggedDepth, 4, (some .int), [((0), (9), (12), (21))], 0, 0, fun _ => 0)
set_option maxRecDepth 100000 in
theorem cwL_loggedDepth : Cond.codeWith (mY ML_loggedDepth) (mC ML_loggedDepth) (mL ML_loggedDepth) (mR ML_loggedDepth) (mH ML_loggedDepth) ∈ UU := UU_in 798 rfl rfl
theorem stL_loggedDepth : Cond.static yL_loggedDepth ∈ UU := UU_in 797 (by decide +kernel) rfl
abbrev ML_canSetOff : Mth := (yL_canSetOff, cL_canSetOff, 5, (some .int), [((0), (17), (20), (21))], 0, 0, fun _ => 0)
set_option maxRecDepth 100000 in
theorem cwL_canSetOff : Cond.codeWith (mY ML_canSetOff) (mC ML_canSetOff) (mL ML_canSetOff) (mR ML_canSetOff) (mH ML_canSetOff) ∈ UU := UU_in 805 rfl rfl
theorem stL_canSetOff : Cond.static yL_canSetOff ∈ UU := UU_in 804 (by decide +kernel) rfl
abbrev ML_reachOf : Mth := (yL_reachOf, cL_reachOf, 4, (some .int), [((0), (9), (12), (21))], 0, 0, fun _ => 0)
set_option maxRecDepth 100000 in
theorem cwL_reachOf : Cond.codeWith (mY ML_reachOf) (mC ML_reachOf) (mL ML_reachOf) (mR ML_reachOf) (mH ML_reachOf) ∈ UU := UU_in 813 rfl rfl
theorem stL_reachOf : Cond.static yL_reachOf ∈ UU := UU_in 812 (by decide +kernel) rfl
abbrev ML_reachByTable : Mth := (yL_reachByTable, cL_reachByTable, 4, (some .int), [((0), (9), (12), (21))], 0, 0, fun _ => 0)
set_option maxRecDepth 100000 in
theorem cwL_reachByTable : Cond.codeWith (mY ML_reachByTable) (mC ML_reachByTable) (mL ML_reachByTable) (mR ML_reachByTable) (mH ML_reachByTable) ∈ UU := UU_in 824 rfl rfl
theorem stL_reachByTable : Cond.static yL_reachByTable ∈ UU := UU_in 823 (by decide +kernel) rfl
abbrev ML_appendText : Mth := (yL_appendText, cL_appendText, 5, (some .int), [((0), (9), (12), (13)), ((0), (9), (16), (15))], 0, 0, fun _ => 0)
set_option maxRecDepth 100000 in
theorem cwL_appendText : Cond.codeWith (mY ML_appendText) (mC ML_appendText) (mL ML_appendText) (mR ML_appendText) (mH ML_appendText) ∈ UU := UU_in 831 rfl rfl
theorem stL_appendText : Cond.static yL_appendText ∈ UU := UU_in 830 (by decide +kernel) rfl
abbrev ML_runText : Mth := (yL_runText, cL_runText, 3, (some .int), [((0), (8), (11), (15))], 0, 0, fun _ => 0)
set_option maxRecDepth 100000 in
theorem cwL_runText : Cond.codeWith (mY ML_runText) (mC ML_runText) (mL ML_runText) (mR ML_runText) (mH ML_runText) ∈ UU := UU_in 851 rfl rfl
theorem stL_runText : Cond.static yL_runText ∈ UU := UU_in 850 (by decide +kernel) rfl
abbrev ML_undo : Mth := (yL_undo, cL_undo, 3, (some .int), [((0), (8), (11), (15))], 0, 0, fun _ => 0)
set_option maxRecDepth 100000 in
theorem cwL_undo : Cond.codeWith (mY ML_undo) (mC ML_undo) (mL ML_undo) (mR ML_undo) (mH ML_undo) ∈ UU := UU_in 865 rfl rfl
theorem stL_undo : Cond.static yL_undo ∈ UU := UU_in 864 (by decide +kernel) rfl
abbrev ML_saveState : Mth := (yL_saveState, cL_saveState, 4, (some .int), [((0), (9), (12), (21))], 0, 0, fun _ => 0)
set_option maxRecDepth 100000 in
theorem cwL_saveState : Cond.codeWith (mY ML_saveState) (mC ML_saveState) (mL ML_saveState) (mR ML_saveState) (mH ML_saveState) ∈ UU := UU_in 878 rfl rfl
theorem stL_saveState : Cond.static yL_saveState ∈ UU := UU_in 877 (by decide +kernel) rfl
abbrev ML_loadState : Mth := (yL_loadState, cL_loadState, 4, (some .int), [((0), (9), (12), (21)), ((0), (9), (15), (15))], 0, 0, fun _ => 0)
set_option maxRecDepth 100000 in
theorem cwL_loadState : Cond.codeWith (mY ML_loadState) (mC ML_loadState) (mL ML_loadState) (mR ML_loadState) (mH ML_loadState) ∈ UU := UU_in 889 rfl rfl
theorem stL_loadState : Cond.static yL_loadState ∈ UU := UU_in 888 (by decide +kernel) rfl
theorem okObj : Cond.instanceMethod objectInit ∈ UU := UU_in 68 (by decide +kernel) rfl
set_option maxRecDepth 100000 in
theorem coObj : Cond.code objectInit ⟨#[0xb1]⟩ 1 none ∈ UU := UU_in 69 rfl rfl
theorem st_max : Cond.static Lib.Math.max.name ∈ UU := UU_in 667 (by decide +kernel) rfl
set_option maxRecDepth 100000 in
theorem co_max : Cond.code Lib.Math.max.name Lib.Math.max.code 2 (some .int) ∈ UU := UU_in 668 rfl rfl
theorem st_min : Cond.static Lib.Math.min.name ∈ UU := UU_in 542 (by decide +kernel) rfl
set_option maxRecDepth 100000 in
theorem co_min : Cond.code Lib.Math.min.name Lib.Math.min.code 2 (some .int) ∈ UU := UU_in 543 rfl rfl
theorem in_Math : Cond.initialized "java/lang/Math" ∈ UU := UU_in 56 (by decide +kernel) rfl
theorem in_Sys : Cond.initialized "java/lang/System" ∈ UU := UU_in 55 (by decide +kernel) rfl
theorem na_copy : Cond.native arraycopyName ∈ UU := UU_in 531 (by decide +kernel) rfl
theorem st_copy : Cond.static arraycopyName ∈ UU := UU_in 530 (by decide +kernel) rfl
theorem ckL_8 : Cond.classLink RL 8 "RowTriggers" ∈ UU := UU_in 62 (by decide +kernel) rfl
theorem itX7 : Cond.instantiable RX7 7 ∈ UU := UU_in 63 (by decide +kernel) rfl
theorem iiX7 : Cond.initialized RX7 ∈ UU := UU_in 41 (by decide +kernel) rfl
theorem mkL_105 : Cond.methodLink RL 105 yX7_init ∈ UU := UU_in 64 (by decide +kernel) rfl
theorem mkX7_1 : Cond.methodLink RX7 1 objectInit ∈ UU := UU_in 67 (by decide +kernel) rfl
theorem ckX7_7 : Cond.classLink RX7 7 "RowTriggers$State" ∈ UU := UU_in 70 (by decide +kernel) rfl
theorem itX4 : Cond.instantiable RX4 7 ∈ UU := UU_in 71 (by decide +kernel) rfl
theorem iiX4 : Cond.initialized RX4 ∈ UU := UU_in 42 (by decide +kernel) rfl
theorem mkX7_9 : Cond.methodLink RX7 9 yX4_init ∈ UU := UU_in 72 (by decide +kernel) rfl
theorem mkX4_3 : Cond.methodLink RX4 3 objectInit ∈ UU := UU_in 75 (by decide +kernel) rfl
theorem ckX4_19 : Cond.classLink RX4 19 "RowTriggers$Rule" ∈ UU := UU_in 76 (by decide +kernel) rfl
theorem ckX4_25 : Cond.classLink RX4 25 "RowTriggers$Log" ∈ UU := UU_in 78 (by decide +kernel) rfl
theorem itX2 : Cond.instantiable RX2 4 ∈ UU := UU_in 79 (by decide +kernel) rfl
theorem iiX2 : Cond.initialized RX2 ∈ UU := UU_in 43 (by decide +kernel) rfl
theorem mkX4_27 : Cond.methodLinkNest RX4 27 yX2_init "RowTriggers" ∈ UN := UN_in 80 (by decide +kernel) rfl
theorem mkX2_3 : Cond.methodLink RX2 3 objectInit ∈ UU := UU_in 83 (by decide +kernel) rfl
theorem fkX2_9 : Cond.fieldLink RX2 9 "RowTriggers$Log" "rules" "[I" ∈ UU := UU_in 84 (by decide +kernel) rfl
theorem fkX7_199 : Cond.fieldLink RX7 199 "RowTriggers$Log" "rules" "[I" ∈ UU := UU_in 85 (by decide +kernel) rfl
theorem fkX2_15 : Cond.fieldLink RX2 15 "RowTriggers$Log" "depths" "[I" ∈ UU := UU_in 86 (by decide +kernel) rfl
theorem fkX7_205 : Cond.fieldLink RX7 205 "RowTriggers$Log" "depths" "[I" ∈ UU := UU_in 87 (by decide +kernel) rfl
theorem fkX2_24 : Cond.fieldLink RX2 24 "RowTriggers$Log" "size" "I" ∈ UU := UU_in 88 (by decide +kernel) rfl
theorem fkX7_191 : Cond.fieldLink RX7 191 "RowTriggers$Log" "size" "I" ∈ UU := UU_in 89 (by decide +kernel) rfl
theorem fkX2_28 : Cond.fieldLink RX2 28 "RowTriggers$Log" "latest" "I" ∈ UU := UU_in 90 (by decide +kernel) rfl
theorem ac_boolean : Cond.arrayClass .boolean ∈ UU := UU_in 100 (by decide +kernel) rfl
theorem ac_int : Cond.arrayClass .int ∈ UU := UU_in 101 (by decide +kernel) rfl
theorem itX3 : Cond.instantiable RX3 9 ∈ UU := UU_in 102 (by decide +kernel) rfl
theorem iiX3 : Cond.initialized RX3 ∈ UU := UU_in 44 (by decide +kernel) rfl
theorem mkX4_36 : Cond.methodLinkNest RX4 36 yX3_init "RowTriggers" ∈ UN := UN_in 103 (by decide +kernel) rfl
theorem mkX3_3 : Cond.methodLink RX3 3 objectInit ∈ UU := UU_in 106 (by decide +kernel) rfl
theorem fkX3_9 : Cond.fieldLink RX3 9 "RowTriggers$Rule" "event" "I" ∈ UU := UU_in 107 (by decide +kernel) rfl
theorem fkX5_125 : Cond.fieldLink RX5 125 "RowTriggers$Rule" "event" "I" ∈ UU := UU_in 108 (by decide +kernel) rfl
theorem fkX3_15 : Cond.fieldLink RX3 15 "RowTriggers$Rule" "column" "I" ∈ UU := UU_in 109 (by decide +kernel) rfl
theorem fkX5_128 : Cond.fieldLink RX5 128 "RowTriggers$Rule" "column" "I" ∈ UU := UU_in 110 (by decide +kernel) rfl
theorem fkX3_18 : Cond.fieldLink RX3 18 "RowTriggers$Rule" "least" "I" ∈ UU := UU_in 111 (by decide +kernel) rfl
theorem fkX5_131 : Cond.fieldLink RX5 131 "RowTriggers$Rule" "least" "I" ∈ UU := UU_in 112 (by decide +kernel) rfl
theorem fkX3_21 : Cond.fieldLink RX3 21 "RowTriggers$Rule" "action" "I" ∈ UU := UU_in 113 (by decide +kernel) rfl
theorem fkX7_98 : Cond.fieldLink RX7 98 "RowTriggers$Rule" "action" "I" ∈ UU := UU_in 114 (by decide +kernel) rfl
theorem fkX5_109 : Cond.fieldLink RX5 109 "RowTriggers$Rule" "action" "I" ∈ UU := UU_in 115 (by decide +kernel) rfl
theorem fkX3_24 : Cond.fieldLink RX3 24 "RowTriggers$Rule" "targetRow" "I" ∈ UU := UU_in 116 (by decide +kernel) rfl
theorem fkX7_101 : Cond.fieldLink RX7 101 "RowTriggers$Rule" "targetRow" "I" ∈ UU := UU_in 117 (by decide +kernel) rfl
theorem fkX5_106 : Cond.fieldLink RX5 106 "RowTriggers$Rule" "targetRow" "I" ∈ UU := UU_in 118 (by decide +kernel) rfl
theorem fkX3_27 : Cond.fieldLink RX3 27 "RowTriggers$Rule" "targetColumn" "I" ∈ UU := UU_in 119 (by decide +kernel) rfl
theorem fkX7_104 : Cond.fieldLink RX7 104 "RowTriggers$Rule" "targetColumn" "I" ∈ UU := UU_in 120 (by decide +kernel) rfl
theorem fkX5_112 : Cond.fieldLink RX5 112 "RowTriggers$Rule" "targetColumn" "I" ∈ UU := UU_in 121 (by decide +kernel) rfl
theorem fkX3_30 : Cond.fieldLink RX3 30 "RowTriggers$Rule" "amount" "I" ∈ UU := UU_in 122 (by decide +kernel) rfl
theorem fkX7_107 : Cond.fieldLink RX7 107 "RowTriggers$Rule" "amount" "I" ∈ UU := UU_in 123 (by decide +kernel) rfl
theorem fkX5_115 : Cond.fieldLink RX5 115 "RowTriggers$Rule" "amount" "I" ∈ UU := UU_in 124 (by decide +kernel) rfl
theorem fkX3_33 : Cond.fieldLink RX3 33 "RowTriggers$Rule" "muted" "Z" ∈ UU := UU_in 125 (by decide +kernel) rfl
theorem fkX7_110 : Cond.fieldLink RX7 110 "RowTriggers$Rule" "muted" "Z" ∈ UU := UU_in 126 (by decide +kernel) rfl
theorem fkX5_121 : Cond.fieldLink RX5 121 "RowTriggers$Rule" "muted" "Z" ∈ UU := UU_in 127 (by decide +kernel) rfl
theorem fkX3_37 : Cond.fieldLink RX3 37 "RowTriggers$Rule" "acts" "I" ∈ UU := UU_in 128 (by decide +kernel) rfl
theorem fkX7_114 : Cond.fieldLink RX7 114 "RowTriggers$Rule" "acts" "I" ∈ UU := UU_in 129 (by decide +kernel) rfl
theorem fkX5_92 : Cond.fieldLink RX5 92 "RowTriggers$Rule" "acts" "I" ∈ UU := UU_in 130 (by decide +kernel) rfl
theorem fkX4_9 : Cond.fieldLink RX4 9 "RowTriggers$State" "there" "[Z" ∈ UU := UU_in 150 (by decide +kernel) rfl
theorem fkX5_39 : Cond.fieldLink RX5 39 "RowTriggers$State" "there" "[Z" ∈ UU := UU_in 151 (by decide +kernel) rfl
theorem fkX4_15 : Cond.fieldLink RX4 15 "RowTriggers$State" "values" "[I" ∈ UU := UU_in 152 (by decide +kernel) rfl
theorem fkX5_43 : Cond.fieldLink RX5 43 "RowTriggers$State" "values" "[I" ∈ UU := UU_in 153 (by decide +kernel) rfl
theorem fkX7_178 : Cond.fieldLink RX7 178 "RowTriggers$State" "values" "[I" ∈ UU := UU_in 154 (by decide +kernel) rfl
theorem fkX4_21 : Cond.fieldLink RX4 21 "RowTriggers$State" "rules" "[LRowTriggers$Rule;" ∈ UU := UU_in 155 (by decide +kernel) rfl
theorem fkX0_21 : Cond.fieldLink RX0 21 "RowTriggers$State" "rules" "[LRowTriggers$Rule;" ∈ UU := UU_in 156 (by decide +kernel) rfl
theorem fkX7_79 : Cond.fieldLink RX7 79 "RowTriggers$State" "rules" "[LRowTriggers$Rule;" ∈ UU := UU_in 157 (by decide +kernel) rfl
theorem fkX5_88 : Cond.fieldLink RX5 88 "RowTriggers$State" "rules" "[LRowTriggers$Rule;" ∈ UU := UU_in 158 (by decide +kernel) rfl
theorem fkX4_28 : Cond.fieldLink RX4 28 "RowTriggers$State" "log" "LRowTriggers$Log;" ∈ UU := UU_in 159 (by decide +kernel) rfl
theorem fkX5_97 : Cond.fieldLink RX5 97 "RowTriggers$State" "log" "LRowTriggers$Log;" ∈ UU := UU_in 160 (by decide +kernel) rfl
theorem fkX7_187 : Cond.fieldLink RX7 187 "RowTriggers$State" "log" "LRowTriggers$Log;" ∈ UU := UU_in 161 (by decide +kernel) rfl
theorem fkX0_15 : Cond.fieldLink RX0 15 "RowTriggers$State" "rulesUsed" "I" ∈ UU := UU_in 162 (by decide +kernel) rfl
theorem fkX7_66 : Cond.fieldLink RX7 66 "RowTriggers$State" "rulesUsed" "I" ∈ UU := UU_in 163 (by decide +kernel) rfl
theorem fkX4_43 : Cond.fieldLink RX4 43 "RowTriggers$State" "rulesUsed" "I" ∈ UU := UU_in 164 (by decide +kernel) rfl
theorem fkX5_81 : Cond.fieldLink RX5 81 "RowTriggers$State" "rulesUsed" "I" ∈ UU := UU_in 165 (by decide +kernel) rfl
theorem fkX4_32 : Cond.fieldLink RX4 32 "RowTriggers$State" "depth" "I" ∈ UU := UU_in 166 (by decide +kernel) rfl
theorem fkX5_61 : Cond.fieldLink RX5 61 "RowTriggers$State" "depth" "I" ∈ UU := UU_in 167 (by decide +kernel) rfl
theorem fkX7_122 : Cond.fieldLink RX7 122 "RowTriggers$State" "depth" "I" ∈ UU := UU_in 168 (by decide +kernel) rfl
theorem fkX4_53 : Cond.fieldLink RX4 53 "RowTriggers$State" "events" "I" ∈ UU := UU_in 169 (by decide +kernel) rfl
theorem fkX5_75 : Cond.fieldLink RX5 75 "RowTriggers$State" "events" "I" ∈ UU := UU_in 170 (by decide +kernel) rfl
theorem fkX7_186 : Cond.fieldLink RX7 186 "RowTriggers$State" "events" "I" ∈ UU := UU_in 171 (by decide +kernel) rfl
theorem ckX7_16 : Cond.classLink RX7 16 "RowTriggers$Statement" ∈ UU := UU_in 187 (by decide +kernel) rfl
theorem itX5 : Cond.instantiable RX5 4 ∈ UU := UU_in 188 (by decide +kernel) rfl
theorem iiX5 : Cond.initialized RX5 ∈ UU := UU_in 45 (by decide +kernel) rfl
theorem mkX7_18 : Cond.methodLinkNest RX7 18 yX5_init "RowTriggers" ∈ UN := UN_in 189 (by decide +kernel) rfl
theorem mkX5_3 : Cond.methodLink RX5 3 objectInit ∈ UU := UU_in 192 (by decide +kernel) rfl
theorem ckX5_9 : Cond.classLink RX5 9 "RowTriggers$State" ∈ UU := UU_in 193 (by decide +kernel) rfl
theorem mkX5_11 : Cond.methodLink RX5 11 yX4_init ∈ UU := UU_in 194 (by decide +kernel) rfl
theorem fkX5_12 : Cond.fieldLink RX5 12 "RowTriggers$Statement" "state" "LRowTriggers$State;" ∈ UU := UU_in 195 (by decide +kernel) rfl
theorem fkX7_164 : Cond.fieldLink RX7 164 "RowTriggers$Statement" "state" "LRowTriggers$State;" ∈ UU := UU_in 196 (by decide +kernel) rfl
theorem fkX5_22 : Cond.fieldLink RX5 22 "RowTriggers$Statement" "events" "I" ∈ UU := UU_in 197 (by decide +kernel) rfl
theorem fkX7_149 : Cond.fieldLink RX7 149 "RowTriggers$Statement" "events" "I" ∈ UU := UU_in 198 (by decide +kernel) rfl
theorem fkX5_26 : Cond.fieldLink RX5 26 "RowTriggers$Statement" "deepest" "I" ∈ UU := UU_in 199 (by decide +kernel) rfl
theorem fkX7_152 : Cond.fieldLink RX7 152 "RowTriggers$Statement" "deepest" "I" ∈ UU := UU_in 200 (by decide +kernel) rfl
theorem fkX5_29 : Cond.fieldLink RX5 29 "RowTriggers$Statement" "refusal" "I" ∈ UU := UU_in 201 (by decide +kernel) rfl
theorem fkX7_146 : Cond.fieldLink RX7 146 "RowTriggers$Statement" "refusal" "I" ∈ UU := UU_in 202 (by decide +kernel) rfl
theorem ckX7_23 : Cond.classLink RX7 23 "RowTriggers$Chains" ∈ UU := UU_in 212 (by decide +kernel) rfl
theorem itX0 : Cond.instantiable RX0 1 ∈ UU := UU_in 213 (by decide +kernel) rfl
theorem iiX0 : Cond.initialized RX0 ∈ UU := UU_in 46 (by decide +kernel) rfl
theorem mkX7_25 : Cond.methodLinkNest RX7 25 yX0_init "RowTriggers" ∈ UN := UN_in 214 (by decide +kernel) rfl
theorem mkX0_3 : Cond.methodLink RX0 3 objectInit ∈ UU := UU_in 217 (by decide +kernel) rfl
theorem fkX0_9 : Cond.fieldLink RX0 9 "RowTriggers$Chains" "table" "[I" ∈ UU := UU_in 218 (by decide +kernel) rfl
theorem fkX7_219 : Cond.fieldLink RX7 219 "RowTriggers$Chains" "table" "[I" ∈ UU := UU_in 219 (by decide +kernel) rfl
theorem ckX7_30 : Cond.classLink RX7 30 "RowTriggers$Text" ∈ UU := UU_in 223 (by decide +kernel) rfl
theorem itX6 : Cond.instantiable RX6 5 ∈ UU := UU_in 224 (by decide +kernel) rfl
theorem iiX6 : Cond.initialized RX6 ∈ UU := UU_in 47 (by decide +kernel) rfl
theorem mkX7_32 : Cond.methodLinkNest RX7 32 yX6_init "RowTriggers" ∈ UN := UN_in 225 (by decide +kernel) rfl
theorem mkX6_3 : Cond.methodLink RX6 3 objectInit ∈ UU := UU_in 228 (by decide +kernel) rfl
theorem fkX6_9 : Cond.fieldLink RX6 9 "RowTriggers$Text" "signs" "[C" ∈ UU := UU_in 229 (by decide +kernel) rfl
theorem fkX6_19 : Cond.fieldLink RX6 19 "RowTriggers$Text" "length" "I" ∈ UU := UU_in 230 (by decide +kernel) rfl
theorem fkX7_228 : Cond.fieldLink RX7 228 "RowTriggers$Text" "length" "I" ∈ UU := UU_in 231 (by decide +kernel) rfl
theorem fkX6_23 : Cond.fieldLink RX6 23 "RowTriggers$Text" "at" "I" ∈ UU := UU_in 232 (by decide +kernel) rfl
theorem fkX7_246 : Cond.fieldLink RX7 246 "RowTriggers$Text" "at" "I" ∈ UU := UU_in 233 (by decide +kernel) rfl
theorem fkX6_34 : Cond.fieldLink RX6 34 "RowTriggers$Text" "command" "C" ∈ UU := UU_in 234 (by decide +kernel) rfl
theorem fkX7_263 : Cond.fieldLink RX7 263 "RowTriggers$Text" "command" "C" ∈ UU := UU_in 235 (by decide +kernel) rfl
theorem fkX6_15 : Cond.fieldLink RX6 15 "RowTriggers$Text" "numbers" "[I" ∈ UU := UU_in 236 (by decide +kernel) rfl
theorem fkX7_260 : Cond.fieldLink RX7 260 "RowTriggers$Text" "numbers" "[I" ∈ UU := UU_in 237 (by decide +kernel) rfl
theorem ac_char : Cond.arrayClass .char ∈ UU := UU_in 249 (by decide +kernel) rfl
theorem ckX7_37 : Cond.classLink RX7 37 "RowTriggers$History" ∈ UU := UU_in 250 (by decide +kernel) rfl
theorem itX1 : Cond.instantiable RX1 3 ∈ UU := UU_in 251 (by decide +kernel) rfl
theorem iiX1 : Cond.initialized RX1 ∈ UU := UU_in 48 (by decide +kernel) rfl
theorem mkX7_39 : Cond.methodLink RX7 39 yX1_init ∈ UU := UU_in 252 (by decide +kernel) rfl
theorem mkX1_3 : Cond.methodLink RX1 3 objectInit ∈ UU := UU_in 255 (by decide +kernel) rfl
theorem ckX1_9 : Cond.classLink RX1 9 "RowTriggers$State" ∈ UU := UU_in 256 (by decide +kernel) rfl
theorem mkX1_17 : Cond.methodLink RX1 17 yX4_init ∈ UU := UU_in 258 (by decide +kernel) rfl
theorem fkX1_11 : Cond.fieldLink RX1 11 "RowTriggers$History" "states" "[LRowTriggers$State;" ∈ UU := UU_in 259 (by decide +kernel) rfl
theorem fkX1_26 : Cond.fieldLink RX1 26 "RowTriggers$History" "size" "I" ∈ UU := UU_in 260 (by decide +kernel) rfl
theorem fkX7_269 : Cond.fieldLink RX7 269 "RowTriggers$History" "size" "I" ∈ UU := UU_in 261 (by decide +kernel) rfl
theorem fkX1_18 : Cond.fieldLink RX1 18 "RowTriggers$History" "next" "I" ∈ UU := UU_in 262 (by decide +kernel) rfl
theorem fkX7_10 : Cond.fieldLink RX7 10 "RowTriggers" "now" "LRowTriggers$State;" ∈ UU := UU_in 270 (by decide +kernel) rfl
theorem fkX7_19 : Cond.fieldLink RX7 19 "RowTriggers" "trial" "LRowTriggers$Statement;" ∈ UU := UU_in 271 (by decide +kernel) rfl
theorem fkX7_26 : Cond.fieldLink RX7 26 "RowTriggers" "chains" "LRowTriggers$Chains;" ∈ UU := UU_in 272 (by decide +kernel) rfl
theorem fkX7_33 : Cond.fieldLink RX7 33 "RowTriggers" "text" "LRowTriggers$Text;" ∈ UU := UU_in 273 (by decide +kernel) rfl
theorem fkX7_40 : Cond.fieldLink RX7 40 "RowTriggers" "history" "LRowTriggers$History;" ∈ UU := UU_in 274 (by decide +kernel) rfl
theorem fkX7_44 : Cond.fieldLink RX7 44 "RowTriggers" "slots" "[LRowTriggers$State;" ∈ UU := UU_in 275 (by decide +kernel) rfl
theorem fkX7_48 : Cond.fieldLink RX7 48 "RowTriggers" "slotIsFilled" "[Z" ∈ UU := UU_in 276 (by decide +kernel) rfl
theorem mkL_154 : Cond.methodLink RL 154 yX7_rowCount ∈ UU := UU_in 292 (by decide +kernel) rfl
theorem mkX7_173 : Cond.methodLink RX7 173 yX4_rowsThere ∈ UU := UU_in 296 (by decide +kernel) rfl
theorem mkL_165 : Cond.methodLink RL 165 yX7_ruleCount ∈ UU := UU_in 300 (by decide +kernel) rfl
theorem mkL_178 : Cond.methodLink RL 178 yX7_eventCount ∈ UU := UU_in 304 (by decide +kernel) rfl
theorem mkL_182 : Cond.methodLink RL 182 yX7_logSize ∈ UU := UU_in 308 (by decide +kernel) rfl
theorem mkL_201 : Cond.methodLink RL 201 yX7_circularRules ∈ UU := UU_in 312 (by decide +kernel) rfl
theorem mkX7_216 : Cond.methodLink RX7 216 yX0_fillTable ∈ UU := UU_in 316 (by decide +kernel) rfl
theorem mkX0_31 : Cond.methodLink RX0 31 yX0_nextOf ∈ UU := UU_in 320 (by decide +kernel) rfl
theorem mkX0_25 : Cond.methodLink RX0 25 yX3_setsOff ∈ UU := UU_in 323 (by decide +kernel) rfl
theorem mkL_211 : Cond.methodLink RL 211 yX7_clearText ∈ UU := UU_in 327 (by decide +kernel) rfl
theorem mkL_215 : Cond.methodLink RL 215 yX7_textLength ∈ UU := UU_in 331 (by decide +kernel) rfl
theorem mkL_219 : Cond.methodLink RL 219 yX7_textError ∈ UU := UU_in 335 (by decide +kernel) rfl
theorem mkX7_241 : Cond.methodLink RX7 241 yX6_firstError ∈ UU := UU_in 339 (by decide +kernel) rfl
theorem mkX6_26 : Cond.methodLink RX6 26 yX6_readCommand ∈ UU := UU_in 343 (by decide +kernel) rfl
theorem mkX6_38 : Cond.methodLink RX6 38 yX6_formOf ∈ UU := UU_in 347 (by decide +kernel) rfl
theorem mkX6_42 : Cond.methodLink RX6 42 yJ0_isEmpty_aae02 ∈ UU := UU_in 354 (by decide +kernel) rfl
theorem mkX6_47 : Cond.methodLink RX6 47 yJ0_length_8abf5 ∈ UU := UU_in 358 (by decide +kernel) rfl
theorem mkJ0_335 : Cond.methodLink RJ0 335 yJ0_coder_7d493 ∈ UU := UU_in 362 (by decide +kernel) rfl
theorem fkJ0_38 : Cond.fieldLink RJ0 38 "java/lang/String" "COMPACT_STRINGS" "Z" ∈ UU := UU_in 366 (by decide +kernel) rfl
theorem mkX6_50 : Cond.methodLink RX6 50 yJ0_charAt_5068e ∈ UU := UU_in 368 (by decide +kernel) rfl
theorem mkJ0_492 : Cond.methodLink RJ0 492 yJ0_isLatin1_aae02 ∈ UU := UU_in 372 (by decide +kernel) rfl
theorem mkJ0_495 : Cond.methodLink RJ0 495 yJ1_charAt_3b067 ∈ UU := UU_in 376 (by decide +kernel) rfl
theorem mkJ1_9 : Cond.methodLink RJ1 9 yJ0_checkIndex_df160 ∈ UU := UU_in 379 (by decide +kernel) rfl
theorem fkJ0_1053 : Cond.fieldLink RJ0 1053 "jdk/internal/util/Preconditions" "SIOOBE_FORMATTER" "Ljava/util/function/BiFunction;" ∈ UU := UU_in 382 (by decide +kernel) rfl
theorem mkJ0_1059 : Cond.methodLink RJ0 1059 yJ3_checkIndex_8e157 ∈ UU := UU_in 384 (by decide +kernel) rfl
theorem mkJ0_498 : Cond.methodLink RJ0 498 yJ2_charAt_3b067 ∈ UU := UU_in 387 (by decide +kernel) rfl
theorem mkJ2_67 : Cond.methodLink RJ2 67 yJ2_checkIndex_2214a ∈ UU := UU_in 390 (by decide +kernel) rfl
theorem mkJ2_48 : Cond.methodLink RJ2 48 yJ2_length_9d52b ∈ UU := UU_in 393 (by decide +kernel) rfl
theorem mkJ2_414 : Cond.methodLink RJ2 414 yJ0_checkIndex_df160 ∈ UU := UU_in 396 (by decide +kernel) rfl
theorem mkJ2_71 : Cond.methodLink RJ2 71 yJ2_getChar_3b067 ∈ UU := UU_in 397 (by decide +kernel) rfl
theorem fkJ2_44 : Cond.fieldLink RJ2 44 "java/lang/StringUTF16" "$assertionsDisabled" "Z" ∈ UU := UU_in 400 (by decide +kernel) rfl
theorem fkJ2_59 : Cond.fieldLink RJ2 59 "java/lang/StringUTF16" "HI_BYTE_SHIFT" "I" ∈ UU := UU_in 402 (by decide +kernel) rfl
theorem fkJ2_63 : Cond.fieldLink RJ2 63 "java/lang/StringUTF16" "LO_BYTE_SHIFT" "I" ∈ UU := UU_in 404 (by decide +kernel) rfl
theorem mkX6_54 : Cond.methodLink RX6 54 yX6_readNumber ∈ UU := UU_in 406 (by decide +kernel) rfl
theorem mkX6_66 : Cond.methodLink RX6 66 yX6_isDigitNext ∈ UU := UU_in 410 (by decide +kernel) rfl
theorem mkX6_30 : Cond.methodLink RX6 30 yX6_readSign ∈ UU := UU_in 414 (by decide +kernel) rfl
theorem mkL_230 : Cond.methodLink RL 230 yX7_undoCount ∈ UU := UU_in 419 (by decide +kernel) rfl
theorem mkL_109 : Cond.methodLink RL 109 yL_addRule ∈ UU := UU_in 423 (by decide +kernel) rfl
theorem ckL_13 : Cond.classLink RL 13 "java/lang/IllegalArgumentException" ∈ UU := UU_in 426 (by decide +kernel) rfl
theorem ckL_15 : Cond.classLink RL 15 "java/lang/IllegalStateException" ∈ UU := UU_in 427 (by decide +kernel) rfl
theorem mkL_7 : Cond.methodLink RL 7 yX7_addRule ∈ UU := UU_in 428 (by decide +kernel) rfl
theorem mkX7_52 : Cond.methodLink RX7 52 yX7_isColumn ∈ UU := UU_in 432 (by decide +kernel) rfl
theorem mkX7_56 : Cond.methodLink RX7 56 yX7_isValue ∈ UU := UU_in 435 (by decide +kernel) rfl
theorem ckX7_59 : Cond.classLink RX7 59 "java/lang/IllegalArgumentException" ∈ UU := UU_in 438 (by decide +kernel) rfl
theorem ckX7_70 : Cond.classLink RX7 70 "java/lang/IllegalStateException" ∈ UU := UU_in 505 (by decide +kernel) rfl
theorem mkX7_75 : Cond.methodLink RX7 75 yX1_keep ∈ UU := UU_in 521 (by decide +kernel) rfl
theorem mkX1_22 : Cond.methodLink RX1 22 yX4_copyFrom ∈ UU := UU_in 525 (by decide +kernel) rfl
theorem mkX4_37 : Cond.methodLink RX4 37 arraycopyName ∈ UU := UU_in 529 (by decide +kernel) rfl
theorem mkX4_46 : Cond.methodLink RX4 46 yX3_copyFrom ∈ UU := UU_in 532 (by decide +kernel) rfl
theorem mkX4_50 : Cond.methodLink RX4 50 yX2_copyFrom ∈ UU := UU_in 536 (by decide +kernel) rfl
theorem mkX2_18 : Cond.methodLink RX2 18 arraycopyName ∈ UU := UU_in 540 (by decide +kernel) rfl
theorem mkX1_29 : Cond.methodLink RX1 29 yJ9_min_7cf53 ∈ UU := UU_in 541 (by decide +kernel) rfl
theorem mkX7_83 : Cond.methodLink RX7 83 yX3_start ∈ UU := UU_in 544 (by decide +kernel) rfl
theorem mkL_118 : Cond.methodLink RL 118 yL_setAction ∈ UU := UU_in 548 (by decide +kernel) rfl
theorem ckL_21 : Cond.classLink RL 21 "java/lang/IndexOutOfBoundsException" ∈ UU := UU_in 551 (by decide +kernel) rfl
theorem mkL_17 : Cond.methodLink RL 17 yX7_setAction ∈ UU := UU_in 552 (by decide +kernel) rfl
theorem mkX7_89 : Cond.methodLink RX7 89 yX7_checkRule ∈ UU := UU_in 556 (by decide +kernel) rfl
theorem ckX7_280 : Cond.classLink RX7 280 "java/lang/IndexOutOfBoundsException" ∈ UU := UU_in 560 (by decide +kernel) rfl
theorem mkX7_93 : Cond.methodLink RX7 93 yX7_isRow ∈ UU := UU_in 576 (by decide +kernel) rfl
theorem mkL_122 : Cond.methodLink RL 122 yL_turnMute ∈ UU := UU_in 580 (by decide +kernel) rfl
theorem mkL_23 : Cond.methodLink RL 23 yX7_turnMute ∈ UU := UU_in 583 (by decide +kernel) rfl
theorem mkL_126 : Cond.methodLink RL 126 yL_dropRule ∈ UU := UU_in 587 (by decide +kernel) rfl
theorem mkL_27 : Cond.methodLink RL 27 yX7_dropRule ∈ UU := UU_in 590 (by decide +kernel) rfl
theorem mkX7_117 : Cond.methodLink RX7 117 yX4_takeRuleAway ∈ UU := UU_in 594 (by decide +kernel) rfl
theorem mkX4_60 : Cond.methodLink RX4 60 yX2_forget ∈ UU := UU_in 598 (by decide +kernel) rfl
theorem mkX2_40 : Cond.methodLink RX2 40 yX2_placeOf ∈ UU := UU_in 602 (by decide +kernel) rfl
theorem mkX2_31 : Cond.methodLink RX2 31 yJ9_floorMod_7cf53 ∈ UU := UU_in 606 (by decide +kernel) rfl
theorem mkX2_44 : Cond.methodLink RX2 44 yX2_note ∈ UU := UU_in 609 (by decide +kernel) rfl
theorem mkX2_37 : Cond.methodLink RX2 37 yJ9_min_7cf53 ∈ UU := UU_in 613 (by decide +kernel) rfl
theorem mkL_129 : Cond.methodLink RL 129 yL_setDepth ∈ UU := UU_in 614 (by decide +kernel) rfl
theorem mkL_31 : Cond.methodLink RL 31 yX7_setDepth ∈ UU := UU_in 617 (by decide +kernel) rfl
theorem mkL_132 : Cond.methodLink RL 132 yL_insert ∈ UU := UU_in 622 (by decide +kernel) rfl
theorem mkL_34 : Cond.methodLink RL 34 yX7_insert ∈ UU := UU_in 625 (by decide +kernel) rfl
theorem mkX7_125 : Cond.methodLink RX7 125 yX7_checkRow ∈ UU := UU_in 629 (by decide +kernel) rfl
theorem mkX7_128 : Cond.methodLink RX7 128 yX7_checkValue ∈ UU := UU_in 633 (by decide +kernel) rfl
theorem mkX7_131 : Cond.methodLink RX7 131 yX5_putIn ∈ UU := UU_in 637 (by decide +kernel) rfl
theorem mkX5_32 : Cond.methodLink RX5 32 yX5_begin ∈ UU := UU_in 641 (by decide +kernel) rfl
theorem mkX5_18 : Cond.methodLink RX5 18 yX4_copyFrom ∈ UU := UU_in 645 (by decide +kernel) rfl
theorem mkX5_35 : Cond.methodLinkNest RX5 35 yX7_isRow "RowTriggers" ∈ UN := UN_in 646 (by decide +kernel) rfl
theorem mkX5_47 : Cond.methodLinkNest RX5 47 yX7_cell "RowTriggers" ∈ UN := UN_in 647 (by decide +kernel) rfl
theorem mkX5_51 : Cond.methodLink RX5 51 yX5_happen ∈ UU := UU_in 650 (by decide +kernel) rfl
theorem mkX5_64 : Cond.methodLink RX5 64 yX5_matchingRules ∈ UU := UU_in 654 (by decide +kernel) rfl
theorem mkX5_68 : Cond.methodLink RX5 68 yX5_hasRefusing ∈ UU := UU_in 658 (by decide +kernel) rfl
theorem mkX5_71 : Cond.methodLink RX5 71 yX5_alterTable ∈ UU := UU_in 662 (by decide +kernel) rfl
theorem mkX5_76 : Cond.methodLink RX5 76 yJ9_max_7cf53 ∈ UU := UU_in 666 (by decide +kernel) rfl
theorem mkX5_84 : Cond.methodLink RX5 84 yX5_act ∈ UU := UU_in 669 (by decide +kernel) rfl
theorem mkX5_101 : Cond.methodLink RX5 101 yX2_note ∈ UU := UU_in 673 (by decide +kernel) rfl
theorem mkX5_55 : Cond.methodLink RX5 55 yX4_isThere ∈ UU := UU_in 674 (by decide +kernel) rfl
theorem mkX4_56 : Cond.methodLinkNest RX4 56 yX7_isRow "RowTriggers" ∈ UN := UN_in 678 (by decide +kernel) rfl
theorem mkX5_118 : Cond.methodLinkNest RX5 118 yX7_isValue "RowTriggers" ∈ UN := UN_in 679 (by decide +kernel) rfl
theorem mkX7_135 : Cond.methodLink RX7 135 yX7_finishStatement ∈ UU := UU_in 680 (by decide +kernel) rfl
theorem mkX7_167 : Cond.methodLink RX7 167 yX4_copyFrom ∈ UU := UU_in 685 (by decide +kernel) rfl
theorem mkL_136 : Cond.methodLink RL 136 yL_update ∈ UU := UU_in 686 (by decide +kernel) rfl
theorem mkL_38 : Cond.methodLink RL 38 yX7_update ∈ UU := UU_in 689 (by decide +kernel) rfl
theorem mkX7_139 : Cond.methodLink RX7 139 yX7_tryUpdate ∈ UU := UU_in 693 (by decide +kernel) rfl
theorem mkX7_155 : Cond.methodLink RX7 155 yX7_checkColumn ∈ UU := UU_in 697 (by decide +kernel) rfl
theorem mkX7_158 : Cond.methodLink RX7 158 yX5_change ∈ UU := UU_in 701 (by decide +kernel) rfl
theorem mkX5_58 : Cond.methodLinkNest RX5 58 yX7_isColumn "RowTriggers" ∈ UN := UN_in 705 (by decide +kernel) rfl
theorem mkL_139 : Cond.methodLink RL 139 yL_remove ∈ UU := UU_in 706 (by decide +kernel) rfl
theorem mkL_41 : Cond.methodLink RL 41 yX7_remove ∈ UU := UU_in 709 (by decide +kernel) rfl
theorem mkX7_142 : Cond.methodLink RX7 142 yX5_takeOut ∈ UU := UU_in 713 (by decide +kernel) rfl
theorem mkL_142 : Cond.methodLink RL 142 yL_whyNotUpdate ∈ UU := UU_in 717 (by decide +kernel) rfl
theorem mkL_44 : Cond.methodLink RL 44 yX7_whyNotUpdate ∈ UU := UU_in 720 (by decide +kernel) rfl
theorem mkL_145 : Cond.methodLink RL 145 yL_eventsOfUpdate ∈ UU := UU_in 724 (by decide +kernel) rfl
theorem mkL_47 : Cond.methodLink RL 47 yX7_eventsOfUpdate ∈ UU := UU_in 727 (by decide +kernel) rfl
theorem mkL_148 : Cond.methodLink RL 148 yL_depthOfUpdate ∈ UU := UU_in 731 (by decide +kernel) rfl
theorem mkL_50 : Cond.methodLink RL 50 yX7_depthOfUpdate ∈ UU := UU_in 734 (by decide +kernel) rfl
theorem mkL_151 : Cond.methodLink RL 151 yL_hasRow ∈ UU := UU_in 738 (by decide +kernel) rfl
theorem mkL_53 : Cond.methodLink RL 53 yX7_hasRow ∈ UU := UU_in 741 (by decide +kernel) rfl
theorem mkX7_170 : Cond.methodLink RX7 170 yX4_isThere ∈ UU := UU_in 745 (by decide +kernel) rfl
theorem mkL_158 : Cond.methodLink RL 158 yL_valueAt ∈ UU := UU_in 746 (by decide +kernel) rfl
theorem mkL_56 : Cond.methodLink RL 56 yX7_valueAt ∈ UU := UU_in 749 (by decide +kernel) rfl
theorem mkX7_182 : Cond.methodLink RX7 182 yX7_cell ∈ UU := UU_in 754 (by decide +kernel) rfl
theorem mkL_162 : Cond.methodLink RL 162 yL_sumOf ∈ UU := UU_in 755 (by decide +kernel) rfl
theorem mkL_60 : Cond.methodLink RL 60 yX7_sumOf ∈ UU := UU_in 758 (by decide +kernel) rfl
theorem mkL_169 : Cond.methodLink RL 169 yL_actionOf ∈ UU := UU_in 762 (by decide +kernel) rfl
theorem mkL_63 : Cond.methodLink RL 63 yX7_actionOf ∈ UU := UU_in 765 (by decide +kernel) rfl
theorem mkL_172 : Cond.methodLink RL 172 yL_isMuted ∈ UU := UU_in 769 (by decide +kernel) rfl
theorem mkL_66 : Cond.methodLink RL 66 yX7_isMuted ∈ UU := UU_in 772 (by decide +kernel) rfl
theorem mkL_175 : Cond.methodLink RL 175 yL_actsOf ∈ UU := UU_in 776 (by decide +kernel) rfl
theorem mkL_69 : Cond.methodLink RL 69 yX7_actsOf ∈ UU := UU_in 779 (by decide +kernel) rfl
theorem mkL_186 : Cond.methodLink RL 186 yL_loggedRule ∈ UU := UU_in 783 (by decide +kernel) rfl
theorem mkL_72 : Cond.methodLink RL 72 yX7_loggedRule ∈ UU := UU_in 786 (by decide +kernel) rfl
theorem mkX7_196 : Cond.methodLink RX7 196 yX7_checkAgo ∈ UU := UU_in 790 (by decide +kernel) rfl
theorem mkX7_201 : Cond.methodLink RX7 201 yX2_placeOf ∈ UU := UU_in 795 (by decide +kernel) rfl
theorem mkL_189 : Cond.methodLink RL 189 yL_loggedDepth ∈ UU := UU_in 796 (by decide +kernel) rfl
theorem mkL_75 : Cond.methodLink RL 75 yX7_loggedDepth ∈ UU := UU_in 799 (by decide +kernel) rfl
theorem mkL_192 : Cond.methodLink RL 192 yL_canSetOff ∈ UU := UU_in 803 (by decide +kernel) rfl
theorem mkL_78 : Cond.methodLink RL 78 yX7_canSetOff ∈ UU := UU_in 806 (by decide +kernel) rfl
theorem mkX7_208 : Cond.methodLink RX7 208 yX3_setsOff ∈ UU := UU_in 810 (by decide +kernel) rfl
theorem mkL_195 : Cond.methodLink RL 195 yL_reachOf ∈ UU := UU_in 811 (by decide +kernel) rfl
theorem mkL_82 : Cond.methodLink RL 82 yX7_reachOf ∈ UU := UU_in 814 (by decide +kernel) rfl
theorem mkX7_212 : Cond.methodLink RX7 212 yX0_search ∈ UU := UU_in 818 (by decide +kernel) rfl
theorem mkL_198 : Cond.methodLink RL 198 yL_reachByTable ∈ UU := UU_in 822 (by decide +kernel) rfl
theorem mkL_85 : Cond.methodLink RL 85 yX7_reachByTable ∈ UU := UU_in 825 (by decide +kernel) rfl
theorem mkL_207 : Cond.methodLink RL 207 yL_appendText ∈ UU := UU_in 829 (by decide +kernel) rfl
theorem mkL_88 : Cond.methodLink RL 88 yX7_appendText ∈ UU := UU_in 832 (by decide +kernel) rfl
theorem mkX7_222 : Cond.methodLink RX7 222 yX7_charactersIn ∈ UU := UU_in 836 (by decide +kernel) rfl
theorem mkX7_233 : Cond.methodLink RX7 233 yX7_codeOf ∈ UU := UU_in 839 (by decide +kernel) rfl
theorem lkX7_267 : Cond.constantLong RX7 267 (255 : Int64) ∈ UU := UU_in 842 (by decide +kernel) rfl
theorem mkX7_237 : Cond.methodLink RX7 237 yX6_append ∈ UU := UU_in 845 (by decide +kernel) rfl
theorem mkL_223 : Cond.methodLink RL 223 yL_runText ∈ UU := UU_in 849 (by decide +kernel) rfl
theorem mkL_92 : Cond.methodLink RL 92 yX7_runText ∈ UU := UU_in 852 (by decide +kernel) rfl
theorem mkX7_249 : Cond.methodLink RX7 249 yX6_readCommand ∈ UU := UU_in 857 (by decide +kernel) rfl
theorem mkX7_253 : Cond.methodLink RX7 253 yX7_execute ∈ UU := UU_in 858 (by decide +kernel) rfl
theorem mkX7_256 : Cond.methodLink RX7 256 yX6_readSign ∈ UU := UU_in 862 (by decide +kernel) rfl
theorem mkL_227 : Cond.methodLink RL 227 yL_undo ∈ UU := UU_in 863 (by decide +kernel) rfl
theorem mkL_96 : Cond.methodLink RL 96 yX7_undo ∈ UU := UU_in 866 (by decide +kernel) rfl
theorem mkX7_272 : Cond.methodLink RX7 272 yX1_takeBack ∈ UU := UU_in 871 (by decide +kernel) rfl
theorem mkX1_35 : Cond.methodLink RX1 35 yJ9_floorMod_7cf53 ∈ UU := UU_in 875 (by decide +kernel) rfl
theorem mkL_234 : Cond.methodLink RL 234 yL_saveState ∈ UU := UU_in 876 (by decide +kernel) rfl
theorem mkL_99 : Cond.methodLink RL 99 yX7_saveState ∈ UU := UU_in 879 (by decide +kernel) rfl
theorem mkX7_275 : Cond.methodLink RX7 275 yX7_checkSlot ∈ UU := UU_in 883 (by decide +kernel) rfl
theorem mkL_237 : Cond.methodLink RL 237 yL_loadState ∈ UU := UU_in 887 (by decide +kernel) rfl
theorem mkL_102 : Cond.methodLink RL 102 yX7_loadState ∈ UU := UU_in 890 (by decide +kernel) rfl
theorem ckL_106 : Cond.classLink RL 106 "RowTriggersModel" ∈ UU := UU_in 895 (by decide +kernel) rfl
theorem itX8 : Cond.instantiable RX8 22 ∈ UU := UU_in 896 (by decide +kernel) rfl
theorem iiX8 : Cond.initialized RX8 ∈ UU := UU_in 49 (by decide +kernel) rfl
theorem mkL_108 : Cond.methodLink RL 108 yX8_init ∈ UU := UU_in 897 (by decide +kernel) rfl
theorem mkX8_1 : Cond.methodLink RX8 1 objectInit ∈ UU := UU_in 900 (by decide +kernel) rfl
theorem fkX8_28 : Cond.fieldLink RX8 28 "RowTriggersModel" "thrown" "I" ∈ UU := UU_in 901 (by decide +kernel) rfl
theorem fkX8_7 : Cond.fieldLink RX8 7 "RowTriggersModel" "s" "[I" ∈ UU := UU_in 902 (by decide +kernel) rfl
theorem fkX8_13 : Cond.fieldLink RX8 13 "RowTriggersModel" "aside" "[I" ∈ UU := UU_in 903 (by decide +kernel) rfl
theorem fkX8_16 : Cond.fieldLink RX8 16 "RowTriggersModel" "history" "[I" ∈ UU := UU_in 904 (by decide +kernel) rfl
theorem fkX8_36 : Cond.fieldLink RX8 36 "RowTriggersModel" "known" "I" ∈ UU := UU_in 905 (by decide +kernel) rfl
theorem fkX8_19 : Cond.fieldLink RX8 19 "RowTriggersModel" "slots" "[I" ∈ UU := UU_in 906 (by decide +kernel) rfl
theorem fkX8_185 : Cond.fieldLink RX8 185 "RowTriggersModel" "kept" "I" ∈ UU := UU_in 907 (by decide +kernel) rfl
theorem fkX8_22 : Cond.fieldLink RX8 22 "RowTriggersModel" "text" "[I" ∈ UU := UU_in 908 (by decide +kernel) rfl
theorem fkX8_141 : Cond.fieldLink RX8 141 "RowTriggersModel" "length" "I" ∈ UU := UU_in 909 (by decide +kernel) rfl
theorem fkX8_25 : Cond.fieldLink RX8 25 "RowTriggersModel" "waiting" "[I" ∈ UU := UU_in 910 (by decide +kernel) rfl
theorem fkX8_62 : Cond.fieldLink RX8 62 "RowTriggersModel" "depth" "I" ∈ UU := UU_in 911 (by decide +kernel) rfl
theorem fkX8_65 : Cond.fieldLink RX8 65 "RowTriggersModel" "deepest" "I" ∈ UU := UU_in 912 (by decide +kernel) rfl
theorem fkX8_52 : Cond.fieldLink RX8 52 "RowTriggersModel" "happened" "I" ∈ UU := UU_in 913 (by decide +kernel) rfl
theorem fkX8_59 : Cond.fieldLink RX8 59 "RowTriggersModel" "refused" "I" ∈ UU := UU_in 914 (by decide +kernel) rfl
theorem fkX8_148 : Cond.fieldLink RX8 148 "RowTriggersModel" "spot" "I" ∈ UU := UU_in 915 (by decide +kernel) rfl
theorem fkX8_144 : Cond.fieldLink RX8 144 "RowTriggersModel" "isWrong" "Z" ∈ UU := UU_in 916 (by decide +kernel) rfl
theorem fkX8_154 : Cond.fieldLink RX8 154 "RowTriggersModel" "sign" "I" ∈ UU := UU_in 917 (by decide +kernel) rfl
theorem fkX8_157 : Cond.fieldLink RX8 157 "RowTriggersModel" "line" "I" ∈ UU := UU_in 918 (by decide +kernel) rfl
theorem fkX8_163 : Cond.fieldLink RX8 163 "RowTriggersModel" "one" "I" ∈ UU := UU_in 919 (by decide +kernel) rfl
theorem fkX8_166 : Cond.fieldLink RX8 166 "RowTriggersModel" "two" "I" ∈ UU := UU_in 920 (by decide +kernel) rfl
theorem fkX8_169 : Cond.fieldLink RX8 169 "RowTriggersModel" "three" "I" ∈ UU := UU_in 921 (by decide +kernel) rfl
theorem fkX8_172 : Cond.fieldLink RX8 172 "RowTriggersModel" "done" "I" ∈ UU := UU_in 922 (by decide +kernel) rfl
theorem mkL_115 : Cond.methodLink RL 115 yX8_thrown ∈ UU := UU_in 968 (by decide +kernel) rfl
theorem mkL_114 : Cond.methodLink RL 114 yX8_addRule ∈ UU := UU_in 972 (by decide +kernel) rfl
theorem mkX8_32 : Cond.methodLink RX8 32 yX8_in ∈ UU := UU_in 976 (by decide +kernel) rfl
theorem mkX8_94 : Cond.methodLink RX8 94 yX8_isColumn ∈ UU := UU_in 979 (by decide +kernel) rfl
theorem mkX8_76 : Cond.methodLink RX8 76 yX8_isValue ∈ UU := UU_in 982 (by decide +kernel) rfl
theorem mkX8_97 : Cond.methodLink RX8 97 yX8_holds ∈ UU := UU_in 985 (by decide +kernel) rfl
theorem mkX8_100 : Cond.methodLink RX8 100 yX8_record ∈ UU := UU_in 989 (by decide +kernel) rfl
theorem mkX8_39 : Cond.methodLink RX8 39 yX8_putAside ∈ UU := UU_in 993 (by decide +kernel) rfl
theorem mkX8_42 : Cond.methodLink RX8 42 yX8_recordAside ∈ UU := UU_in 997 (by decide +kernel) rfl
theorem mkL_121 : Cond.methodLink RL 121 yX8_setAction ∈ UU := UU_in 1001 (by decide +kernel) rfl
theorem mkX8_103 : Cond.methodLink RX8 103 yX8_isRule ∈ UU := UU_in 1005 (by decide +kernel) rfl
theorem mkX8_106 : Cond.methodLink RX8 106 yX8_isRow ∈ UU := UU_in 1009 (by decide +kernel) rfl
theorem mkL_125 : Cond.methodLink RL 125 yX8_turnMute ∈ UU := UU_in 1012 (by decide +kernel) rfl
theorem mkL_128 : Cond.methodLink RL 128 yX8_dropRule ∈ UU := UU_in 1016 (by decide +kernel) rfl
theorem mkX8_45 : Cond.methodLink RX8 45 yX8_at ∈ UU := UU_in 1020 (by decide +kernel) rfl
theorem mkL_131 : Cond.methodLink RL 131 yX8_setDepth ∈ UU := UU_in 1024 (by decide +kernel) rfl
theorem mkL_135 : Cond.methodLink RL 135 yX8_insert ∈ UU := UU_in 1028 (by decide +kernel) rfl
theorem mkX8_109 : Cond.methodLink RX8 109 yX8_inserts ∈ UU := UU_in 1032 (by decide +kernel) rfl
theorem mkX8_49 : Cond.methodLink RX8 49 yX8_of ∈ UU := UU_in 1036 (by decide +kernel) rfl
theorem mkX8_90 : Cond.methodLink RX8 90 yX8_states ∈ UU := UU_in 1039 (by decide +kernel) rfl
theorem mkX8_72 : Cond.methodLink RX8 72 yX8_begins ∈ UU := UU_in 1043 (by decide +kernel) rfl
theorem mkX8_55 : Cond.methodLink RX8 55 yX8_matching ∈ UU := UU_in 1047 (by decide +kernel) rfl
theorem mkX8_83 : Cond.methodLink RX8 83 yX8_follows ∈ UU := UU_in 1051 (by decide +kernel) rfl
theorem mkX8_80 : Cond.methodLink RX8 80 yX8_acts ∈ UU := UU_in 1055 (by decide +kernel) rfl
theorem mkX8_68 : Cond.methodLink RX8 68 yX8_logs ∈ UU := UU_in 1059 (by decide +kernel) rfl
theorem mkX8_87 : Cond.methodLink RX8 87 yX8_putBack ∈ UU := UU_in 1063 (by decide +kernel) rfl
theorem mkL_138 : Cond.methodLink RL 138 yX8_update ∈ UU := UU_in 1067 (by decide +kernel) rfl
theorem mkX8_112 : Cond.methodLink RX8 112 yX8_updates ∈ UU := UU_in 1071 (by decide +kernel) rfl
theorem mkL_141 : Cond.methodLink RL 141 yX8_remove ∈ UU := UU_in 1075 (by decide +kernel) rfl
theorem mkX8_115 : Cond.methodLink RX8 115 yX8_removes ∈ UU := UU_in 1079 (by decide +kernel) rfl
theorem mkL_144 : Cond.methodLink RL 144 yX8_whyNotUpdate ∈ UU := UU_in 1083 (by decide +kernel) rfl
theorem mkX8_118 : Cond.methodLink RX8 118 yX8_triesUpdate ∈ UU := UU_in 1087 (by decide +kernel) rfl
theorem mkL_147 : Cond.methodLink RL 147 yX8_eventsOfUpdate ∈ UU := UU_in 1091 (by decide +kernel) rfl
theorem mkL_150 : Cond.methodLink RL 150 yX8_depthOfUpdate ∈ UU := UU_in 1095 (by decide +kernel) rfl
theorem mkL_153 : Cond.methodLink RL 153 yX8_hasRow ∈ UU := UU_in 1099 (by decide +kernel) rfl
theorem mkL_157 : Cond.methodLink RL 157 yX8_rowCount ∈ UU := UU_in 1103 (by decide +kernel) rfl
theorem mkX8_121 : Cond.methodLink RX8 121 yX8_rowsNow ∈ UU := UU_in 1107 (by decide +kernel) rfl
theorem mkL_161 : Cond.methodLink RL 161 yX8_valueAt ∈ UU := UU_in 1111 (by decide +kernel) rfl
theorem mkL_164 : Cond.methodLink RL 164 yX8_sumOf ∈ UU := UU_in 1115 (by decide +kernel) rfl
theorem mkL_168 : Cond.methodLink RL 168 yX8_ruleCount ∈ UU := UU_in 1119 (by decide +kernel) rfl
theorem mkL_171 : Cond.methodLink RL 171 yX8_actionOf ∈ UU := UU_in 1123 (by decide +kernel) rfl
theorem mkL_174 : Cond.methodLink RL 174 yX8_isMuted ∈ UU := UU_in 1127 (by decide +kernel) rfl
theorem mkL_177 : Cond.methodLink RL 177 yX8_actsOf ∈ UU := UU_in 1131 (by decide +kernel) rfl
theorem mkL_181 : Cond.methodLink RL 181 yX8_eventCount ∈ UU := UU_in 1135 (by decide +kernel) rfl
theorem mkL_185 : Cond.methodLink RL 185 yX8_logSize ∈ UU := UU_in 1139 (by decide +kernel) rfl
theorem mkL_188 : Cond.methodLink RL 188 yX8_loggedRule ∈ UU := UU_in 1143 (by decide +kernel) rfl
theorem mkL_191 : Cond.methodLink RL 191 yX8_loggedDepth ∈ UU := UU_in 1147 (by decide +kernel) rfl
theorem mkL_194 : Cond.methodLink RL 194 yX8_canSetOff ∈ UU := UU_in 1151 (by decide +kernel) rfl
theorem mkX8_125 : Cond.methodLink RX8 125 yX8_setsOff ∈ UU := UU_in 1155 (by decide +kernel) rfl
theorem mkL_197 : Cond.methodLink RL 197 yX8_reachOf ∈ UU := UU_in 1159 (by decide +kernel) rfl
theorem mkX8_133 : Cond.methodLink RX8 133 yX8_reach ∈ UU := UU_in 1163 (by decide +kernel) rfl
theorem mkX8_129 : Cond.methodLink RX8 129 yX8_straight ∈ UU := UU_in 1167 (by decide +kernel) rfl
theorem mkL_200 : Cond.methodLink RL 200 yX8_reachByTable ∈ UU := UU_in 1171 (by decide +kernel) rfl
theorem mkX8_136 : Cond.methodLink RX8 136 yX8_reachOf ∈ UU := UU_in 1175 (by decide +kernel) rfl
theorem mkL_204 : Cond.methodLink RL 204 yX8_circularRules ∈ UU := UU_in 1176 (by decide +kernel) rfl
theorem mkL_210 : Cond.methodLink RL 210 yX8_appendText ∈ UU := UU_in 1180 (by decide +kernel) rfl
theorem lkX8_139 : Cond.constantLong RX8 139 (255 : Int64) ∈ UU := UU_in 1184 (by decide +kernel) rfl
theorem mkL_214 : Cond.methodLink RL 214 yX8_clearText ∈ UU := UU_in 1185 (by decide +kernel) rfl
theorem mkL_218 : Cond.methodLink RL 218 yX8_textLength ∈ UU := UU_in 1189 (by decide +kernel) rfl
theorem mkL_222 : Cond.methodLink RL 222 yX8_textError ∈ UU := UU_in 1193 (by decide +kernel) rfl
theorem mkX8_181 : Cond.methodLink RX8 181 yX8_goesThrough ∈ UU := UU_in 1197 (by decide +kernel) rfl
theorem mkX8_175 : Cond.methodLink RX8 175 yX8_readCommand ∈ UU := UU_in 1201 (by decide +kernel) rfl
theorem mkX8_151 : Cond.methodLink RX8 151 yX8_takes ∈ UU := UU_in 1205 (by decide +kernel) rfl
theorem mkX8_160 : Cond.methodLink RX8 160 yX8_number ∈ UU := UU_in 1209 (by decide +kernel) rfl
theorem mkX8_178 : Cond.methodLink RX8 178 yX8_does ∈ UU := UU_in 1213 (by decide +kernel) rfl
theorem mkL_226 : Cond.methodLink RL 226 yX8_runText ∈ UU := UU_in 1217 (by decide +kernel) rfl
theorem mkL_229 : Cond.methodLink RL 229 yX8_undo ∈ UU := UU_in 1221 (by decide +kernel) rfl
theorem mkL_233 : Cond.methodLink RL 233 yX8_undoCount ∈ UU := UU_in 1225 (by decide +kernel) rfl
theorem mkL_236 : Cond.methodLink RL 236 yX8_saveState ∈ UU := UU_in 1229 (by decide +kernel) rfl
theorem mkL_239 : Cond.methodLink RL 239 yX8_loadState ∈ UU := UU_in 1233 (by decide +kernel) rfl
theorem lkL_205 : Cond.constantLong RL 205 (4294967295 : Int64) ∈ UU := UU_in 1237 (by decide +kernel) rfl
theorem ac_long : Cond.arrayClass .long ∈ UU := UU_in 1238 (by decide +kernel) rfl
theorem fkJ0_9 : Cond.fieldLink RJ0 9 "java/lang/String" "value" "[B" ∈ UU := UU_in 1240 (by decide +kernel) rfl
theorem fkJ0_15 : Cond.fieldLink RJ0 15 "java/lang/String" "coder" "B" ∈ UU := UU_in 1241 (by decide +kernel) rfl
theorem aoX3 (G : PG) (U : State) (h : OW G U) : va_AO "RowTriggers$Rule" U := h.2.2.2.2.2.2.2.2.1
theorem aoX4 (G : PG) (U : State) (h : OW G U) : va_AO "RowTriggers$State" U := h.2.2.2.2.2.2.2.2.2
abbrev EIAE : String := "java/lang/IllegalArgumentException"
set_option maxRecDepth 100000 in
theorem twIAE : TW 63 EIAE := ⟨by decide +kernel, UU_in 53 (by decide +kernel) rfl, by decide +kernel⟩
theorem caIAE : Cond.castable EIAE EIAE ∈ UN := UN_in 440 (by decide +kernel) rfl
abbrev EISE : String := "java/lang/IllegalStateException"
set_option maxRecDepth 100000 in
theorem twISE : TW 74 EISE := ⟨by decide +kernel, UU_in 54 (by decide +kernel) rfl, by decide +kernel⟩
theorem caISE : Cond.castable EISE EISE ∈ UN := UN_in 507 (by decide +kernel) rfl
abbrev EIOE : String := "java/lang/IndexOutOfBoundsException"
set_option maxRecDepth 100000 in
theorem twIOE : TW 284 EIOE := ⟨by decide +kernel, UU_in 57 (by decide +kernel) rfl, by decide +kernel⟩
theorem caIOE : Cond.castable EIOE EIOE ∈ UN := UN_in 562 (by decide +kernel) rfl
end
section
/-! ===== THE WORLD: ten states (block b at 16 b: 0 now, 1 the trial's, 2..7 the history's, 8 and 9 the slots'), the class's other cells, the model's, the law's out ===== -/
/-- a state: there, values, rules (nine numbers each), log's rules, log's depths, log's numbers (0 size, 1 latest), numbers (0 rulesUsed, 1 depth, 2 events) -/
abbrev SS : Type := (Nat → Int32) × (Nat → Int32) × (Nat → Nat → Int32) × (Nat → Int32) × (Nat → Int32) × (Nat → Int32) × (Nat → Int32)
abbrev sTh (σ : SS) : Nat → Int32 := σ.1
abbrev sVa (σ : SS) : Nat → Int32 := σ.2.1
abbrev sRu (σ : SS) : Nat → Nat → Int32 := σ.2.2.1
abbrev sLr (σ : SS) : Nat → Int32 := σ.2.2.2.1
abbrev sLd (σ : SS) : Nat → Int32 := σ.2.2.2.2.1
abbrev sLs (σ : SS) : Nat → Int32 := σ.2.2.2.2.2.1
abbrev sSc (σ : SS) : Nat → Int32 := σ.2.2.2.2.2.2
/-- the class: the states; the statement's numbers (0 events, 1 deepest, 2 refusal); the chains' table; the text's signs, numbers (0 length, 1 at, 2 command) and row of numbers; the history's numbers (0 size, 1 next); slotIsFilled -/
abbrev CW : Type := (Nat → SS) × (Nat → Int32) × (Nat → Int32) × (Nat → Int32) × (Nat → Int32) × (Nat → Int32) × (Nat → Int32) × (Nat → Int32)
abbrev cSt (w : CW) : Nat → SS := w.1
abbrev cSm (w : CW) : Nat → Int32 := w.2.1
abbrev cCt (w : CW) : Nat → Int32 := w.2.2.1
abbrev cSg (w : CW) : Nat → Int32 := w.2.2.2.1
abbrev cTx (w : CW) : Nat → Int32 := w.2.2.2.2.1
abbrev cNu (w : CW) : Nat → Int32 := w.2.2.2.2.2.1
abbrev cHi (w : CW) : Nat → Int32 := w.2.2.2.2.2.2.1
abbrev cSf (w : CW) : Nat → Int32 := w.2.2.2.2.2.2.2
/-- the model: s, aside, history, slots, text, waiting; its fields by their places -/
abbrev MW : Type := (Nat → Int32) × (Nat → Int32) × (Nat → Int32) × (Nat → Int32) × (Nat → Int32) × (Nat → Int32) × (Nat → Int32)
abbrev mS (m : MW) : Nat → Int32 := m.1
abbrev mA (m : MW) : Nat → Int32 := m.2.1
abbrev mHi (m : MW) : Nat → Int32 := m.2.2.1
abbrev mSl (m : MW) : Nat → Int32 := m.2.2.2.1
abbrev mTx (m : MW) : Nat → Int32 := m.2.2.2.2.1
abbrev mWa (m : MW) : Nat → Int32 := m.2.2.2.2.2.1
abbrev mF (m : MW) : Nat → Int32 := m.2.2.2.2.2.2
abbrev XW : Type := CW × MW × (Nat → Int64)
def uS1 (σ : SS) (f : Nat → Int32) : SS := (f, σ.2)
def uS2 (σ : SS) (f : Nat → Int32) : SS := (σ.1, f, σ.2.2)
def uS3 (σ : SS) (f : Nat → Nat → Int32) : SS := (σ.1, σ.2.1, f, σ.2.2.2)
def uS4 (σ : SS) (f : Nat → Int32) : SS := (σ.1, σ.2.1, σ.2.2.1, f, σ.2.2.2.2)
def uS5 (σ : SS) (f : Nat → Int32) : SS := (σ.1, σ.2.1, σ.2.2.1, σ.2.2.2.1, f, σ.2.2.2.2.2)
def uS6 (σ : SS) (f : Nat → Int32) : SS := (σ.1, σ.2.1, σ.2.2.1, σ.2.2.2.1, σ.2.2.2.2.1, f, σ.2.2.2.2.2.2)
def uS7 (σ : SS) (f : Nat → Int32) : SS := (σ.1, σ.2.1, σ.2.2.1, σ.2.2.2.1, σ.2.2.2.2.1, σ.2.2.2.2.2.1, f)
def upS (f : Nat → SS) (b : Nat) (σ : SS) : Nat → SS := fun j => if j = b then σ else f j
def upR (f : Nat → Nat → Int32) (i : Nat) (r : Nat → Int32) : Nat → Nat → Int32 := fun j => if j = i then r else f j
def uC1 (x : XW) (b : Nat) (σ : SS) : XW := ((upS x.1.1 b σ, x.1.2), x.2)
def uC2 (x : XW) (f : Nat → Int32) : XW := ((x.1.1, f, x.1.2.2), x.2)
def uC3 (x : XW) (f : Nat → Int32) : XW := ((x.1.1, x.1.2.1, f, x.1.2.2.2), x.2)
def uC4 (x : XW) (f : Nat → Int32) : XW := ((x.1.1, x.1.2.1, x.1.2.2.1, f, x.1.2.2.2.2), x.2)
def uC5 (x : XW) (f : Nat → Int32) : XW := ((x.1.1, x.1.2.1, x.1.2.2.1, x.1.2.2.2.1, f, x.1.2.2.2.2.2), x.2)
def uC6 (x : XW) (f : Nat → Int32) : XW := ((x.1.1, x.1.2.1, x.1.2.2.1, x.1.2.2.2.1, x.1.2.2.2.2.1, f, x.1.2.2.2.2.2.2), x.2)
def uC7 (x : XW) (f : Nat → Int32) : XW := ((x.1.1, x.1.2.1, x.1.2.2.1, x.1.2.2.2.1, x.1.2.2.2.2.1, x.1.2.2.2.2.2.1, f, x.1.2.2.2.2.2.2.2), x.2)
def uC8 (x : XW) (f : Nat → Int32) : XW := ((x.1.1, x.1.2.1, x.1.2.2.1, x.1.2.2.2.1, x.1.2.2.2.2.1, x.1.2.2.2.2.2.1, x.1.2.2.2.2.2.2.1, f), x.2)
def uM1 (x : XW) (f : Nat → Int32) : XW := (x.1, (f, x.2.1.2), x.2.2)
def uM2 (x : XW) (f : Nat → Int32) : XW := (x.1, (x.2.1.1, f, x.2.1.2.2), x.2.2)
def uM3 (x : XW) (f : Nat → Int32) : XW := (x.1, (x.2.1.1, x.2.1.2.1, f, x.2.1.2.2.2), x.2.2)
def uM4 (x : XW) (f : Nat → Int32) : XW := (x.1, (x.2.1.1, x.2.1.2.1, x.2.1.2.2.1, f, x.2.1.2.2.2.2), x.2.2)
def uM5 (x : XW) (f : Nat → Int32) : XW := (x.1, (x.2.1.1, x.2.1.2.1, x.2.1.2.2.1, x.2.1.2.2.2.1, f, x.2.1.2.2.2.2.2), x.2.2)
def uM6 (x : XW) (f : Nat → Int32) : XW := (x.1, (x.2.1.1, x.2.1.2.1, x.2.1.2.2.1, x.2.1.2.2.2.1, x.2.1.2.2.2.2.1, f, x.2.1.2.2.2.2.2.2), x.2.2)
def uM7 (x : XW) (f : Nat → Int32) : XW := (x.1, (x.2.1.1, x.2.1.2.1, x.2.1.2.2.1, x.2.1.2.2.2.1, x.2.1.2.2.2.2.1, x.2.1.2.2.2.2.2.1, f), x.2.2)
def uO (x : XW) (f : Nat → Int64) : XW := (x.1, x.2.1, f)
def iA (f : Nat → Int32) : Nat → Value := fun j => .int (f j)
/-- the cell o of the block b -/
def stc (b o : Nat) (σ : SS) : Option Cel :=
  if o = 0 then some (.inr (4, fun k => if k = 0 then .ref (16 * b + 1) else if k = 1 then .ref (16 * b + 2) else if k = 2 then .ref (16 * b + 3) else if k = 3 then .ref (16 * b + 4) else .int (sSc σ (k - 4))))
  else if o = 1 then some (.inl (.boolean, 6, iA (sTh σ)))
  else if o = 2 then some (.inl (.int, 18, iA (sVa σ)))
  else if o = 3 then some (.inl (.object "RowTriggers$Rule", 8, fun j => .ref (16 * b + (7 + j))))
  else if o = 4 then some (.inr (2, fun k => if k = 0 then .ref (16 * b + 5) else if k = 1 then .ref (16 * b + 6) else .int (sLs σ (k - 2))))
  else if o = 5 then some (.inl (.int, 16, iA (sLr σ)))
  else if o = 6 then some (.inl (.int, 16, iA (sLd σ)))
  else if o < 15 then some (.inr (3, fun k => .int (sRu σ (o - 7) k)))
  else none
/-- the other cells, from 160 on -/
def otc (o : Nat) (x : XW) : Option Cel :=
  if o = 0 then some (.inr (7, fun k => if k = 0 then .ref (16 * 0) else if k = 1 then .ref 161 else if k = 2 then .ref 162 else if k = 3 then .ref 164 else if k = 4 then .ref 167 else if k = 5 then .ref 169 else .ref 170))
  else if o = 1 then some (.inr (5, fun k => if k = 0 then .ref (16 * 1) else .int (cSm x.1 (k - 1))))
  else if o = 2 then some (.inr (0, fun _ => .ref 163))
  else if o = 3 then some (.inl (.int, 8, iA (cCt x.1)))
  else if o = 4 then some (.inr (6, fun k => if k = 0 then .ref 165 else if k = 4 then .ref 166 else .int (cTx x.1 (k - 1))))
  else if o = 5 then some (.inl (.char, 80, iA (cSg x.1)))
  else if o = 6 then some (.inl (.int, 4, iA (cNu x.1)))
  else if o = 7 then some (.inr (1, fun k => if k = 0 then .ref 168 else .int (cHi x.1 (k - 1))))
  else if o = 8 then some (.inl (.object "RowTriggers$State", 6, fun j => .ref (16 * (2 + j))))
  else if o = 9 then some (.inl (.object "RowTriggers$State", 2, fun j => .ref (16 * (8 + j))))
  else if o = 10 then some (.inl (.boolean, 2, iA (cSf x.1)))
  else if o = 11 then some (.inr (8, fun k => if k = 1 then .ref 172 else if k = 2 then .ref 173 else if k = 3 then .ref 174 else if k = 5 then .ref 175 else if k = 7 then .ref 176 else if k = 9 then .ref 177 else .int (mF x.2.1 k)))
  else if o = 12 then some (.inl (.int, 132, iA (mS x.2.1)))
  else if o = 13 then some (.inl (.int, 132, iA (mA x.2.1)))
  else if o = 14 then some (.inl (.int, 792, iA (mHi x.2.1)))
  else if o = 15 then some (.inl (.int, 264, iA (mSl x.2.1)))
  else if o = 16 then some (.inl (.int, 80, iA (mTx x.2.1)))
  else if o = 17 then some (.inl (.int, 6, iA (mWa x.2.1)))
  else if o = 18 then some (.inl (.long, 1, fun j => .long (x.2.2 j)))
  else none
def hp (x : XW) : Hp := (none, fun k => if k < 160 then stc (k / 16) (k % 16) (cSt x.1 (k / 16)) else otc (k - 160) x)
theorem hp_st (x : XW) {b o : Nat} (hb : b < 10) (ho : o < 16) : (hp x).2 (16 * b + o) = stc b o (cSt x.1 b) := by
  show (if 16 * b + o < 160 then stc ((16 * b + o) / 16) ((16 * b + o) % 16) (cSt x.1 ((16 * b + o) / 16)) else _) = _
  rw [if_pos (by omega), show (16 * b + o) / 16 = b by omega, show (16 * b + o) % 16 = o by omega]
theorem hp_ot (x : XW) (o : Nat) : (hp x).2 (160 + o) = otc o x := by
  show (if 160 + o < 160 then _ else otc (160 + o - 160) x) = _
  rw [if_neg (by omega), show 160 + o - 160 = o by omega]
/-- a change in a block -/
theorem hp_us (x : XW) {b o : Nat} {c : Cel} (σ : SS) (hb : b < 10) (ho : o < 16) (hc : stc b o σ = some c) (hk : ∀ j, j < 16 → j ≠ o → stc b j σ = stc b j (cSt x.1 b)) : upH (hp x) (16 * b + o) c = hp (uC1 x b σ) := by
  refine Prod.ext rfl (funext fun k => ?_)
  show (if k = 16 * b + o then some c else (hp x).2 k) = (if k < 160 then stc (k / 16) (k % 16) (upS (cSt x.1) b σ (k / 16)) else otc (k - 160) (uC1 x b σ))
  by_cases e : k = 16 * b + o
  · rw [if_pos e, if_pos (by omega), show k / 16 = b by omega, show k % 16 = o by omega, upS, if_pos rfl, hc]
  · rw [if_neg e]
    show (if k < 160 then stc (k / 16) (k % 16) (cSt x.1 (k / 16)) else otc (k - 160) x) = _
    by_cases e2 : k < 160
    · rw [if_pos e2, if_pos e2]
      by_cases e3 : k / 16 = b
      · rw [e3, upS, if_pos rfl, hk _ (by omega) (by omega)]
      · rw [upS, if_neg e3]
    · rw [if_neg e2, if_neg e2]
      rfl
/-- a change elsewhere -/
theorem hp_uo {x y : XW} {o : Nat} {c : Cel} (hs : ∀ b, cSt y.1 b = cSt x.1 b) (hc : otc o y = some c) (hk : ∀ j, j ≠ o → otc j y = otc j x) : upH (hp x) (160 + o) c = hp y := by
  refine Prod.ext rfl (funext fun k => ?_)
  show (if k = 160 + o then some c else (hp x).2 k) = (if k < 160 then stc (k / 16) (k % 16) (cSt y.1 (k / 16)) else otc (k - 160) y)
  by_cases e : k = 160 + o
  · rw [if_pos e, if_neg (by omega), show k - 160 = o by omega, hc]
  · rw [if_neg e]
    show (if k < 160 then stc (k / 16) (k % 16) (cSt x.1 (k / 16)) else otc (k - 160) x) = _
    by_cases e2 : k < 160
    · rw [if_pos e2, if_pos e2, hs]
    · rw [if_neg e2, if_neg e2, hk _ (by omega)]

theorem narI (G : PG) (x : Int32) : narrow .int (cv G (.int x)) = cv G (.int x) ∧ fits .int (cv G (.int x)) = true := ⟨rfl, rfl⟩
section PWD
variable {M : Mth} {d n pc : Nat} {ls : List (Option Value)} {st : List Value} {x : XW} {Q : Out → Hp → Prop}
theorem g4_there {idx : Nat} {b : Nat} (hb : b < 10) (hd : decode (mC M) pc = .ok (.getfield idx, 3)) (hlk : Cond.fieldLink (mY M).cls idx "RowTriggers$State" "there" "[Z" ∈ UU) (kk : PW M d n (pc + 3) ls (.ref (16 * b + 1) :: st) (hp x) Q) : PW M d n pc ls (.ref (16 * b) :: st) (hp x) Q :=
  pw_getfield (k := 0) clX4 hd (hp_st x hb (by decide : 0 < 16)) (by decide) hlk kk
theorem g4_values {idx : Nat} {b : Nat} (hb : b < 10) (hd : decode (mC M) pc = .ok (.getfield idx, 3)) (hlk : Cond.fieldLink (mY M).cls idx "RowTriggers$State" "values" "[I" ∈ UU) (kk : PW M d n (pc + 3) ls (.ref (16 * b + 2) :: st) (hp x) Q) : PW M d n pc ls (.ref (16 * b) :: st) (hp x) Q :=
  pw_getfield (k := 1) clX4 hd (hp_st x hb (by decide : 0 < 16)) (by decide) hlk kk
theorem g4_rules {idx : Nat} {b : Nat} (hb : b < 10) (hd : decode (mC M) pc = .ok (.getfield idx, 3)) (hlk : Cond.fieldLink (mY M).cls idx "RowTriggers$State" "rules" "[LRowTriggers$Rule;" ∈ UU) (kk : PW M d n (pc + 3) ls (.ref (16 * b + 3) :: st) (hp x) Q) : PW M d n pc ls (.ref (16 * b) :: st) (hp x) Q :=
  pw_getfield (k := 2) clX4 hd (hp_st x hb (by decide : 0 < 16)) (by decide) hlk kk
theorem g4_log {idx : Nat} {b : Nat} (hb : b < 10) (hd : decode (mC M) pc = .ok (.getfield idx, 3)) (hlk : Cond.fieldLink (mY M).cls idx "RowTriggers$State" "log" "LRowTriggers$Log;" ∈ UU) (kk : PW M d n (pc + 3) ls (.ref (16 * b + 4) :: st) (hp x) Q) : PW M d n pc ls (.ref (16 * b) :: st) (hp x) Q :=
  pw_getfield (k := 3) clX4 hd (hp_st x hb (by decide : 0 < 16)) (by decide) hlk kk
theorem g4_rulesUsed {idx : Nat} {b : Nat} (hb : b < 10) (hd : decode (mC M) pc = .ok (.getfield idx, 3)) (hlk : Cond.fieldLink (mY M).cls idx "RowTriggers$State" "rulesUsed" "I" ∈ UU) (kk : PW M d n (pc + 3) ls (.int (sSc (cSt x.1 b) 0) :: st) (hp x) Q) : PW M d n pc ls (.ref (16 * b) :: st) (hp x) Q :=
  pw_getfield (k := 4) clX4 hd (hp_st x hb (by decide : 0 < 16)) (by decide) hlk kk
theorem g4_depth {idx : Nat} {b : Nat} (hb : b < 10) (hd : decode (mC M) pc = .ok (.getfield idx, 3)) (hlk : Cond.fieldLink (mY M).cls idx "RowTriggers$State" "depth" "I" ∈ UU) (kk : PW M d n (pc + 3) ls (.int (sSc (cSt x.1 b) 1) :: st) (hp x) Q) : PW M d n pc ls (.ref (16 * b) :: st) (hp x) Q :=
  pw_getfield (k := 5) clX4 hd (hp_st x hb (by decide : 0 < 16)) (by decide) hlk kk
theorem g4_events {idx : Nat} {b : Nat} (hb : b < 10) (hd : decode (mC M) pc = .ok (.getfield idx, 3)) (hlk : Cond.fieldLink (mY M).cls idx "RowTriggers$State" "events" "I" ∈ UU) (kk : PW M d n (pc + 3) ls (.int (sSc (cSt x.1 b) 2) :: st) (hp x) Q) : PW M d n pc ls (.ref (16 * b) :: st) (hp x) Q :=
  pw_getfield (k := 6) clX4 hd (hp_st x hb (by decide : 0 < 16)) (by decide) hlk kk
theorem stcSc (b j : Nat) (σ : SS) (f : Nat → Int32) (h : j ≠ 0) : stc b j (uS7 σ f) = stc b j σ := by
  unfold stc
  rw [if_neg h, if_neg h]
  rfl
theorem stcLs (b j : Nat) (σ : SS) (f : Nat → Int32) (h : j ≠ 4) : stc b j (uS6 σ f) = stc b j σ := by
  unfold stc
  by_cases h0 : j = 0
  · rw [if_pos h0, if_pos h0]; rfl
  · simp only [if_neg h0, if_neg h]
    rfl
theorem stcTh (b j : Nat) (σ : SS) (f : Nat → Int32) (h : j ≠ 1) : stc b j (uS1 σ f) = stc b j σ := by
  unfold stc
  by_cases h0 : j = 0
  · rw [if_pos h0, if_pos h0]; rfl
  · simp only [if_neg h0, if_neg h]
    rfl
theorem stcVa (b j : Nat) (σ : SS) (f : Nat → Int32) (h : j ≠ 2) : stc b j (uS2 σ f) = stc b j σ := by
  unfold stc
  by_cases h0 : j = 0
  · rw [if_pos h0, if_pos h0]; rfl
  · simp only [if_neg h0, if_neg h]
    rfl
theorem stcLr (b j : Nat) (σ : SS) (f : Nat → Int32) (h : j ≠ 5) : stc b j (uS4 σ f) = stc b j σ := by
  unfold stc
  by_cases h0 : j = 0
  · rw [if_pos h0, if_pos h0]; rfl
  · simp only [if_neg h0, if_neg h]
    rfl
theorem stcLd (b j : Nat) (σ : SS) (f : Nat → Int32) (h : j ≠ 6) : stc b j (uS5 σ f) = stc b j σ := by
  unfold stc
  by_cases h0 : j = 0
  · rw [if_pos h0, if_pos h0]; rfl
  · simp only [if_neg h0, if_neg h]
    rfl
theorem stcRu (b j i : Nat) (σ : SS) (r : Nat → Int32) (hi : i < 8) (h : j ≠ 7 + i) : stc b j (uS3 σ (upR (sRu σ) i r)) = stc b j σ := by
  unfold stc
  by_cases h7 : j < 7
  · match j, h7 with
    | 0, _ => rfl
    | 1, _ => rfl
    | 2, _ => rfl
    | 3, _ => rfl
    | 4, _ => rfl
    | 5, _ => rfl
    | 6, _ => rfl
    | j + 7, h => exact absurd h (by omega)
  · have a0 : ¬ j = 0 := by omega
    have a1 : ¬ j = 1 := by omega
    have a2 : ¬ j = 2 := by omega
    have a3 : ¬ j = 3 := by omega
    have a4 : ¬ j = 4 := by omega
    have a5 : ¬ j = 5 := by omega
    have a6 : ¬ j = 6 := by omega
    simp only [if_neg a0, if_neg a1, if_neg a2, if_neg a3, if_neg a4, if_neg a5, if_neg a6]
    have e1 : sRu (uS3 σ (upR (sRu σ) i r)) (j - 7) = sRu σ (j - 7) := if_neg (by omega)
    rw [e1]
theorem iA_st (f : Nat → Int32) (k : Nat) (v : Int32) : stF (iA f) k (.int v) = iA (upd f k v) := by
  funext j
  unfold stF iA upd
  by_cases e : j = k <;> simp [e]
theorem fnSc (b : Nat) (f : Nat → Int32) (k : Nat) (v : Int32) (hk : 4 ≤ k) : stF (fun j => if j = 0 then Value.ref (16 * b + 1) else if j = 1 then .ref (16 * b + 2) else if j = 2 then .ref (16 * b + 3) else if j = 3 then .ref (16 * b + 4) else .int (f (j - 4))) k (.int v) = (fun j => if j = 0 then Value.ref (16 * b + 1) else if j = 1 then .ref (16 * b + 2) else if j = 2 then .ref (16 * b + 3) else if j = 3 then .ref (16 * b + 4) else .int (upd f (k - 4) v (j - 4))) := by
  funext j
  unfold stF upd
  by_cases e : j = k
  · subst e
    rw [if_pos rfl, if_neg (by omega), if_neg (by omega), if_neg (by omega), if_neg (by omega), if_pos rfl]
  · rw [if_neg e]
    dsimp only
    by_cases e4 : j < 4
    · match j, e4 with
      | 0, _ => rfl
      | 1, _ => rfl
      | 2, _ => rfl
      | 3, _ => rfl
      | j + 4, h => exact absurd h (by omega)
    · rw [if_neg (by omega), if_neg (by omega), if_neg (by omega), if_neg (by omega), if_neg (by omega), if_neg (by omega), if_neg (by omega), if_neg (by omega), if_neg (by omega)]
theorem fnLs (b : Nat) (f : Nat → Int32) (k : Nat) (v : Int32) (hk : 2 ≤ k) : stF (fun j => if j = 0 then Value.ref (16 * b + 5) else if j = 1 then .ref (16 * b + 6) else .int (f (j - 2))) k (.int v) = (fun j => if j = 0 then Value.ref (16 * b + 5) else if j = 1 then .ref (16 * b + 6) else .int (upd f (k - 2) v (j - 2))) := by
  funext j
  unfold stF upd
  by_cases e : j = k
  · subst e
    rw [if_pos rfl, if_neg (by omega), if_neg (by omega), if_pos rfl]
  · rw [if_neg e]
    dsimp only
    by_cases e4 : j < 2
    · match j, e4 with
      | 0, _ => rfl
      | 1, _ => rfl
      | j + 2, h => exact absurd h (by omega)
    · rw [if_neg (by omega), if_neg (by omega), if_neg (by omega), if_neg (by omega), if_neg (by omega)]
theorem fn1 (a : Nat) (f : Nat → Int32) (k : Nat) (v : Int32) (hk : 1 ≤ k) : stF (fun j => if j = 0 then Value.ref a else .int (f (j - 1))) k (.int v) = (fun j => if j = 0 then Value.ref a else .int (upd f (k - 1) v (j - 1))) := by
  funext j
  unfold stF upd
  by_cases e : j = k
  · subst e
    rw [if_pos rfl, if_neg (by omega), if_pos rfl]
  · rw [if_neg e]
    dsimp only
    by_cases e4 : j = 0
    · rw [if_pos e4, if_pos e4]
    · rw [if_neg e4, if_neg e4, if_neg (by omega)]
theorem fnT (f : Nat → Int32) (k : Nat) (v : Int32) (hk : 1 ≤ k) (h4 : k ≠ 4) : stF (fun j => if j = 0 then Value.ref 165 else if j = 4 then .ref 166 else .int (f (j - 1))) k (.int v) = (fun j => if j = 0 then Value.ref 165 else if j = 4 then .ref 166 else .int (upd f (k - 1) v (j - 1))) := by
  funext j
  unfold stF upd
  by_cases e : j = k
  · subst e
    rw [if_pos rfl, if_neg (by omega), if_neg h4, if_pos rfl]
  · rw [if_neg e]
    dsimp only
    by_cases e4 : j = 0
    · rw [if_pos e4, if_pos e4]
    · rw [if_neg e4, if_neg e4, if_neg (show ¬ j - 1 = k - 1 by omega)]
theorem fnM (f : Nat → Int32) (k : Nat) (v : Int32) (hk : k ≠ 1 ∧ k ≠ 2 ∧ k ≠ 3 ∧ k ≠ 5 ∧ k ≠ 7 ∧ k ≠ 9) : stF (fun j => if j = 1 then Value.ref 172 else if j = 2 then .ref 173 else if j = 3 then .ref 174 else if j = 5 then .ref 175 else if j = 7 then .ref 176 else if j = 9 then .ref 177 else .int (f j)) k (.int v) = (fun j => if j = 1 then Value.ref 172 else if j = 2 then .ref 173 else if j = 3 then .ref 174 else if j = 5 then .ref 175 else if j = 7 then .ref 176 else if j = 9 then .ref 177 else .int (upd f k v j)) := by
  obtain ⟨h1, h2, h3, h5, h7, h9⟩ := hk
  funext j
  unfold stF upd
  by_cases e : j = k
  · subst e
    rw [if_pos rfl, if_neg h1, if_neg h2, if_neg h3, if_neg h5, if_neg h7, if_neg h9, if_pos rfl]
  · rw [if_neg e]
    dsimp only
    rw [if_neg e]
theorem p4_rulesUsed {idx : Nat} {v : Int32} {b : Nat} (hb : b < 10) (hd : decode (mC M) pc = .ok (.putfield idx, 3)) (hlk : Cond.fieldLink (mY M).cls idx "RowTriggers$State" "rulesUsed" "I" ∈ UU) (kk : PW M d n (pc + 3) ls st (hp (uC1 x b (uS7 (cSt x.1 b) (upd (sSc (cSt x.1 b)) 0 v)))) Q) : PW M d n pc ls (.int v :: .ref (16 * b) :: st) (hp x) Q := by
  refine pw_putfield (k := 4) clX4 hd (hp_st x hb (by decide : 0 < 16)) (by decide) hlk rfl (fun G => narI G v) ?_
  rw [fnSc b _ 4 v (by decide)]
  have e := hp_us (x := x) (b := b) (o := 0) (uS7 (cSt x.1 b) (upd (sSc (cSt x.1 b)) 0 v)) hb (by decide) rfl (fun j _ hj => stcSc b j _ _ hj)
  rw [show 16 * b = 16 * b + 0 from rfl]
  erw [e]
  exact kk
theorem p4_depth {idx : Nat} {v : Int32} {b : Nat} (hb : b < 10) (hd : decode (mC M) pc = .ok (.putfield idx, 3)) (hlk : Cond.fieldLink (mY M).cls idx "RowTriggers$State" "depth" "I" ∈ UU) (kk : PW M d n (pc + 3) ls st (hp (uC1 x b (uS7 (cSt x.1 b) (upd (sSc (cSt x.1 b)) 1 v)))) Q) : PW M d n pc ls (.int v :: .ref (16 * b) :: st) (hp x) Q := by
  refine pw_putfield (k := 5) clX4 hd (hp_st x hb (by decide : 0 < 16)) (by decide) hlk rfl (fun G => narI G v) ?_
  rw [fnSc b _ 5 v (by decide)]
  have e := hp_us (x := x) (b := b) (o := 0) (uS7 (cSt x.1 b) (upd (sSc (cSt x.1 b)) 1 v)) hb (by decide) rfl (fun j _ hj => stcSc b j _ _ hj)
  rw [show 16 * b = 16 * b + 0 from rfl]
  erw [e]
  exact kk
theorem p4_events {idx : Nat} {v : Int32} {b : Nat} (hb : b < 10) (hd : decode (mC M) pc = .ok (.putfield idx, 3)) (hlk : Cond.fieldLink (mY M).cls idx "RowTriggers$State" "events" "I" ∈ UU) (kk : PW M d n (pc + 3) ls st (hp (uC1 x b (uS7 (cSt x.1 b) (upd (sSc (cSt x.1 b)) 2 v)))) Q) : PW M d n pc ls (.int v :: .ref (16 * b) :: st) (hp x) Q := by
  refine pw_putfield (k := 6) clX4 hd (hp_st x hb (by decide : 0 < 16)) (by decide) hlk rfl (fun G => narI G v) ?_
  rw [fnSc b _ 6 v (by decide)]
  have e := hp_us (x := x) (b := b) (o := 0) (uS7 (cSt x.1 b) (upd (sSc (cSt x.1 b)) 2 v)) hb (by decide) rfl (fun j _ hj => stcSc b j _ _ hj)
  rw [show 16 * b = 16 * b + 0 from rfl]
  erw [e]
  exact kk
theorem g2_rules {idx : Nat} {b : Nat} (hb : b < 10) (hd : decode (mC M) pc = .ok (.getfield idx, 3)) (hlk : Cond.fieldLink (mY M).cls idx "RowTriggers$Log" "rules" "[I" ∈ UU) (kk : PW M d n (pc + 3) ls (.ref (16 * b + 5) :: st) (hp x) Q) : PW M d n pc ls (.ref (16 * b + 4) :: st) (hp x) Q :=
  pw_getfield (k := 0) clX2 hd (hp_st x hb (by decide : 4 < 16)) (by decide) hlk kk
theorem g2_depths {idx : Nat} {b : Nat} (hb : b < 10) (hd : decode (mC M) pc = .ok (.getfield idx, 3)) (hlk : Cond.fieldLink (mY M).cls idx "RowTriggers$Log" "depths" "[I" ∈ UU) (kk : PW M d n (pc + 3) ls (.ref (16 * b + 6) :: st) (hp x) Q) : PW M d n pc ls (.ref (16 * b + 4) :: st) (hp x) Q :=
  pw_getfield (k := 1) clX2 hd (hp_st x hb (by decide : 4 < 16)) (by decide) hlk kk
theorem g2_size {idx : Nat} {b : Nat} (hb : b < 10) (hd : decode (mC M) pc = .ok (.getfield idx, 3)) (hlk : Cond.fieldLink (mY M).cls idx "RowTriggers$Log" "size" "I" ∈ UU) (kk : PW M d n (pc + 3) ls (.int (sLs (cSt x.1 b) 0) :: st) (hp x) Q) : PW M d n pc ls (.ref (16 * b + 4) :: st) (hp x) Q :=
  pw_getfield (k := 2) clX2 hd (hp_st x hb (by decide : 4 < 16)) (by decide) hlk kk
theorem g2_latest {idx : Nat} {b : Nat} (hb : b < 10) (hd : decode (mC M) pc = .ok (.getfield idx, 3)) (hlk : Cond.fieldLink (mY M).cls idx "RowTriggers$Log" "latest" "I" ∈ UU) (kk : PW M d n (pc + 3) ls (.int (sLs (cSt x.1 b) 1) :: st) (hp x) Q) : PW M d n pc ls (.ref (16 * b + 4) :: st) (hp x) Q :=
  pw_getfield (k := 3) clX2 hd (hp_st x hb (by decide : 4 < 16)) (by decide) hlk kk
theorem p2_size {idx : Nat} {v : Int32} {b : Nat} (hb : b < 10) (hd : decode (mC M) pc = .ok (.putfield idx, 3)) (hlk : Cond.fieldLink (mY M).cls idx "RowTriggers$Log" "size" "I" ∈ UU) (kk : PW M d n (pc + 3) ls st (hp (uC1 x b (uS6 (cSt x.1 b) (upd (sLs (cSt x.1 b)) 0 v)))) Q) : PW M d n pc ls (.int v :: .ref (16 * b + 4) :: st) (hp x) Q := by
  refine pw_putfield (k := 2) clX2 hd (hp_st x hb (by decide : 4 < 16)) (by decide) hlk rfl (fun G => narI G v) ?_
  rw [fnLs b _ 2 v (by decide)]
  have e := hp_us (x := x) (b := b) (o := 4) (uS6 (cSt x.1 b) (upd (sLs (cSt x.1 b)) 0 v)) hb (by decide) rfl (fun j _ hj => stcLs b j _ _ hj)
  erw [e]
  exact kk
theorem p2_latest {idx : Nat} {v : Int32} {b : Nat} (hb : b < 10) (hd : decode (mC M) pc = .ok (.putfield idx, 3)) (hlk : Cond.fieldLink (mY M).cls idx "RowTriggers$Log" "latest" "I" ∈ UU) (kk : PW M d n (pc + 3) ls st (hp (uC1 x b (uS6 (cSt x.1 b) (upd (sLs (cSt x.1 b)) 1 v)))) Q) : PW M d n pc ls (.int v :: .ref (16 * b + 4) :: st) (hp x) Q := by
  refine pw_putfield (k := 3) clX2 hd (hp_st x hb (by decide : 4 < 16)) (by decide) hlk rfl (fun G => narI G v) ?_
  rw [fnLs b _ 3 v (by decide)]
  have e := hp_us (x := x) (b := b) (o := 4) (uS6 (cSt x.1 b) (upd (sLs (cSt x.1 b)) 1 v)) hb (by decide) rfl (fun j _ hj => stcLs b j _ _ hj)
  erw [e]
  exact kk
theorem stc_ru (b i : Nat) (σ : SS) (hi : i < 8) : stc b (7 + i) σ = some (.inr (3, fun k => .int (sRu σ i k))) := by
  unfold stc
  rw [if_neg (by omega), if_neg (by omega), if_neg (by omega), if_neg (by omega), if_neg (by omega), if_neg (by omega), if_neg (by omega), if_pos (by omega), show 7 + i - 7 = i by omega]
theorem g3_event {idx : Nat} {b i : Nat} (hb : b < 10) (hi : i < 8) (hd : decode (mC M) pc = .ok (.getfield idx, 3)) (hlk : Cond.fieldLink (mY M).cls idx "RowTriggers$Rule" "event" "I" ∈ UU) (kk : PW M d n (pc + 3) ls (.int (sRu (cSt x.1 b) i 0) :: st) (hp x) Q) : PW M d n pc ls (.ref (16 * b + (7 + i)) :: st) (hp x) Q :=
  pw_getfield (k := 0) clX3 hd ((hp_st x hb (by omega : 7 + i < 16)).trans (stc_ru b i _ hi)) (by decide) hlk kk
theorem p3_event {idx : Nat} {v : Int32} {b i : Nat} (hb : b < 10) (hi : i < 8) (hd : decode (mC M) pc = .ok (.putfield idx, 3)) (hlk : Cond.fieldLink (mY M).cls idx "RowTriggers$Rule" "event" "I" ∈ UU) (kk : PW M d n (pc + 3) ls st (hp (uC1 x b (uS3 (cSt x.1 b) (upR (sRu (cSt x.1 b)) i (upd (sRu (cSt x.1 b) i) 0 v))))) Q) : PW M d n pc ls (.int v :: .ref (16 * b + (7 + i)) :: st) (hp x) Q := by
  refine pw_putfield (k := 0) clX3 hd ((hp_st x hb (by omega : 7 + i < 16)).trans (stc_ru b i _ hi)) (by decide) hlk rfl (fun G => narI G v) ?_
  have e := hp_us (x := x) (b := b) (o := 7 + i) (c := .inr (3, stF (fun k => .int (sRu (cSt x.1 b) i k)) 0 (.int v))) (uS3 (cSt x.1 b) (upR (sRu (cSt x.1 b)) i (upd (sRu (cSt x.1 b) i) 0 v))) hb (by omega) ((stc_ru b i _ hi).trans (congrArg (fun z => some (Sum.inr (3, z))) (by funext j; simp only [sRu, uS3, upR, if_pos, stF, upd]; by_cases e : j = 0 <;> simp [e]))) (fun j _ hj => stcRu b j i _ _ hi hj)
  rw [e]
  exact kk
theorem g3_column {idx : Nat} {b i : Nat} (hb : b < 10) (hi : i < 8) (hd : decode (mC M) pc = .ok (.getfield idx, 3)) (hlk : Cond.fieldLink (mY M).cls idx "RowTriggers$Rule" "column" "I" ∈ UU) (kk : PW M d n (pc + 3) ls (.int (sRu (cSt x.1 b) i 1) :: st) (hp x) Q) : PW M d n pc ls (.ref (16 * b + (7 + i)) :: st) (hp x) Q :=
  pw_getfield (k := 1) clX3 hd ((hp_st x hb (by omega : 7 + i < 16)).trans (stc_ru b i _ hi)) (by decide) hlk kk
theorem p3_column {idx : Nat} {v : Int32} {b i : Nat} (hb : b < 10) (hi : i < 8) (hd : decode (mC M) pc = .ok (.putfield idx, 3)) (hlk : Cond.fieldLink (mY M).cls idx "RowTriggers$Rule" "column" "I" ∈ UU) (kk : PW M d n (pc + 3) ls st (hp (uC1 x b (uS3 (cSt x.1 b) (upR (sRu (cSt x.1 b)) i (upd (sRu (cSt x.1 b) i) 1 v))))) Q) : PW M d n pc ls (.int v :: .ref (16 * b + (7 + i)) :: st) (hp x) Q := by
  refine pw_putfield (k := 1) clX3 hd ((hp_st x hb (by omega : 7 + i < 16)).trans (stc_ru b i _ hi)) (by decide) hlk rfl (fun G => narI G v) ?_
  have e := hp_us (x := x) (b := b) (o := 7 + i) (c := .inr (3, stF (fun k => .int (sRu (cSt x.1 b) i k)) 1 (.int v))) (uS3 (cSt x.1 b) (upR (sRu (cSt x.1 b)) i (upd (sRu (cSt x.1 b) i) 1 v))) hb (by omega) ((stc_ru b i _ hi).trans (congrArg (fun z => some (Sum.inr (3, z))) (by funext j; simp only [sRu, uS3, upR, if_pos, stF, upd]; by_cases e : j = 1 <;> simp [e]))) (fun j _ hj => stcRu b j i _ _ hi hj)
  rw [e]
  exact kk
theorem g3_least {idx : Nat} {b i : Nat} (hb : b < 10) (hi : i < 8) (hd : decode (mC M) pc = .ok (.getfield idx, 3)) (hlk : Cond.fieldLink (mY M).cls idx "RowTriggers$Rule" "least" "I" ∈ UU) (kk : PW M d n (pc + 3) ls (.int (sRu (cSt x.1 b) i 2) :: st) (hp x) Q) : PW M d n pc ls (.ref (16 * b + (7 + i)) :: st) (hp x) Q :=
  pw_getfield (k := 2) clX3 hd ((hp_st x hb (by omega : 7 + i < 16)).trans (stc_ru b i _ hi)) (by decide) hlk kk
theorem p3_least {idx : Nat} {v : Int32} {b i : Nat} (hb : b < 10) (hi : i < 8) (hd : decode (mC M) pc = .ok (.putfield idx, 3)) (hlk : Cond.fieldLink (mY M).cls idx "RowTriggers$Rule" "least" "I" ∈ UU) (kk : PW M d n (pc + 3) ls st (hp (uC1 x b (uS3 (cSt x.1 b) (upR (sRu (cSt x.1 b)) i (upd (sRu (cSt x.1 b) i) 2 v))))) Q) : PW M d n pc ls (.int v :: .ref (16 * b + (7 + i)) :: st) (hp x) Q := by
  refine pw_putfield (k := 2) clX3 hd ((hp_st x hb (by omega : 7 + i < 16)).trans (stc_ru b i _ hi)) (by decide) hlk rfl (fun G => narI G v) ?_
  have e := hp_us (x := x) (b := b) (o := 7 + i) (c := .inr (3, stF (fun k => .int (sRu (cSt x.1 b) i k)) 2 (.int v))) (uS3 (cSt x.1 b) (upR (sRu (cSt x.1 b)) i (upd (sRu (cSt x.1 b) i) 2 v))) hb (by omega) ((stc_ru b i _ hi).trans (congrArg (fun z => some (Sum.inr (3, z))) (by funext j; simp only [sRu, uS3, upR, if_pos, stF, upd]; by_cases e : j = 2 <;> simp [e]))) (fun j _ hj => stcRu b j i _ _ hi hj)
  rw [e]
  exact kk
theorem g3_action {idx : Nat} {b i : Nat} (hb : b < 10) (hi : i < 8) (hd : decode (mC M) pc = .ok (.getfield idx, 3)) (hlk : Cond.fieldLink (mY M).cls idx "RowTriggers$Rule" "action" "I" ∈ UU) (kk : PW M d n (pc + 3) ls (.int (sRu (cSt x.1 b) i 3) :: st) (hp x) Q) : PW M d n pc ls (.ref (16 * b + (7 + i)) :: st) (hp x) Q :=
  pw_getfield (k := 3) clX3 hd ((hp_st x hb (by omega : 7 + i < 16)).trans (stc_ru b i _ hi)) (by decide) hlk kk
theorem p3_action {idx : Nat} {v : Int32} {b i : Nat} (hb : b < 10) (hi : i < 8) (hd : decode (mC M) pc = .ok (.putfield idx, 3)) (hlk : Cond.fieldLink (mY M).cls idx "RowTriggers$Rule" "action" "I" ∈ UU) (kk : PW M d n (pc + 3) ls st (hp (uC1 x b (uS3 (cSt x.1 b) (upR (sRu (cSt x.1 b)) i (upd (sRu (cSt x.1 b) i) 3 v))))) Q) : PW M d n pc ls (.int v :: .ref (16 * b + (7 + i)) :: st) (hp x) Q := by
  refine pw_putfield (k := 3) clX3 hd ((hp_st x hb (by omega : 7 + i < 16)).trans (stc_ru b i _ hi)) (by decide) hlk rfl (fun G => narI G v) ?_
  have e := hp_us (x := x) (b := b) (o := 7 + i) (c := .inr (3, stF (fun k => .int (sRu (cSt x.1 b) i k)) 3 (.int v))) (uS3 (cSt x.1 b) (upR (sRu (cSt x.1 b)) i (upd (sRu (cSt x.1 b) i) 3 v))) hb (by omega) ((stc_ru b i _ hi).trans (congrArg (fun z => some (Sum.inr (3, z))) (by funext j; simp only [sRu, uS3, upR, if_pos, stF, upd]; by_cases e : j = 3 <;> simp [e]))) (fun j _ hj => stcRu b j i _ _ hi hj)
  rw [e]
  exact kk
theorem g3_targetRow {idx : Nat} {b i : Nat} (hb : b < 10) (hi : i < 8) (hd : decode (mC M) pc = .ok (.getfield idx, 3)) (hlk : Cond.fieldLink (mY M).cls idx "RowTriggers$Rule" "targetRow" "I" ∈ UU) (kk : PW M d n (pc + 3) ls (.int (sRu (cSt x.1 b) i 4) :: st) (hp x) Q) : PW M d n pc ls (.ref (16 * b + (7 + i)) :: st) (hp x) Q :=
  pw_getfield (k := 4) clX3 hd ((hp_st x hb (by omega : 7 + i < 16)).trans (stc_ru b i _ hi)) (by decide) hlk kk
theorem p3_targetRow {idx : Nat} {v : Int32} {b i : Nat} (hb : b < 10) (hi : i < 8) (hd : decode (mC M) pc = .ok (.putfield idx, 3)) (hlk : Cond.fieldLink (mY M).cls idx "RowTriggers$Rule" "targetRow" "I" ∈ UU) (kk : PW M d n (pc + 3) ls st (hp (uC1 x b (uS3 (cSt x.1 b) (upR (sRu (cSt x.1 b)) i (upd (sRu (cSt x.1 b) i) 4 v))))) Q) : PW M d n pc ls (.int v :: .ref (16 * b + (7 + i)) :: st) (hp x) Q := by
  refine pw_putfield (k := 4) clX3 hd ((hp_st x hb (by omega : 7 + i < 16)).trans (stc_ru b i _ hi)) (by decide) hlk rfl (fun G => narI G v) ?_
  have e := hp_us (x := x) (b := b) (o := 7 + i) (c := .inr (3, stF (fun k => .int (sRu (cSt x.1 b) i k)) 4 (.int v))) (uS3 (cSt x.1 b) (upR (sRu (cSt x.1 b)) i (upd (sRu (cSt x.1 b) i) 4 v))) hb (by omega) ((stc_ru b i _ hi).trans (congrArg (fun z => some (Sum.inr (3, z))) (by funext j; simp only [sRu, uS3, upR, if_pos, stF, upd]; by_cases e : j = 4 <;> simp [e]))) (fun j _ hj => stcRu b j i _ _ hi hj)
  rw [e]
  exact kk
theorem g3_targetColumn {idx : Nat} {b i : Nat} (hb : b < 10) (hi : i < 8) (hd : decode (mC M) pc = .ok (.getfield idx, 3)) (hlk : Cond.fieldLink (mY M).cls idx "RowTriggers$Rule" "targetColumn" "I" ∈ UU) (kk : PW M d n (pc + 3) ls (.int (sRu (cSt x.1 b) i 5) :: st) (hp x) Q) : PW M d n pc ls (.ref (16 * b + (7 + i)) :: st) (hp x) Q :=
  pw_getfield (k := 5) clX3 hd ((hp_st x hb (by omega : 7 + i < 16)).trans (stc_ru b i _ hi)) (by decide) hlk kk
theorem p3_targetColumn {idx : Nat} {v : Int32} {b i : Nat} (hb : b < 10) (hi : i < 8) (hd : decode (mC M) pc = .ok (.putfield idx, 3)) (hlk : Cond.fieldLink (mY M).cls idx "RowTriggers$Rule" "targetColumn" "I" ∈ UU) (kk : PW M d n (pc + 3) ls st (hp (uC1 x b (uS3 (cSt x.1 b) (upR (sRu (cSt x.1 b)) i (upd (sRu (cSt x.1 b) i) 5 v))))) Q) : PW M d n pc ls (.int v :: .ref (16 * b + (7 + i)) :: st) (hp x) Q := by
  refine pw_putfield (k := 5) clX3 hd ((hp_st x hb (by omega : 7 + i < 16)).trans (stc_ru b i _ hi)) (by decide) hlk rfl (fun G => narI G v) ?_
  have e := hp_us (x := x) (b := b) (o := 7 + i) (c := .inr (3, stF (fun k => .int (sRu (cSt x.1 b) i k)) 5 (.int v))) (uS3 (cSt x.1 b) (upR (sRu (cSt x.1 b)) i (upd (sRu (cSt x.1 b) i) 5 v))) hb (by omega) ((stc_ru b i _ hi).trans (congrArg (fun z => some (Sum.inr (3, z))) (by funext j; simp only [sRu, uS3, upR, if_pos, stF, upd]; by_cases e : j = 5 <;> simp [e]))) (fun j _ hj => stcRu b j i _ _ hi hj)
  rw [e]
  exact kk
theorem g3_amount {idx : Nat} {b i : Nat} (hb : b < 10) (hi : i < 8) (hd : decode (mC M) pc = .ok (.getfield idx, 3)) (hlk : Cond.fieldLink (mY M).cls idx "RowTriggers$Rule" "amount" "I" ∈ UU) (kk : PW M d n (pc + 3) ls (.int (sRu (cSt x.1 b) i 6) :: st) (hp x) Q) : PW M d n pc ls (.ref (16 * b + (7 + i)) :: st) (hp x) Q :=
  pw_getfield (k := 6) clX3 hd ((hp_st x hb (by omega : 7 + i < 16)).trans (stc_ru b i _ hi)) (by decide) hlk kk
theorem p3_amount {idx : Nat} {v : Int32} {b i : Nat} (hb : b < 10) (hi : i < 8) (hd : decode (mC M) pc = .ok (.putfield idx, 3)) (hlk : Cond.fieldLink (mY M).cls idx "RowTriggers$Rule" "amount" "I" ∈ UU) (kk : PW M d n (pc + 3) ls st (hp (uC1 x b (uS3 (cSt x.1 b) (upR (sRu (cSt x.1 b)) i (upd (sRu (cSt x.1 b) i) 6 v))))) Q) : PW M d n pc ls (.int v :: .ref (16 * b + (7 + i)) :: st) (hp x) Q := by
  refine pw_putfield (k := 6) clX3 hd ((hp_st x hb (by omega : 7 + i < 16)).trans (stc_ru b i _ hi)) (by decide) hlk rfl (fun G => narI G v) ?_
  have e := hp_us (x := x) (b := b) (o := 7 + i) (c := .inr (3, stF (fun k => .int (sRu (cSt x.1 b) i k)) 6 (.int v))) (uS3 (cSt x.1 b) (upR (sRu (cSt x.1 b)) i (upd (sRu (cSt x.1 b) i) 6 v))) hb (by omega) ((stc_ru b i _ hi).trans (congrArg (fun z => some (Sum.inr (3, z))) (by funext j; simp only [sRu, uS3, upR, if_pos, stF, upd]; by_cases e : j = 6 <;> simp [e]))) (fun j _ hj => stcRu b j i _ _ hi hj)
  rw [e]
  exact kk
theorem g3_muted {idx : Nat} {b i : Nat} (hb : b < 10) (hi : i < 8) (hd : decode (mC M) pc = .ok (.getfield idx, 3)) (hlk : Cond.fieldLink (mY M).cls idx "RowTriggers$Rule" "muted" "Z" ∈ UU) (kk : PW M d n (pc + 3) ls (.int (sRu (cSt x.1 b) i 7) :: st) (hp x) Q) : PW M d n pc ls (.ref (16 * b + (7 + i)) :: st) (hp x) Q :=
  pw_getfield (k := 7) clX3 hd ((hp_st x hb (by omega : 7 + i < 16)).trans (stc_ru b i _ hi)) (by decide) hlk kk
theorem p3_muted {idx : Nat} {v : Int32} {b i : Nat} (hb : b < 10) (hi : i < 8) (hd : decode (mC M) pc = .ok (.putfield idx, 3)) (hlk : Cond.fieldLink (mY M).cls idx "RowTriggers$Rule" "muted" "Z" ∈ UU) (hn : narrow .boolean (.int v) = .int v ∧ fits .boolean (.int v) = true) (kk : PW M d n (pc + 3) ls st (hp (uC1 x b (uS3 (cSt x.1 b) (upR (sRu (cSt x.1 b)) i (upd (sRu (cSt x.1 b) i) 7 v))))) Q) : PW M d n pc ls (.int v :: .ref (16 * b + (7 + i)) :: st) (hp x) Q := by
  refine pw_putfield (k := 7) clX3 hd ((hp_st x hb (by omega : 7 + i < 16)).trans (stc_ru b i _ hi)) (by decide) hlk rfl (fun _ => hn) ?_
  have e := hp_us (x := x) (b := b) (o := 7 + i) (c := .inr (3, stF (fun k => .int (sRu (cSt x.1 b) i k)) 7 (.int v))) (uS3 (cSt x.1 b) (upR (sRu (cSt x.1 b)) i (upd (sRu (cSt x.1 b) i) 7 v))) hb (by omega) ((stc_ru b i _ hi).trans (congrArg (fun z => some (Sum.inr (3, z))) (by funext j; simp only [sRu, uS3, upR, if_pos, stF, upd]; by_cases e : j = 7 <;> simp [e]))) (fun j _ hj => stcRu b j i _ _ hi hj)
  rw [e]
  exact kk
theorem g3_acts {idx : Nat} {b i : Nat} (hb : b < 10) (hi : i < 8) (hd : decode (mC M) pc = .ok (.getfield idx, 3)) (hlk : Cond.fieldLink (mY M).cls idx "RowTriggers$Rule" "acts" "I" ∈ UU) (kk : PW M d n (pc + 3) ls (.int (sRu (cSt x.1 b) i 8) :: st) (hp x) Q) : PW M d n pc ls (.ref (16 * b + (7 + i)) :: st) (hp x) Q :=
  pw_getfield (k := 8) clX3 hd ((hp_st x hb (by omega : 7 + i < 16)).trans (stc_ru b i _ hi)) (by decide) hlk kk
theorem p3_acts {idx : Nat} {v : Int32} {b i : Nat} (hb : b < 10) (hi : i < 8) (hd : decode (mC M) pc = .ok (.putfield idx, 3)) (hlk : Cond.fieldLink (mY M).cls idx "RowTriggers$Rule" "acts" "I" ∈ UU) (kk : PW M d n (pc + 3) ls st (hp (uC1 x b (uS3 (cSt x.1 b) (upR (sRu (cSt x.1 b)) i (upd (sRu (cSt x.1 b) i) 8 v))))) Q) : PW M d n pc ls (.int v :: .ref (16 * b + (7 + i)) :: st) (hp x) Q := by
  refine pw_putfield (k := 8) clX3 hd ((hp_st x hb (by omega : 7 + i < 16)).trans (stc_ru b i _ hi)) (by decide) hlk rfl (fun G => narI G v) ?_
  have e := hp_us (x := x) (b := b) (o := 7 + i) (c := .inr (3, stF (fun k => .int (sRu (cSt x.1 b) i k)) 8 (.int v))) (uS3 (cSt x.1 b) (upR (sRu (cSt x.1 b)) i (upd (sRu (cSt x.1 b) i) 8 v))) hb (by omega) ((stc_ru b i _ hi).trans (congrArg (fun z => some (Sum.inr (3, z))) (by funext j; simp only [sRu, uS3, upR, if_pos, stF, upd]; by_cases e : j = 8 <;> simp [e]))) (fun j _ hj => stcRu b j i _ _ hi hj)
  rw [e]
  exact kk
theorem g7_now {idx : Nat} (hd : decode (mC M) pc = .ok (.getfield idx, 3)) (hlk : Cond.fieldLink (mY M).cls idx "RowTriggers" "now" "LRowTriggers$State;" ∈ UU) (kk : PW M d n (pc + 3) ls (.ref (16 * 0) :: st) (hp x) Q) : PW M d n pc ls (.ref 160 :: st) (hp x) Q :=
  pw_getfield (k := 0) clX7 hd (hp_ot x 0) (by decide) hlk kk
theorem g7_trial {idx : Nat} (hd : decode (mC M) pc = .ok (.getfield idx, 3)) (hlk : Cond.fieldLink (mY M).cls idx "RowTriggers" "trial" "LRowTriggers$Statement;" ∈ UU) (kk : PW M d n (pc + 3) ls (.ref 161 :: st) (hp x) Q) : PW M d n pc ls (.ref 160 :: st) (hp x) Q :=
  pw_getfield (k := 1) clX7 hd (hp_ot x 0) (by decide) hlk kk
theorem g7_chains {idx : Nat} (hd : decode (mC M) pc = .ok (.getfield idx, 3)) (hlk : Cond.fieldLink (mY M).cls idx "RowTriggers" "chains" "LRowTriggers$Chains;" ∈ UU) (kk : PW M d n (pc + 3) ls (.ref 162 :: st) (hp x) Q) : PW M d n pc ls (.ref 160 :: st) (hp x) Q :=
  pw_getfield (k := 2) clX7 hd (hp_ot x 0) (by decide) hlk kk
theorem g7_text {idx : Nat} (hd : decode (mC M) pc = .ok (.getfield idx, 3)) (hlk : Cond.fieldLink (mY M).cls idx "RowTriggers" "text" "LRowTriggers$Text;" ∈ UU) (kk : PW M d n (pc + 3) ls (.ref 164 :: st) (hp x) Q) : PW M d n pc ls (.ref 160 :: st) (hp x) Q :=
  pw_getfield (k := 3) clX7 hd (hp_ot x 0) (by decide) hlk kk
theorem g7_history {idx : Nat} (hd : decode (mC M) pc = .ok (.getfield idx, 3)) (hlk : Cond.fieldLink (mY M).cls idx "RowTriggers" "history" "LRowTriggers$History;" ∈ UU) (kk : PW M d n (pc + 3) ls (.ref 167 :: st) (hp x) Q) : PW M d n pc ls (.ref 160 :: st) (hp x) Q :=
  pw_getfield (k := 4) clX7 hd (hp_ot x 0) (by decide) hlk kk
theorem g7_slots {idx : Nat} (hd : decode (mC M) pc = .ok (.getfield idx, 3)) (hlk : Cond.fieldLink (mY M).cls idx "RowTriggers" "slots" "[LRowTriggers$State;" ∈ UU) (kk : PW M d n (pc + 3) ls (.ref 169 :: st) (hp x) Q) : PW M d n pc ls (.ref 160 :: st) (hp x) Q :=
  pw_getfield (k := 5) clX7 hd (hp_ot x 0) (by decide) hlk kk
theorem g7_slotIsFilled {idx : Nat} (hd : decode (mC M) pc = .ok (.getfield idx, 3)) (hlk : Cond.fieldLink (mY M).cls idx "RowTriggers" "slotIsFilled" "[Z" ∈ UU) (kk : PW M d n (pc + 3) ls (.ref 170 :: st) (hp x) Q) : PW M d n pc ls (.ref 160 :: st) (hp x) Q :=
  pw_getfield (k := 6) clX7 hd (hp_ot x 0) (by decide) hlk kk
theorem g5_state {idx : Nat} (hd : decode (mC M) pc = .ok (.getfield idx, 3)) (hlk : Cond.fieldLink (mY M).cls idx "RowTriggers$Statement" "state" "LRowTriggers$State;" ∈ UU) (kk : PW M d n (pc + 3) ls (.ref (16 * 1) :: st) (hp x) Q) : PW M d n pc ls (.ref 161 :: st) (hp x) Q :=
  pw_getfield (k := 0) clX5 hd (hp_ot x 1) (by decide) hlk kk
theorem g5_events {idx : Nat} (hd : decode (mC M) pc = .ok (.getfield idx, 3)) (hlk : Cond.fieldLink (mY M).cls idx "RowTriggers$Statement" "events" "I" ∈ UU) (kk : PW M d n (pc + 3) ls (.int (cSm x.1 0) :: st) (hp x) Q) : PW M d n pc ls (.ref 161 :: st) (hp x) Q :=
  pw_getfield (k := 1) clX5 hd (hp_ot x 1) (by decide) hlk kk
theorem p5_events {idx : Nat} {v : Int32} (hd : decode (mC M) pc = .ok (.putfield idx, 3)) (hlk : Cond.fieldLink (mY M).cls idx "RowTriggers$Statement" "events" "I" ∈ UU) (kk : PW M d n (pc + 3) ls st (hp (uC2 x (upd (cSm x.1) 0 v))) Q) : PW M d n pc ls (.int v :: .ref 161 :: st) (hp x) Q := by
  refine pw_putfield (k := 1) clX5 hd (hp_ot x 1) (by decide) hlk rfl (fun G => narI G v) ?_
  rw [fn1 _ _ 1 v (by decide)]
  have e := hp_uo (x := x) (y := uC2 x (upd (cSm x.1) 0 v)) (o := 1) (fun _ => rfl) rfl (fun j hj => by simp only [otc, if_neg hj]; rfl)
  erw [e]
  exact kk
theorem g5_deepest {idx : Nat} (hd : decode (mC M) pc = .ok (.getfield idx, 3)) (hlk : Cond.fieldLink (mY M).cls idx "RowTriggers$Statement" "deepest" "I" ∈ UU) (kk : PW M d n (pc + 3) ls (.int (cSm x.1 1) :: st) (hp x) Q) : PW M d n pc ls (.ref 161 :: st) (hp x) Q :=
  pw_getfield (k := 2) clX5 hd (hp_ot x 1) (by decide) hlk kk
theorem p5_deepest {idx : Nat} {v : Int32} (hd : decode (mC M) pc = .ok (.putfield idx, 3)) (hlk : Cond.fieldLink (mY M).cls idx "RowTriggers$Statement" "deepest" "I" ∈ UU) (kk : PW M d n (pc + 3) ls st (hp (uC2 x (upd (cSm x.1) 1 v))) Q) : PW M d n pc ls (.int v :: .ref 161 :: st) (hp x) Q := by
  refine pw_putfield (k := 2) clX5 hd (hp_ot x 1) (by decide) hlk rfl (fun G => narI G v) ?_
  rw [fn1 _ _ 2 v (by decide)]
  have e := hp_uo (x := x) (y := uC2 x (upd (cSm x.1) 1 v)) (o := 1) (fun _ => rfl) rfl (fun j hj => by simp only [otc, if_neg hj]; rfl)
  erw [e]
  exact kk
theorem g5_refusal {idx : Nat} (hd : decode (mC M) pc = .ok (.getfield idx, 3)) (hlk : Cond.fieldLink (mY M).cls idx "RowTriggers$Statement" "refusal" "I" ∈ UU) (kk : PW M d n (pc + 3) ls (.int (cSm x.1 2) :: st) (hp x) Q) : PW M d n pc ls (.ref 161 :: st) (hp x) Q :=
  pw_getfield (k := 3) clX5 hd (hp_ot x 1) (by decide) hlk kk
theorem p5_refusal {idx : Nat} {v : Int32} (hd : decode (mC M) pc = .ok (.putfield idx, 3)) (hlk : Cond.fieldLink (mY M).cls idx "RowTriggers$Statement" "refusal" "I" ∈ UU) (kk : PW M d n (pc + 3) ls st (hp (uC2 x (upd (cSm x.1) 2 v))) Q) : PW M d n pc ls (.int v :: .ref 161 :: st) (hp x) Q := by
  refine pw_putfield (k := 3) clX5 hd (hp_ot x 1) (by decide) hlk rfl (fun G => narI G v) ?_
  rw [fn1 _ _ 3 v (by decide)]
  have e := hp_uo (x := x) (y := uC2 x (upd (cSm x.1) 2 v)) (o := 1) (fun _ => rfl) rfl (fun j hj => by simp only [otc, if_neg hj]; rfl)
  erw [e]
  exact kk
theorem g0_table {idx : Nat} (hd : decode (mC M) pc = .ok (.getfield idx, 3)) (hlk : Cond.fieldLink (mY M).cls idx "RowTriggers$Chains" "table" "[I" ∈ UU) (kk : PW M d n (pc + 3) ls (.ref 163 :: st) (hp x) Q) : PW M d n pc ls (.ref 162 :: st) (hp x) Q :=
  pw_getfield (k := 0) clX0 hd (hp_ot x 2) (by decide) hlk kk
theorem g6_signs {idx : Nat} (hd : decode (mC M) pc = .ok (.getfield idx, 3)) (hlk : Cond.fieldLink (mY M).cls idx "RowTriggers$Text" "signs" "[C" ∈ UU) (kk : PW M d n (pc + 3) ls (.ref 165 :: st) (hp x) Q) : PW M d n pc ls (.ref 164 :: st) (hp x) Q :=
  pw_getfield (k := 0) clX6 hd (hp_ot x 4) (by decide) hlk kk
theorem g6_length {idx : Nat} (hd : decode (mC M) pc = .ok (.getfield idx, 3)) (hlk : Cond.fieldLink (mY M).cls idx "RowTriggers$Text" "length" "I" ∈ UU) (kk : PW M d n (pc + 3) ls (.int (cTx x.1 0) :: st) (hp x) Q) : PW M d n pc ls (.ref 164 :: st) (hp x) Q :=
  pw_getfield (k := 1) clX6 hd (hp_ot x 4) (by decide) hlk kk
theorem p6_length {idx : Nat} {v : Int32} (hd : decode (mC M) pc = .ok (.putfield idx, 3)) (hlk : Cond.fieldLink (mY M).cls idx "RowTriggers$Text" "length" "I" ∈ UU) (kk : PW M d n (pc + 3) ls st (hp (uC5 x (upd (cTx x.1) 0 v))) Q) : PW M d n pc ls (.int v :: .ref 164 :: st) (hp x) Q := by
  refine pw_putfield (k := 1) clX6 hd (hp_ot x 4) (by decide) hlk rfl (fun G => narI G v) ?_
  rw [fnT _ 1 v (by decide) (by decide)]
  have e := hp_uo (x := x) (y := uC5 x (upd (cTx x.1) 0 v)) (o := 4) (fun _ => rfl) rfl (fun j hj => by simp only [otc, if_neg hj]; rfl)
  erw [e]
  exact kk
theorem g6_at {idx : Nat} (hd : decode (mC M) pc = .ok (.getfield idx, 3)) (hlk : Cond.fieldLink (mY M).cls idx "RowTriggers$Text" "at" "I" ∈ UU) (kk : PW M d n (pc + 3) ls (.int (cTx x.1 1) :: st) (hp x) Q) : PW M d n pc ls (.ref 164 :: st) (hp x) Q :=
  pw_getfield (k := 2) clX6 hd (hp_ot x 4) (by decide) hlk kk
theorem p6_at {idx : Nat} {v : Int32} (hd : decode (mC M) pc = .ok (.putfield idx, 3)) (hlk : Cond.fieldLink (mY M).cls idx "RowTriggers$Text" "at" "I" ∈ UU) (kk : PW M d n (pc + 3) ls st (hp (uC5 x (upd (cTx x.1) 1 v))) Q) : PW M d n pc ls (.int v :: .ref 164 :: st) (hp x) Q := by
  refine pw_putfield (k := 2) clX6 hd (hp_ot x 4) (by decide) hlk rfl (fun G => narI G v) ?_
  rw [fnT _ 2 v (by decide) (by decide)]
  have e := hp_uo (x := x) (y := uC5 x (upd (cTx x.1) 1 v)) (o := 4) (fun _ => rfl) rfl (fun j hj => by simp only [otc, if_neg hj]; rfl)
  erw [e]
  exact kk
theorem g6_command {idx : Nat} (hd : decode (mC M) pc = .ok (.getfield idx, 3)) (hlk : Cond.fieldLink (mY M).cls idx "RowTriggers$Text" "command" "C" ∈ UU) (kk : PW M d n (pc + 3) ls (.int (cTx x.1 2) :: st) (hp x) Q) : PW M d n pc ls (.ref 164 :: st) (hp x) Q :=
  pw_getfield (k := 3) clX6 hd (hp_ot x 4) (by decide) hlk kk
theorem p6_command {idx : Nat} {v : Int32} (hd : decode (mC M) pc = .ok (.putfield idx, 3)) (hlk : Cond.fieldLink (mY M).cls idx "RowTriggers$Text" "command" "C" ∈ UU) (hn : narrow .char (.int v) = .int v ∧ fits .char (.int v) = true) (kk : PW M d n (pc + 3) ls st (hp (uC5 x (upd (cTx x.1) 2 v))) Q) : PW M d n pc ls (.int v :: .ref 164 :: st) (hp x) Q := by
  refine pw_putfield (k := 3) clX6 hd (hp_ot x 4) (by decide) hlk rfl (fun _ => hn) ?_
  rw [fnT _ 3 v (by decide) (by decide)]
  have e := hp_uo (x := x) (y := uC5 x (upd (cTx x.1) 2 v)) (o := 4) (fun _ => rfl) rfl (fun j hj => by simp only [otc, if_neg hj]; rfl)
  erw [e]
  exact kk
theorem g6_numbers {idx : Nat} (hd : decode (mC M) pc = .ok (.getfield idx, 3)) (hlk : Cond.fieldLink (mY M).cls idx "RowTriggers$Text" "numbers" "[I" ∈ UU) (kk : PW M d n (pc + 3) ls (.ref 166 :: st) (hp x) Q) : PW M d n pc ls (.ref 164 :: st) (hp x) Q :=
  pw_getfield (k := 4) clX6 hd (hp_ot x 4) (by decide) hlk kk
theorem g1_states {idx : Nat} (hd : decode (mC M) pc = .ok (.getfield idx, 3)) (hlk : Cond.fieldLink (mY M).cls idx "RowTriggers$History" "states" "[LRowTriggers$State;" ∈ UU) (kk : PW M d n (pc + 3) ls (.ref 168 :: st) (hp x) Q) : PW M d n pc ls (.ref 167 :: st) (hp x) Q :=
  pw_getfield (k := 0) clX1 hd (hp_ot x 7) (by decide) hlk kk
theorem g1_size {idx : Nat} (hd : decode (mC M) pc = .ok (.getfield idx, 3)) (hlk : Cond.fieldLink (mY M).cls idx "RowTriggers$History" "size" "I" ∈ UU) (kk : PW M d n (pc + 3) ls (.int (cHi x.1 0) :: st) (hp x) Q) : PW M d n pc ls (.ref 167 :: st) (hp x) Q :=
  pw_getfield (k := 1) clX1 hd (hp_ot x 7) (by decide) hlk kk
theorem p1_size {idx : Nat} {v : Int32} (hd : decode (mC M) pc = .ok (.putfield idx, 3)) (hlk : Cond.fieldLink (mY M).cls idx "RowTriggers$History" "size" "I" ∈ UU) (kk : PW M d n (pc + 3) ls st (hp (uC7 x (upd (cHi x.1) 0 v))) Q) : PW M d n pc ls (.int v :: .ref 167 :: st) (hp x) Q := by
  refine pw_putfield (k := 1) clX1 hd (hp_ot x 7) (by decide) hlk rfl (fun G => narI G v) ?_
  rw [fn1 _ _ 1 v (by decide)]
  have e := hp_uo (x := x) (y := uC7 x (upd (cHi x.1) 0 v)) (o := 7) (fun _ => rfl) rfl (fun j hj => by simp only [otc, if_neg hj]; rfl)
  erw [e]
  exact kk
theorem g1_next {idx : Nat} (hd : decode (mC M) pc = .ok (.getfield idx, 3)) (hlk : Cond.fieldLink (mY M).cls idx "RowTriggers$History" "next" "I" ∈ UU) (kk : PW M d n (pc + 3) ls (.int (cHi x.1 1) :: st) (hp x) Q) : PW M d n pc ls (.ref 167 :: st) (hp x) Q :=
  pw_getfield (k := 2) clX1 hd (hp_ot x 7) (by decide) hlk kk
theorem p1_next {idx : Nat} {v : Int32} (hd : decode (mC M) pc = .ok (.putfield idx, 3)) (hlk : Cond.fieldLink (mY M).cls idx "RowTriggers$History" "next" "I" ∈ UU) (kk : PW M d n (pc + 3) ls st (hp (uC7 x (upd (cHi x.1) 1 v))) Q) : PW M d n pc ls (.int v :: .ref 167 :: st) (hp x) Q := by
  refine pw_putfield (k := 2) clX1 hd (hp_ot x 7) (by decide) hlk rfl (fun G => narI G v) ?_
  rw [fn1 _ _ 2 v (by decide)]
  have e := hp_uo (x := x) (y := uC7 x (upd (cHi x.1) 1 v)) (o := 7) (fun _ => rfl) rfl (fun j hj => by simp only [otc, if_neg hj]; rfl)
  erw [e]
  exact kk
theorem g8_thrown {idx : Nat} (hd : decode (mC M) pc = .ok (.getfield idx, 3)) (hlk : Cond.fieldLink (mY M).cls idx "RowTriggersModel" "thrown" "I" ∈ UU) (kk : PW M d n (pc + 3) ls (.int (mF x.2.1 0) :: st) (hp x) Q) : PW M d n pc ls (.ref 171 :: st) (hp x) Q :=
  pw_getfield (k := 0) clX8 hd (hp_ot x 11) (by decide) hlk kk
theorem p8_thrown {idx : Nat} {v : Int32} (hd : decode (mC M) pc = .ok (.putfield idx, 3)) (hlk : Cond.fieldLink (mY M).cls idx "RowTriggersModel" "thrown" "I" ∈ UU) (kk : PW M d n (pc + 3) ls st (hp (uM7 x (upd (mF x.2.1) 0 v))) Q) : PW M d n pc ls (.int v :: .ref 171 :: st) (hp x) Q := by
  refine pw_putfield (k := 0) clX8 hd (hp_ot x 11) (by decide) hlk rfl (fun G => narI G v) ?_
  rw [fnM _ 0 v (by decide)]
  have e := hp_uo (x := x) (y := uM7 x (upd (mF x.2.1) 0 v)) (o := 11) (fun _ => rfl) rfl (fun j hj => by simp only [otc, if_neg hj]; rfl)
  erw [e]
  exact kk
theorem g8_s {idx : Nat} (hd : decode (mC M) pc = .ok (.getfield idx, 3)) (hlk : Cond.fieldLink (mY M).cls idx "RowTriggersModel" "s" "[I" ∈ UU) (kk : PW M d n (pc + 3) ls (.ref 172 :: st) (hp x) Q) : PW M d n pc ls (.ref 171 :: st) (hp x) Q :=
  pw_getfield (k := 1) clX8 hd (hp_ot x 11) (by decide) hlk kk
theorem g8_aside {idx : Nat} (hd : decode (mC M) pc = .ok (.getfield idx, 3)) (hlk : Cond.fieldLink (mY M).cls idx "RowTriggersModel" "aside" "[I" ∈ UU) (kk : PW M d n (pc + 3) ls (.ref 173 :: st) (hp x) Q) : PW M d n pc ls (.ref 171 :: st) (hp x) Q :=
  pw_getfield (k := 2) clX8 hd (hp_ot x 11) (by decide) hlk kk
theorem g8_history {idx : Nat} (hd : decode (mC M) pc = .ok (.getfield idx, 3)) (hlk : Cond.fieldLink (mY M).cls idx "RowTriggersModel" "history" "[I" ∈ UU) (kk : PW M d n (pc + 3) ls (.ref 174 :: st) (hp x) Q) : PW M d n pc ls (.ref 171 :: st) (hp x) Q :=
  pw_getfield (k := 3) clX8 hd (hp_ot x 11) (by decide) hlk kk
theorem g8_known {idx : Nat} (hd : decode (mC M) pc = .ok (.getfield idx, 3)) (hlk : Cond.fieldLink (mY M).cls idx "RowTriggersModel" "known" "I" ∈ UU) (kk : PW M d n (pc + 3) ls (.int (mF x.2.1 4) :: st) (hp x) Q) : PW M d n pc ls (.ref 171 :: st) (hp x) Q :=
  pw_getfield (k := 4) clX8 hd (hp_ot x 11) (by decide) hlk kk
theorem p8_known {idx : Nat} {v : Int32} (hd : decode (mC M) pc = .ok (.putfield idx, 3)) (hlk : Cond.fieldLink (mY M).cls idx "RowTriggersModel" "known" "I" ∈ UU) (kk : PW M d n (pc + 3) ls st (hp (uM7 x (upd (mF x.2.1) 4 v))) Q) : PW M d n pc ls (.int v :: .ref 171 :: st) (hp x) Q := by
  refine pw_putfield (k := 4) clX8 hd (hp_ot x 11) (by decide) hlk rfl (fun G => narI G v) ?_
  rw [fnM _ 4 v (by decide)]
  have e := hp_uo (x := x) (y := uM7 x (upd (mF x.2.1) 4 v)) (o := 11) (fun _ => rfl) rfl (fun j hj => by simp only [otc, if_neg hj]; rfl)
  erw [e]
  exact kk
theorem g8_slots {idx : Nat} (hd : decode (mC M) pc = .ok (.getfield idx, 3)) (hlk : Cond.fieldLink (mY M).cls idx "RowTriggersModel" "slots" "[I" ∈ UU) (kk : PW M d n (pc + 3) ls (.ref 175 :: st) (hp x) Q) : PW M d n pc ls (.ref 171 :: st) (hp x) Q :=
  pw_getfield (k := 5) clX8 hd (hp_ot x 11) (by decide) hlk kk
theorem g8_kept {idx : Nat} (hd : decode (mC M) pc = .ok (.getfield idx, 3)) (hlk : Cond.fieldLink (mY M).cls idx "RowTriggersModel" "kept" "I" ∈ UU) (kk : PW M d n (pc + 3) ls (.int (mF x.2.1 6) :: st) (hp x) Q) : PW M d n pc ls (.ref 171 :: st) (hp x) Q :=
  pw_getfield (k := 6) clX8 hd (hp_ot x 11) (by decide) hlk kk
theorem p8_kept {idx : Nat} {v : Int32} (hd : decode (mC M) pc = .ok (.putfield idx, 3)) (hlk : Cond.fieldLink (mY M).cls idx "RowTriggersModel" "kept" "I" ∈ UU) (kk : PW M d n (pc + 3) ls st (hp (uM7 x (upd (mF x.2.1) 6 v))) Q) : PW M d n pc ls (.int v :: .ref 171 :: st) (hp x) Q := by
  refine pw_putfield (k := 6) clX8 hd (hp_ot x 11) (by decide) hlk rfl (fun G => narI G v) ?_
  rw [fnM _ 6 v (by decide)]
  have e := hp_uo (x := x) (y := uM7 x (upd (mF x.2.1) 6 v)) (o := 11) (fun _ => rfl) rfl (fun j hj => by simp only [otc, if_neg hj]; rfl)
  erw [e]
  exact kk
theorem g8_text {idx : Nat} (hd : decode (mC M) pc = .ok (.getfield idx, 3)) (hlk : Cond.fieldLink (mY M).cls idx "RowTriggersModel" "text" "[I" ∈ UU) (kk : PW M d n (pc + 3) ls (.ref 176 :: st) (hp x) Q) : PW M d n pc ls (.ref 171 :: st) (hp x) Q :=
  pw_getfield (k := 7) clX8 hd (hp_ot x 11) (by decide) hlk kk
theorem g8_length {idx : Nat} (hd : decode (mC M) pc = .ok (.getfield idx, 3)) (hlk : Cond.fieldLink (mY M).cls idx "RowTriggersModel" "length" "I" ∈ UU) (kk : PW M d n (pc + 3) ls (.int (mF x.2.1 8) :: st) (hp x) Q) : PW M d n pc ls (.ref 171 :: st) (hp x) Q :=
  pw_getfield (k := 8) clX8 hd (hp_ot x 11) (by decide) hlk kk
theorem p8_length {idx : Nat} {v : Int32} (hd : decode (mC M) pc = .ok (.putfield idx, 3)) (hlk : Cond.fieldLink (mY M).cls idx "RowTriggersModel" "length" "I" ∈ UU) (kk : PW M d n (pc + 3) ls st (hp (uM7 x (upd (mF x.2.1) 8 v))) Q) : PW M d n pc ls (.int v :: .ref 171 :: st) (hp x) Q := by
  refine pw_putfield (k := 8) clX8 hd (hp_ot x 11) (by decide) hlk rfl (fun G => narI G v) ?_
  rw [fnM _ 8 v (by decide)]
  have e := hp_uo (x := x) (y := uM7 x (upd (mF x.2.1) 8 v)) (o := 11) (fun _ => rfl) rfl (fun j hj => by simp only [otc, if_neg hj]; rfl)
  erw [e]
  exact kk
theorem g8_waiting {idx : Nat} (hd : decode (mC M) pc = .ok (.getfield idx, 3)) (hlk : Cond.fieldLink (mY M).cls idx "RowTriggersModel" "waiting" "[I" ∈ UU) (kk : PW M d n (pc + 3) ls (.ref 177 :: st) (hp x) Q) : PW M d n pc ls (.ref 171 :: st) (hp x) Q :=
  pw_getfield (k := 9) clX8 hd (hp_ot x 11) (by decide) hlk kk
theorem g8_depth {idx : Nat} (hd : decode (mC M) pc = .ok (.getfield idx, 3)) (hlk : Cond.fieldLink (mY M).cls idx "RowTriggersModel" "depth" "I" ∈ UU) (kk : PW M d n (pc + 3) ls (.int (mF x.2.1 10) :: st) (hp x) Q) : PW M d n pc ls (.ref 171 :: st) (hp x) Q :=
  pw_getfield (k := 10) clX8 hd (hp_ot x 11) (by decide) hlk kk
theorem p8_depth {idx : Nat} {v : Int32} (hd : decode (mC M) pc = .ok (.putfield idx, 3)) (hlk : Cond.fieldLink (mY M).cls idx "RowTriggersModel" "depth" "I" ∈ UU) (kk : PW M d n (pc + 3) ls st (hp (uM7 x (upd (mF x.2.1) 10 v))) Q) : PW M d n pc ls (.int v :: .ref 171 :: st) (hp x) Q := by
  refine pw_putfield (k := 10) clX8 hd (hp_ot x 11) (by decide) hlk rfl (fun G => narI G v) ?_
  rw [fnM _ 10 v (by decide)]
  have e := hp_uo (x := x) (y := uM7 x (upd (mF x.2.1) 10 v)) (o := 11) (fun _ => rfl) rfl (fun j hj => by simp only [otc, if_neg hj]; rfl)
  erw [e]
  exact kk
theorem g8_deepest {idx : Nat} (hd : decode (mC M) pc = .ok (.getfield idx, 3)) (hlk : Cond.fieldLink (mY M).cls idx "RowTriggersModel" "deepest" "I" ∈ UU) (kk : PW M d n (pc + 3) ls (.int (mF x.2.1 11) :: st) (hp x) Q) : PW M d n pc ls (.ref 171 :: st) (hp x) Q :=
  pw_getfield (k := 11) clX8 hd (hp_ot x 11) (by decide) hlk kk
theorem p8_deepest {idx : Nat} {v : Int32} (hd : decode (mC M) pc = .ok (.putfield idx, 3)) (hlk : Cond.fieldLink (mY M).cls idx "RowTriggersModel" "deepest" "I" ∈ UU) (kk : PW M d n (pc + 3) ls st (hp (uM7 x (upd (mF x.2.1) 11 v))) Q) : PW M d n pc ls (.int v :: .ref 171 :: st) (hp x) Q := by
  refine pw_putfield (k := 11) clX8 hd (hp_ot x 11) (by decide) hlk rfl (fun G => narI G v) ?_
  rw [fnM _ 11 v (by decide)]
  have e := hp_uo (x := x) (y := uM7 x (upd (mF x.2.1) 11 v)) (o := 11) (fun _ => rfl) rfl (fun j hj => by simp only [otc, if_neg hj]; rfl)
  erw [e]
  exact kk
theorem g8_happened {idx : Nat} (hd : decode (mC M) pc = .ok (.getfield idx, 3)) (hlk : Cond.fieldLink (mY M).cls idx "RowTriggersModel" "happened" "I" ∈ UU) (kk : PW M d n (pc + 3) ls (.int (mF x.2.1 12) :: st) (hp x) Q) : PW M d n pc ls (.ref 171 :: st) (hp x) Q :=
  pw_getfield (k := 12) clX8 hd (hp_ot x 11) (by decide) hlk kk
theorem p8_happened {idx : Nat} {v : Int32} (hd : decode (mC M) pc = .ok (.putfield idx, 3)) (hlk : Cond.fieldLink (mY M).cls idx "RowTriggersModel" "happened" "I" ∈ UU) (kk : PW M d n (pc + 3) ls st (hp (uM7 x (upd (mF x.2.1) 12 v))) Q) : PW M d n pc ls (.int v :: .ref 171 :: st) (hp x) Q := by
  refine pw_putfield (k := 12) clX8 hd (hp_ot x 11) (by decide) hlk rfl (fun G => narI G v) ?_
  rw [fnM _ 12 v (by decide)]
  have e := hp_uo (x := x) (y := uM7 x (upd (mF x.2.1) 12 v)) (o := 11) (fun _ => rfl) rfl (fun j hj => by simp only [otc, if_neg hj]; rfl)
  erw [e]
  exact kk
theorem g8_refused {idx : Nat} (hd : decode (mC M) pc = .ok (.getfield idx, 3)) (hlk : Cond.fieldLink (mY M).cls idx "RowTriggersModel" "refused" "I" ∈ UU) (kk : PW M d n (pc + 3) ls (.int (mF x.2.1 13) :: st) (hp x) Q) : PW M d n pc ls (.ref 171 :: st) (hp x) Q :=
  pw_getfield (k := 13) clX8 hd (hp_ot x 11) (by decide) hlk kk
theorem p8_refused {idx : Nat} {v : Int32} (hd : decode (mC M) pc = .ok (.putfield idx, 3)) (hlk : Cond.fieldLink (mY M).cls idx "RowTriggersModel" "refused" "I" ∈ UU) (kk : PW M d n (pc + 3) ls st (hp (uM7 x (upd (mF x.2.1) 13 v))) Q) : PW M d n pc ls (.int v :: .ref 171 :: st) (hp x) Q := by
  refine pw_putfield (k := 13) clX8 hd (hp_ot x 11) (by decide) hlk rfl (fun G => narI G v) ?_
  rw [fnM _ 13 v (by decide)]
  have e := hp_uo (x := x) (y := uM7 x (upd (mF x.2.1) 13 v)) (o := 11) (fun _ => rfl) rfl (fun j hj => by simp only [otc, if_neg hj]; rfl)
  erw [e]
  exact kk
theorem g8_spot {idx : Nat} (hd : decode (mC M) pc = .ok (.getfield idx, 3)) (hlk : Cond.fieldLink (mY M).cls idx "RowTriggersModel" "spot" "I" ∈ UU) (kk : PW M d n (pc + 3) ls (.int (mF x.2.1 14) :: st) (hp x) Q) : PW M d n pc ls (.ref 171 :: st) (hp x) Q :=
  pw_getfield (k := 14) clX8 hd (hp_ot x 11) (by decide) hlk kk
theorem p8_spot {idx : Nat} {v : Int32} (hd : decode (mC M) pc = .ok (.putfield idx, 3)) (hlk : Cond.fieldLink (mY M).cls idx "RowTriggersModel" "spot" "I" ∈ UU) (kk : PW M d n (pc + 3) ls st (hp (uM7 x (upd (mF x.2.1) 14 v))) Q) : PW M d n pc ls (.int v :: .ref 171 :: st) (hp x) Q := by
  refine pw_putfield (k := 14) clX8 hd (hp_ot x 11) (by decide) hlk rfl (fun G => narI G v) ?_
  rw [fnM _ 14 v (by decide)]
  have e := hp_uo (x := x) (y := uM7 x (upd (mF x.2.1) 14 v)) (o := 11) (fun _ => rfl) rfl (fun j hj => by simp only [otc, if_neg hj]; rfl)
  erw [e]
  exact kk
theorem g8_isWrong {idx : Nat} (hd : decode (mC M) pc = .ok (.getfield idx, 3)) (hlk : Cond.fieldLink (mY M).cls idx "RowTriggersModel" "isWrong" "Z" ∈ UU) (kk : PW M d n (pc + 3) ls (.int (mF x.2.1 15) :: st) (hp x) Q) : PW M d n pc ls (.ref 171 :: st) (hp x) Q :=
  pw_getfield (k := 15) clX8 hd (hp_ot x 11) (by decide) hlk kk
theorem p8_isWrong {idx : Nat} {v : Int32} (hd : decode (mC M) pc = .ok (.putfield idx, 3)) (hlk : Cond.fieldLink (mY M).cls idx "RowTriggersModel" "isWrong" "Z" ∈ UU) (hn : narrow .boolean (.int v) = .int v ∧ fits .boolean (.int v) = true) (kk : PW M d n (pc + 3) ls st (hp (uM7 x (upd (mF x.2.1) 15 v))) Q) : PW M d n pc ls (.int v :: .ref 171 :: st) (hp x) Q := by
  refine pw_putfield (k := 15) clX8 hd (hp_ot x 11) (by decide) hlk rfl (fun _ => hn) ?_
  rw [fnM _ 15 v (by decide)]
  have e := hp_uo (x := x) (y := uM7 x (upd (mF x.2.1) 15 v)) (o := 11) (fun _ => rfl) rfl (fun j hj => by simp only [otc, if_neg hj]; rfl)
  erw [e]
  exact kk
theorem g8_sign {idx : Nat} (hd : decode (mC M) pc = .ok (.getfield idx, 3)) (hlk : Cond.fieldLink (mY M).cls idx "RowTriggersModel" "sign" "I" ∈ UU) (kk : PW M d n (pc + 3) ls (.int (mF x.2.1 16) :: st) (hp x) Q) : PW M d n pc ls (.ref 171 :: st) (hp x) Q :=
  pw_getfield (k := 16) clX8 hd (hp_ot x 11) (by decide) hlk kk
theorem p8_sign {idx : Nat} {v : Int32} (hd : decode (mC M) pc = .ok (.putfield idx, 3)) (hlk : Cond.fieldLink (mY M).cls idx "RowTriggersModel" "sign" "I" ∈ UU) (kk : PW M d n (pc + 3) ls st (hp (uM7 x (upd (mF x.2.1) 16 v))) Q) : PW M d n pc ls (.int v :: .ref 171 :: st) (hp x) Q := by
  refine pw_putfield (k := 16) clX8 hd (hp_ot x 11) (by decide) hlk rfl (fun G => narI G v) ?_
  rw [fnM _ 16 v (by decide)]
  have e := hp_uo (x := x) (y := uM7 x (upd (mF x.2.1) 16 v)) (o := 11) (fun _ => rfl) rfl (fun j hj => by simp only [otc, if_neg hj]; rfl)
  erw [e]
  exact kk
theorem g8_line {idx : Nat} (hd : decode (mC M) pc = .ok (.getfield idx, 3)) (hlk : Cond.fieldLink (mY M).cls idx "RowTriggersModel" "line" "I" ∈ UU) (kk : PW M d n (pc + 3) ls (.int (mF x.2.1 17) :: st) (hp x) Q) : PW M d n pc ls (.ref 171 :: st) (hp x) Q :=
  pw_getfield (k := 17) clX8 hd (hp_ot x 11) (by decide) hlk kk
theorem p8_line {idx : Nat} {v : Int32} (hd : decode (mC M) pc = .ok (.putfield idx, 3)) (hlk : Cond.fieldLink (mY M).cls idx "RowTriggersModel" "line" "I" ∈ UU) (kk : PW M d n (pc + 3) ls st (hp (uM7 x (upd (mF x.2.1) 17 v))) Q) : PW M d n pc ls (.int v :: .ref 171 :: st) (hp x) Q := by
  refine pw_putfield (k := 17) clX8 hd (hp_ot x 11) (by decide) hlk rfl (fun G => narI G v) ?_
  rw [fnM _ 17 v (by decide)]
  have e := hp_uo (x := x) (y := uM7 x (upd (mF x.2.1) 17 v)) (o := 11) (fun _ => rfl) rfl (fun j hj => by simp only [otc, if_neg hj]; rfl)
  erw [e]
  exact kk
theorem g8_one {idx : Nat} (hd : decode (mC M) pc = .ok (.getfield idx, 3)) (hlk : Cond.fieldLink (mY M).cls idx "RowTriggersModel" "one" "I" ∈ UU) (kk : PW M d n (pc + 3) ls (.int (mF x.2.1 18) :: st) (hp x) Q) : PW M d n pc ls (.ref 171 :: st) (hp x) Q :=
  pw_getfield (k := 18) clX8 hd (hp_ot x 11) (by decide) hlk kk
theorem p8_one {idx : Nat} {v : Int32} (hd : decode (mC M) pc = .ok (.putfield idx, 3)) (hlk : Cond.fieldLink (mY M).cls idx "RowTriggersModel" "one" "I" ∈ UU) (kk : PW M d n (pc + 3) ls st (hp (uM7 x (upd (mF x.2.1) 18 v))) Q) : PW M d n pc ls (.int v :: .ref 171 :: st) (hp x) Q := by
  refine pw_putfield (k := 18) clX8 hd (hp_ot x 11) (by decide) hlk rfl (fun G => narI G v) ?_
  rw [fnM _ 18 v (by decide)]
  have e := hp_uo (x := x) (y := uM7 x (upd (mF x.2.1) 18 v)) (o := 11) (fun _ => rfl) rfl (fun j hj => by simp only [otc, if_neg hj]; rfl)
  erw [e]
  exact kk
theorem g8_two {idx : Nat} (hd : decode (mC M) pc = .ok (.getfield idx, 3)) (hlk : Cond.fieldLink (mY M).cls idx "RowTriggersModel" "two" "I" ∈ UU) (kk : PW M d n (pc + 3) ls (.int (mF x.2.1 19) :: st) (hp x) Q) : PW M d n pc ls (.ref 171 :: st) (hp x) Q :=
  pw_getfield (k := 19) clX8 hd (hp_ot x 11) (by decide) hlk kk
theorem p8_two {idx : Nat} {v : Int32} (hd : decode (mC M) pc = .ok (.putfield idx, 3)) (hlk : Cond.fieldLink (mY M).cls idx "RowTriggersModel" "two" "I" ∈ UU) (kk : PW M d n (pc + 3) ls st (hp (uM7 x (upd (mF x.2.1) 19 v))) Q) : PW M d n pc ls (.int v :: .ref 171 :: st) (hp x) Q := by
  refine pw_putfield (k := 19) clX8 hd (hp_ot x 11) (by decide) hlk rfl (fun G => narI G v) ?_
  rw [fnM _ 19 v (by decide)]
  have e := hp_uo (x := x) (y := uM7 x (upd (mF x.2.1) 19 v)) (o := 11) (fun _ => rfl) rfl (fun j hj => by simp only [otc, if_neg hj]; rfl)
  erw [e]
  exact kk
theorem g8_three {idx : Nat} (hd : decode (mC M) pc = .ok (.getfield idx, 3)) (hlk : Cond.fieldLink (mY M).cls idx "RowTriggersModel" "three" "I" ∈ UU) (kk : PW M d n (pc + 3) ls (.int (mF x.2.1 20) :: st) (hp x) Q) : PW M d n pc ls (.ref 171 :: st) (hp x) Q :=
  pw_getfield (k := 20) clX8 hd (hp_ot x 11) (by decide) hlk kk
theorem p8_three {idx : Nat} {v : Int32} (hd : decode (mC M) pc = .ok (.putfield idx, 3)) (hlk : Cond.fieldLink (mY M).cls idx "RowTriggersModel" "three" "I" ∈ UU) (kk : PW M d n (pc + 3) ls st (hp (uM7 x (upd (mF x.2.1) 20 v))) Q) : PW M d n pc ls (.int v :: .ref 171 :: st) (hp x) Q := by
  refine pw_putfield (k := 20) clX8 hd (hp_ot x 11) (by decide) hlk rfl (fun G => narI G v) ?_
  rw [fnM _ 20 v (by decide)]
  have e := hp_uo (x := x) (y := uM7 x (upd (mF x.2.1) 20 v)) (o := 11) (fun _ => rfl) rfl (fun j hj => by simp only [otc, if_neg hj]; rfl)
  erw [e]
  exact kk
theorem g8_done {idx : Nat} (hd : decode (mC M) pc = .ok (.getfield idx, 3)) (hlk : Cond.fieldLink (mY M).cls idx "RowTriggersModel" "done" "I" ∈ UU) (kk : PW M d n (pc + 3) ls (.int (mF x.2.1 21) :: st) (hp x) Q) : PW M d n pc ls (.ref 171 :: st) (hp x) Q :=
  pw_getfield (k := 21) clX8 hd (hp_ot x 11) (by decide) hlk kk
theorem p8_done {idx : Nat} {v : Int32} (hd : decode (mC M) pc = .ok (.putfield idx, 3)) (hlk : Cond.fieldLink (mY M).cls idx "RowTriggersModel" "done" "I" ∈ UU) (kk : PW M d n (pc + 3) ls st (hp (uM7 x (upd (mF x.2.1) 21 v))) Q) : PW M d n pc ls (.int v :: .ref 171 :: st) (hp x) Q := by
  refine pw_putfield (k := 21) clX8 hd (hp_ot x 11) (by decide) hlk rfl (fun G => narI G v) ?_
  rw [fnM _ 21 v (by decide)]
  have e := hp_uo (x := x) (y := uM7 x (upd (mF x.2.1) 21 v)) (o := 11) (fun _ => rfl) rfl (fun j hj => by simp only [otc, if_neg hj]; rfl)
  erw [e]
  exact kk
theorem al_there {i : Int32} {b : Nat} (hb : b < 10) (hd : decode (mC M) pc = .ok (.baload, 1)) (hin : vp_in i 6) (kk : PW M d n (pc + 1) ls (.int (sTh (cSt x.1 b) i.toNatClampNeg) :: st) (hp x) Q) : PW M d n pc ls (.int i :: .ref (16 * b + 1) :: st) (hp x) Q :=
  pw_zald hd (hp_st x hb (by decide : 1 < 16)) hin kk
theorem as_there {i : Int32} {v : Int32} {b : Nat} (hb : b < 10) (hd : decode (mC M) pc = .ok (.bastore, 1)) (hin : vp_in i 6) (hn : narrow .boolean (.int v) = .int v) (kk : PW M d n (pc + 1) ls st (hp (uC1 x b (uS1 (cSt x.1 b) (upd (sTh (cSt x.1 b)) i.toNatClampNeg v)))) Q) : PW M d n pc ls (.int v :: .int i :: .ref (16 * b + 1) :: st) (hp x) Q := by
  refine pw_zast hd (hp_st x hb (by decide : 1 < 16)) hin hn ?_
  rw [iA_st]
  have e := hp_us (x := x) (b := b) (o := 1) (uS1 (cSt x.1 b) (upd (sTh (cSt x.1 b)) i.toNatClampNeg v)) hb (by decide) rfl (fun j _ hj => stcTh b j _ _ hj)
  erw [e]
  exact kk
theorem al_there_e {e : Nat} {i : Int32} {b : Nat} (hb : b < 10) (hd : decode (mC M) pc = .ok (.baload, 1)) (hi : i = nI e) (he : e < 6) (kk : PW M d n (pc + 1) ls (.int (sTh (cSt x.1 b) e) :: st) (hp x) Q) : PW M d n pc ls (.int i :: .ref (16 * b + 1) :: st) (hp x) Q := by
  subst hi
  exact al_there hb hd (vp_in_nI he (by decide)) (by rw [nI_clamp (by omega)]; exact kk)
theorem as_there_e {e : Nat} {i : Int32} {v : Int32} {b : Nat} (hb : b < 10) (hd : decode (mC M) pc = .ok (.bastore, 1)) (hi : i = nI e) (he : e < 6) (hn : narrow .boolean (.int v) = .int v) (kk : PW M d n (pc + 1) ls st (hp (uC1 x b (uS1 (cSt x.1 b) (upd (sTh (cSt x.1 b)) e v)))) Q) : PW M d n pc ls (.int v :: .int i :: .ref (16 * b + 1) :: st) (hp x) Q := by
  subst hi
  exact as_there hb hd (vp_in_nI he (by decide)) hn (by rw [nI_clamp (by omega)]; exact kk)
theorem al_values {i : Int32} {b : Nat} (hb : b < 10) (hd : decode (mC M) pc = .ok (.iaload, 1)) (hin : vp_in i 18) (kk : PW M d n (pc + 1) ls (.int (sVa (cSt x.1 b) i.toNatClampNeg) :: st) (hp x) Q) : PW M d n pc ls (.int i :: .ref (16 * b + 2) :: st) (hp x) Q :=
  pw_iald hd (hp_st x hb (by decide : 2 < 16)) hin kk
theorem as_values {i : Int32} {v : Int32} {b : Nat} (hb : b < 10) (hd : decode (mC M) pc = .ok (.iastore, 1)) (hin : vp_in i 18) (kk : PW M d n (pc + 1) ls st (hp (uC1 x b (uS2 (cSt x.1 b) (upd (sVa (cSt x.1 b)) i.toNatClampNeg v)))) Q) : PW M d n pc ls (.int v :: .int i :: .ref (16 * b + 2) :: st) (hp x) Q := by
  refine pw_iast hd (hp_st x hb (by decide : 2 < 16)) hin ?_
  rw [iA_st]
  have e := hp_us (x := x) (b := b) (o := 2) (uS2 (cSt x.1 b) (upd (sVa (cSt x.1 b)) i.toNatClampNeg v)) hb (by decide) rfl (fun j _ hj => stcVa b j _ _ hj)
  erw [e]
  exact kk
theorem al_values_e {e : Nat} {i : Int32} {b : Nat} (hb : b < 10) (hd : decode (mC M) pc = .ok (.iaload, 1)) (hi : i = nI e) (he : e < 18) (kk : PW M d n (pc + 1) ls (.int (sVa (cSt x.1 b) e) :: st) (hp x) Q) : PW M d n pc ls (.int i :: .ref (16 * b + 2) :: st) (hp x) Q := by
  subst hi
  exact al_values hb hd (vp_in_nI he (by decide)) (by rw [nI_clamp (by omega)]; exact kk)
theorem as_values_e {e : Nat} {i : Int32} {v : Int32} {b : Nat} (hb : b < 10) (hd : decode (mC M) pc = .ok (.iastore, 1)) (hi : i = nI e) (he : e < 18) (kk : PW M d n (pc + 1) ls st (hp (uC1 x b (uS2 (cSt x.1 b) (upd (sVa (cSt x.1 b)) e v)))) Q) : PW M d n pc ls (.int v :: .int i :: .ref (16 * b + 2) :: st) (hp x) Q := by
  subst hi
  exact as_values hb hd (vp_in_nI he (by decide)) (by rw [nI_clamp (by omega)]; exact kk)
theorem al_lr {i : Int32} {b : Nat} (hb : b < 10) (hd : decode (mC M) pc = .ok (.iaload, 1)) (hin : vp_in i 16) (kk : PW M d n (pc + 1) ls (.int (sLr (cSt x.1 b) i.toNatClampNeg) :: st) (hp x) Q) : PW M d n pc ls (.int i :: .ref (16 * b + 5) :: st) (hp x) Q :=
  pw_iald hd (hp_st x hb (by decide : 5 < 16)) hin kk
theorem as_lr {i : Int32} {v : Int32} {b : Nat} (hb : b < 10) (hd : decode (mC M) pc = .ok (.iastore, 1)) (hin : vp_in i 16) (kk : PW M d n (pc + 1) ls st (hp (uC1 x b (uS4 (cSt x.1 b) (upd (sLr (cSt x.1 b)) i.toNatClampNeg v)))) Q) : PW M d n pc ls (.int v :: .int i :: .ref (16 * b + 5) :: st) (hp x) Q := by
  refine pw_iast hd (hp_st x hb (by decide : 5 < 16)) hin ?_
  rw [iA_st]
  have e := hp_us (x := x) (b := b) (o := 5) (uS4 (cSt x.1 b) (upd (sLr (cSt x.1 b)) i.toNatClampNeg v)) hb (by decide) rfl (fun j _ hj => stcLr b j _ _ hj)
  erw [e]
  exact kk
theorem al_lr_e {e : Nat} {i : Int32} {b : Nat} (hb : b < 10) (hd : decode (mC M) pc = .ok (.iaload, 1)) (hi : i = nI e) (he : e < 16) (kk : PW M d n (pc + 1) ls (.int (sLr (cSt x.1 b) e) :: st) (hp x) Q) : PW M d n pc ls (.int i :: .ref (16 * b + 5) :: st) (hp x) Q := by
  subst hi
  exact al_lr hb hd (vp_in_nI he (by decide)) (by rw [nI_clamp (by omega)]; exact kk)
theorem as_lr_e {e : Nat} {i : Int32} {v : Int32} {b : Nat} (hb : b < 10) (hd : decode (mC M) pc = .ok (.iastore, 1)) (hi : i = nI e) (he : e < 16) (kk : PW M d n (pc + 1) ls st (hp (uC1 x b (uS4 (cSt x.1 b) (upd (sLr (cSt x.1 b)) e v)))) Q) : PW M d n pc ls (.int v :: .int i :: .ref (16 * b + 5) :: st) (hp x) Q := by
  subst hi
  exact as_lr hb hd (vp_in_nI he (by decide)) (by rw [nI_clamp (by omega)]; exact kk)
theorem al_ld {i : Int32} {b : Nat} (hb : b < 10) (hd : decode (mC M) pc = .ok (.iaload, 1)) (hin : vp_in i 16) (kk : PW M d n (pc + 1) ls (.int (sLd (cSt x.1 b) i.toNatClampNeg) :: st) (hp x) Q) : PW M d n pc ls (.int i :: .ref (16 * b + 6) :: st) (hp x) Q :=
  pw_iald hd (hp_st x hb (by decide : 6 < 16)) hin kk
theorem as_ld {i : Int32} {v : Int32} {b : Nat} (hb : b < 10) (hd : decode (mC M) pc = .ok (.iastore, 1)) (hin : vp_in i 16) (kk : PW M d n (pc + 1) ls st (hp (uC1 x b (uS5 (cSt x.1 b) (upd (sLd (cSt x.1 b)) i.toNatClampNeg v)))) Q) : PW M d n pc ls (.int v :: .int i :: .ref (16 * b + 6) :: st) (hp x) Q := by
  refine pw_iast hd (hp_st x hb (by decide : 6 < 16)) hin ?_
  rw [iA_st]
  have e := hp_us (x := x) (b := b) (o := 6) (uS5 (cSt x.1 b) (upd (sLd (cSt x.1 b)) i.toNatClampNeg v)) hb (by decide) rfl (fun j _ hj => stcLd b j _ _ hj)
  erw [e]
  exact kk
theorem al_ld_e {e : Nat} {i : Int32} {b : Nat} (hb : b < 10) (hd : decode (mC M) pc = .ok (.iaload, 1)) (hi : i = nI e) (he : e < 16) (kk : PW M d n (pc + 1) ls (.int (sLd (cSt x.1 b) e) :: st) (hp x) Q) : PW M d n pc ls (.int i :: .ref (16 * b + 6) :: st) (hp x) Q := by
  subst hi
  exact al_ld hb hd (vp_in_nI he (by decide)) (by rw [nI_clamp (by omega)]; exact kk)
theorem as_ld_e {e : Nat} {i : Int32} {v : Int32} {b : Nat} (hb : b < 10) (hd : decode (mC M) pc = .ok (.iastore, 1)) (hi : i = nI e) (he : e < 16) (kk : PW M d n (pc + 1) ls st (hp (uC1 x b (uS5 (cSt x.1 b) (upd (sLd (cSt x.1 b)) e v)))) Q) : PW M d n pc ls (.int v :: .int i :: .ref (16 * b + 6) :: st) (hp x) Q := by
  subst hi
  exact as_ld hb hd (vp_in_nI he (by decide)) (by rw [nI_clamp (by omega)]; exact kk)
theorem al_table {i : Int32} (hd : decode (mC M) pc = .ok (.iaload, 1)) (hin : vp_in i 8) (kk : PW M d n (pc + 1) ls (.int (cCt x.1 i.toNatClampNeg) :: st) (hp x) Q) : PW M d n pc ls (.int i :: .ref 163 :: st) (hp x) Q :=
  pw_iald hd (hp_ot x 3) hin kk
theorem as_table {i : Int32} {v : Int32} (hd : decode (mC M) pc = .ok (.iastore, 1)) (hin : vp_in i 8) (kk : PW M d n (pc + 1) ls st (hp (uC3 x (upd (cCt x.1) i.toNatClampNeg v))) Q) : PW M d n pc ls (.int v :: .int i :: .ref 163 :: st) (hp x) Q := by
  refine pw_iast hd (hp_ot x 3) hin ?_
  rw [iA_st]
  have e := hp_uo (x := x) (y := uC3 x (upd (cCt x.1) i.toNatClampNeg v)) (o := 3) (fun _ => rfl) rfl (fun j hj => by simp only [otc, if_neg hj]; rfl)
  erw [e]
  exact kk
theorem al_table_e {e : Nat} {i : Int32} (hd : decode (mC M) pc = .ok (.iaload, 1)) (hi : i = nI e) (he : e < 8) (kk : PW M d n (pc + 1) ls (.int (cCt x.1 e) :: st) (hp x) Q) : PW M d n pc ls (.int i :: .ref 163 :: st) (hp x) Q := by
  subst hi
  exact al_table hd (vp_in_nI he (by decide)) (by rw [nI_clamp (by omega)]; exact kk)
theorem as_table_e {e : Nat} {i : Int32} {v : Int32} (hd : decode (mC M) pc = .ok (.iastore, 1)) (hi : i = nI e) (he : e < 8) (kk : PW M d n (pc + 1) ls st (hp (uC3 x (upd (cCt x.1) e v))) Q) : PW M d n pc ls (.int v :: .int i :: .ref 163 :: st) (hp x) Q := by
  subst hi
  exact as_table hd (vp_in_nI he (by decide)) (by rw [nI_clamp (by omega)]; exact kk)
theorem al_signs {i : Int32} (hd : decode (mC M) pc = .ok (.caload, 1)) (hin : vp_in i 80) (kk : PW M d n (pc + 1) ls (.int (cSg x.1 i.toNatClampNeg) :: st) (hp x) Q) : PW M d n pc ls (.int i :: .ref 165 :: st) (hp x) Q :=
  pw_cald hd (hp_ot x 5) hin kk
theorem as_signs {i : Int32} {v : Int32} (hd : decode (mC M) pc = .ok (.castore, 1)) (hin : vp_in i 80) (hn : narrow .char (.int v) = .int v) (kk : PW M d n (pc + 1) ls st (hp (uC4 x (upd (cSg x.1) i.toNatClampNeg v))) Q) : PW M d n pc ls (.int v :: .int i :: .ref 165 :: st) (hp x) Q := by
  refine pw_cast hd (hp_ot x 5) hin hn ?_
  rw [iA_st]
  have e := hp_uo (x := x) (y := uC4 x (upd (cSg x.1) i.toNatClampNeg v)) (o := 5) (fun _ => rfl) rfl (fun j hj => by simp only [otc, if_neg hj]; rfl)
  erw [e]
  exact kk
theorem al_signs_e {e : Nat} {i : Int32} (hd : decode (mC M) pc = .ok (.caload, 1)) (hi : i = nI e) (he : e < 80) (kk : PW M d n (pc + 1) ls (.int (cSg x.1 e) :: st) (hp x) Q) : PW M d n pc ls (.int i :: .ref 165 :: st) (hp x) Q := by
  subst hi
  exact al_signs hd (vp_in_nI he (by decide)) (by rw [nI_clamp (by omega)]; exact kk)
theorem as_signs_e {e : Nat} {i : Int32} {v : Int32} (hd : decode (mC M) pc = .ok (.castore, 1)) (hi : i = nI e) (he : e < 80) (hn : narrow .char (.int v) = .int v) (kk : PW M d n (pc + 1) ls st (hp (uC4 x (upd (cSg x.1) e v))) Q) : PW M d n pc ls (.int v :: .int i :: .ref 165 :: st) (hp x) Q := by
  subst hi
  exact as_signs hd (vp_in_nI he (by decide)) hn (by rw [nI_clamp (by omega)]; exact kk)
theorem al_numbers {i : Int32} (hd : decode (mC M) pc = .ok (.iaload, 1)) (hin : vp_in i 4) (kk : PW M d n (pc + 1) ls (.int (cNu x.1 i.toNatClampNeg) :: st) (hp x) Q) : PW M d n pc ls (.int i :: .ref 166 :: st) (hp x) Q :=
  pw_iald hd (hp_ot x 6) hin kk
theorem as_numbers {i : Int32} {v : Int32} (hd : decode (mC M) pc = .ok (.iastore, 1)) (hin : vp_in i 4) (kk : PW M d n (pc + 1) ls st (hp (uC6 x (upd (cNu x.1) i.toNatClampNeg v))) Q) : PW M d n pc ls (.int v :: .int i :: .ref 166 :: st) (hp x) Q := by
  refine pw_iast hd (hp_ot x 6) hin ?_
  rw [iA_st]
  have e := hp_uo (x := x) (y := uC6 x (upd (cNu x.1) i.toNatClampNeg v)) (o := 6) (fun _ => rfl) rfl (fun j hj => by simp only [otc, if_neg hj]; rfl)
  erw [e]
  exact kk
theorem al_numbers_e {e : Nat} {i : Int32} (hd : decode (mC M) pc = .ok (.iaload, 1)) (hi : i = nI e) (he : e < 4) (kk : PW M d n (pc + 1) ls (.int (cNu x.1 e) :: st) (hp x) Q) : PW M d n pc ls (.int i :: .ref 166 :: st) (hp x) Q := by
  subst hi
  exact al_numbers hd (vp_in_nI he (by decide)) (by rw [nI_clamp (by omega)]; exact kk)
theorem as_numbers_e {e : Nat} {i : Int32} {v : Int32} (hd : decode (mC M) pc = .ok (.iastore, 1)) (hi : i = nI e) (he : e < 4) (kk : PW M d n (pc + 1) ls st (hp (uC6 x (upd (cNu x.1) e v))) Q) : PW M d n pc ls (.int v :: .int i :: .ref 166 :: st) (hp x) Q := by
  subst hi
  exact as_numbers hd (vp_in_nI he (by decide)) (by rw [nI_clamp (by omega)]; exact kk)
theorem al_filled {i : Int32} (hd : decode (mC M) pc = .ok (.baload, 1)) (hin : vp_in i 2) (kk : PW M d n (pc + 1) ls (.int (cSf x.1 i.toNatClampNeg) :: st) (hp x) Q) : PW M d n pc ls (.int i :: .ref 170 :: st) (hp x) Q :=
  pw_zald hd (hp_ot x 10) hin kk
theorem as_filled {i : Int32} {v : Int32} (hd : decode (mC M) pc = .ok (.bastore, 1)) (hin : vp_in i 2) (hn : narrow .boolean (.int v) = .int v) (kk : PW M d n (pc + 1) ls st (hp (uC8 x (upd (cSf x.1) i.toNatClampNeg v))) Q) : PW M d n pc ls (.int v :: .int i :: .ref 170 :: st) (hp x) Q := by
  refine pw_zast hd (hp_ot x 10) hin hn ?_
  rw [iA_st]
  have e := hp_uo (x := x) (y := uC8 x (upd (cSf x.1) i.toNatClampNeg v)) (o := 10) (fun _ => rfl) rfl (fun j hj => by simp only [otc, if_neg hj]; rfl)
  erw [e]
  exact kk
theorem al_filled_e {e : Nat} {i : Int32} (hd : decode (mC M) pc = .ok (.baload, 1)) (hi : i = nI e) (he : e < 2) (kk : PW M d n (pc + 1) ls (.int (cSf x.1 e) :: st) (hp x) Q) : PW M d n pc ls (.int i :: .ref 170 :: st) (hp x) Q := by
  subst hi
  exact al_filled hd (vp_in_nI he (by decide)) (by rw [nI_clamp (by omega)]; exact kk)
theorem as_filled_e {e : Nat} {i : Int32} {v : Int32} (hd : decode (mC M) pc = .ok (.bastore, 1)) (hi : i = nI e) (he : e < 2) (hn : narrow .boolean (.int v) = .int v) (kk : PW M d n (pc + 1) ls st (hp (uC8 x (upd (cSf x.1) e v))) Q) : PW M d n pc ls (.int v :: .int i :: .ref 170 :: st) (hp x) Q := by
  subst hi
  exact as_filled hd (vp_in_nI he (by decide)) hn (by rw [nI_clamp (by omega)]; exact kk)
theorem al_s {i : Int32} (hd : decode (mC M) pc = .ok (.iaload, 1)) (hin : vp_in i 132) (kk : PW M d n (pc + 1) ls (.int (mS x.2.1 i.toNatClampNeg) :: st) (hp x) Q) : PW M d n pc ls (.int i :: .ref 172 :: st) (hp x) Q :=
  pw_iald hd (hp_ot x 12) hin kk
theorem as_s {i : Int32} {v : Int32} (hd : decode (mC M) pc = .ok (.iastore, 1)) (hin : vp_in i 132) (kk : PW M d n (pc + 1) ls st (hp (uM1 x (upd (mS x.2.1) i.toNatClampNeg v))) Q) : PW M d n pc ls (.int v :: .int i :: .ref 172 :: st) (hp x) Q := by
  refine pw_iast hd (hp_ot x 12) hin ?_
  rw [iA_st]
  have e := hp_uo (x := x) (y := uM1 x (upd (mS x.2.1) i.toNatClampNeg v)) (o := 12) (fun _ => rfl) rfl (fun j hj => by simp only [otc, if_neg hj]; rfl)
  erw [e]
  exact kk
theorem al_s_e {e : Nat} {i : Int32} (hd : decode (mC M) pc = .ok (.iaload, 1)) (hi : i = nI e) (he : e < 132) (kk : PW M d n (pc + 1) ls (.int (mS x.2.1 e) :: st) (hp x) Q) : PW M d n pc ls (.int i :: .ref 172 :: st) (hp x) Q := by
  subst hi
  exact al_s hd (vp_in_nI he (by decide)) (by rw [nI_clamp (by omega)]; exact kk)
theorem as_s_e {e : Nat} {i : Int32} {v : Int32} (hd : decode (mC M) pc = .ok (.iastore, 1)) (hi : i = nI e) (he : e < 132) (kk : PW M d n (pc + 1) ls st (hp (uM1 x (upd (mS x.2.1) e v))) Q) : PW M d n pc ls (.int v :: .int i :: .ref 172 :: st) (hp x) Q := by
  subst hi
  exact as_s hd (vp_in_nI he (by decide)) (by rw [nI_clamp (by omega)]; exact kk)
theorem al_aside {i : Int32} (hd : decode (mC M) pc = .ok (.iaload, 1)) (hin : vp_in i 132) (kk : PW M d n (pc + 1) ls (.int (mA x.2.1 i.toNatClampNeg) :: st) (hp x) Q) : PW M d n pc ls (.int i :: .ref 173 :: st) (hp x) Q :=
  pw_iald hd (hp_ot x 13) hin kk
theorem as_aside {i : Int32} {v : Int32} (hd : decode (mC M) pc = .ok (.iastore, 1)) (hin : vp_in i 132) (kk : PW M d n (pc + 1) ls st (hp (uM2 x (upd (mA x.2.1) i.toNatClampNeg v))) Q) : PW M d n pc ls (.int v :: .int i :: .ref 173 :: st) (hp x) Q := by
  refine pw_iast hd (hp_ot x 13) hin ?_
  rw [iA_st]
  have e := hp_uo (x := x) (y := uM2 x (upd (mA x.2.1) i.toNatClampNeg v)) (o := 13) (fun _ => rfl) rfl (fun j hj => by simp only [otc, if_neg hj]; rfl)
  erw [e]
  exact kk
theorem al_aside_e {e : Nat} {i : Int32} (hd : decode (mC M) pc = .ok (.iaload, 1)) (hi : i = nI e) (he : e < 132) (kk : PW M d n (pc + 1) ls (.int (mA x.2.1 e) :: st) (hp x) Q) : PW M d n pc ls (.int i :: .ref 173 :: st) (hp x) Q := by
  subst hi
  exact al_aside hd (vp_in_nI he (by decide)) (by rw [nI_clamp (by omega)]; exact kk)
theorem as_aside_e {e : Nat} {i : Int32} {v : Int32} (hd : decode (mC M) pc = .ok (.iastore, 1)) (hi : i = nI e) (he : e < 132) (kk : PW M d n (pc + 1) ls st (hp (uM2 x (upd (mA x.2.1) e v))) Q) : PW M d n pc ls (.int v :: .int i :: .ref 173 :: st) (hp x) Q := by
  subst hi
  exact as_aside hd (vp_in_nI he (by decide)) (by rw [nI_clamp (by omega)]; exact kk)
theorem al_mhist {i : Int32} (hd : decode (mC M) pc = .ok (.iaload, 1)) (hin : vp_in i 792) (kk : PW M d n (pc + 1) ls (.int (mHi x.2.1 i.toNatClampNeg) :: st) (hp x) Q) : PW M d n pc ls (.int i :: .ref 174 :: st) (hp x) Q :=
  pw_iald hd (hp_ot x 14) hin kk
theorem as_mhist {i : Int32} {v : Int32} (hd : decode (mC M) pc = .ok (.iastore, 1)) (hin : vp_in i 792) (kk : PW M d n (pc + 1) ls st (hp (uM3 x (upd (mHi x.2.1) i.toNatClampNeg v))) Q) : PW M d n pc ls (.int v :: .int i :: .ref 174 :: st) (hp x) Q := by
  refine pw_iast hd (hp_ot x 14) hin ?_
  rw [iA_st]
  have e := hp_uo (x := x) (y := uM3 x (upd (mHi x.2.1) i.toNatClampNeg v)) (o := 14) (fun _ => rfl) rfl (fun j hj => by simp only [otc, if_neg hj]; rfl)
  erw [e]
  exact kk
theorem al_mhist_e {e : Nat} {i : Int32} (hd : decode (mC M) pc = .ok (.iaload, 1)) (hi : i = nI e) (he : e < 792) (kk : PW M d n (pc + 1) ls (.int (mHi x.2.1 e) :: st) (hp x) Q) : PW M d n pc ls (.int i :: .ref 174 :: st) (hp x) Q := by
  subst hi
  exact al_mhist hd (vp_in_nI he (by decide)) (by rw [nI_clamp (by omega)]; exact kk)
theorem as_mhist_e {e : Nat} {i : Int32} {v : Int32} (hd : decode (mC M) pc = .ok (.iastore, 1)) (hi : i = nI e) (he : e < 792) (kk : PW M d n (pc + 1) ls st (hp (uM3 x (upd (mHi x.2.1) e v))) Q) : PW M d n pc ls (.int v :: .int i :: .ref 174 :: st) (hp x) Q := by
  subst hi
  exact as_mhist hd (vp_in_nI he (by decide)) (by rw [nI_clamp (by omega)]; exact kk)
theorem al_mslots {i : Int32} (hd : decode (mC M) pc = .ok (.iaload, 1)) (hin : vp_in i 264) (kk : PW M d n (pc + 1) ls (.int (mSl x.2.1 i.toNatClampNeg) :: st) (hp x) Q) : PW M d n pc ls (.int i :: .ref 175 :: st) (hp x) Q :=
  pw_iald hd (hp_ot x 15) hin kk
theorem as_mslots {i : Int32} {v : Int32} (hd : decode (mC M) pc = .ok (.iastore, 1)) (hin : vp_in i 264) (kk : PW M d n (pc + 1) ls st (hp (uM4 x (upd (mSl x.2.1) i.toNatClampNeg v))) Q) : PW M d n pc ls (.int v :: .int i :: .ref 175 :: st) (hp x) Q := by
  refine pw_iast hd (hp_ot x 15) hin ?_
  rw [iA_st]
  have e := hp_uo (x := x) (y := uM4 x (upd (mSl x.2.1) i.toNatClampNeg v)) (o := 15) (fun _ => rfl) rfl (fun j hj => by simp only [otc, if_neg hj]; rfl)
  erw [e]
  exact kk
theorem al_mslots_e {e : Nat} {i : Int32} (hd : decode (mC M) pc = .ok (.iaload, 1)) (hi : i = nI e) (he : e < 264) (kk : PW M d n (pc + 1) ls (.int (mSl x.2.1 e) :: st) (hp x) Q) : PW M d n pc ls (.int i :: .ref 175 :: st) (hp x) Q := by
  subst hi
  exact al_mslots hd (vp_in_nI he (by decide)) (by rw [nI_clamp (by omega)]; exact kk)
theorem as_mslots_e {e : Nat} {i : Int32} {v : Int32} (hd : decode (mC M) pc = .ok (.iastore, 1)) (hi : i = nI e) (he : e < 264) (kk : PW M d n (pc + 1) ls st (hp (uM4 x (upd (mSl x.2.1) e v))) Q) : PW M d n pc ls (.int v :: .int i :: .ref 175 :: st) (hp x) Q := by
  subst hi
  exact as_mslots hd (vp_in_nI he (by decide)) (by rw [nI_clamp (by omega)]; exact kk)
theorem al_mtext {i : Int32} (hd : decode (mC M) pc = .ok (.iaload, 1)) (hin : vp_in i 80) (kk : PW M d n (pc + 1) ls (.int (mTx x.2.1 i.toNatClampNeg) :: st) (hp x) Q) : PW M d n pc ls (.int i :: .ref 176 :: st) (hp x) Q :=
  pw_iald hd (hp_ot x 16) hin kk
theorem as_mtext {i : Int32} {v : Int32} (hd : decode (mC M) pc = .ok (.iastore, 1)) (hin : vp_in i 80) (kk : PW M d n (pc + 1) ls st (hp (uM5 x (upd (mTx x.2.1) i.toNatClampNeg v))) Q) : PW M d n pc ls (.int v :: .int i :: .ref 176 :: st) (hp x) Q := by
  refine pw_iast hd (hp_ot x 16) hin ?_
  rw [iA_st]
  have e := hp_uo (x := x) (y := uM5 x (upd (mTx x.2.1) i.toNatClampNeg v)) (o := 16) (fun _ => rfl) rfl (fun j hj => by simp only [otc, if_neg hj]; rfl)
  erw [e]
  exact kk
theorem al_mtext_e {e : Nat} {i : Int32} (hd : decode (mC M) pc = .ok (.iaload, 1)) (hi : i = nI e) (he : e < 80) (kk : PW M d n (pc + 1) ls (.int (mTx x.2.1 e) :: st) (hp x) Q) : PW M d n pc ls (.int i :: .ref 176 :: st) (hp x) Q := by
  subst hi
  exact al_mtext hd (vp_in_nI he (by decide)) (by rw [nI_clamp (by omega)]; exact kk)
theorem as_mtext_e {e : Nat} {i : Int32} {v : Int32} (hd : decode (mC M) pc = .ok (.iastore, 1)) (hi : i = nI e) (he : e < 80) (kk : PW M d n (pc + 1) ls st (hp (uM5 x (upd (mTx x.2.1) e v))) Q) : PW M d n pc ls (.int v :: .int i :: .ref 176 :: st) (hp x) Q := by
  subst hi
  exact as_mtext hd (vp_in_nI he (by decide)) (by rw [nI_clamp (by omega)]; exact kk)
theorem al_waiting {i : Int32} (hd : decode (mC M) pc = .ok (.iaload, 1)) (hin : vp_in i 6) (kk : PW M d n (pc + 1) ls (.int (mWa x.2.1 i.toNatClampNeg) :: st) (hp x) Q) : PW M d n pc ls (.int i :: .ref 177 :: st) (hp x) Q :=
  pw_iald hd (hp_ot x 17) hin kk
theorem as_waiting {i : Int32} {v : Int32} (hd : decode (mC M) pc = .ok (.iastore, 1)) (hin : vp_in i 6) (kk : PW M d n (pc + 1) ls st (hp (uM6 x (upd (mWa x.2.1) i.toNatClampNeg v))) Q) : PW M d n pc ls (.int v :: .int i :: .ref 177 :: st) (hp x) Q := by
  refine pw_iast hd (hp_ot x 17) hin ?_
  rw [iA_st]
  have e := hp_uo (x := x) (y := uM6 x (upd (mWa x.2.1) i.toNatClampNeg v)) (o := 17) (fun _ => rfl) rfl (fun j hj => by simp only [otc, if_neg hj]; rfl)
  erw [e]
  exact kk
theorem al_waiting_e {e : Nat} {i : Int32} (hd : decode (mC M) pc = .ok (.iaload, 1)) (hi : i = nI e) (he : e < 6) (kk : PW M d n (pc + 1) ls (.int (mWa x.2.1 e) :: st) (hp x) Q) : PW M d n pc ls (.int i :: .ref 177 :: st) (hp x) Q := by
  subst hi
  exact al_waiting hd (vp_in_nI he (by decide)) (by rw [nI_clamp (by omega)]; exact kk)
theorem as_waiting_e {e : Nat} {i : Int32} {v : Int32} (hd : decode (mC M) pc = .ok (.iastore, 1)) (hi : i = nI e) (he : e < 6) (kk : PW M d n (pc + 1) ls st (hp (uM6 x (upd (mWa x.2.1) e v))) Q) : PW M d n pc ls (.int v :: .int i :: .ref 177 :: st) (hp x) Q := by
  subst hi
  exact as_waiting hd (vp_in_nI he (by decide)) (by rw [nI_clamp (by omega)]; exact kk)
theorem al_out {i : Int32} (hd : decode (mC M) pc = .ok (.laload, 1)) (hin : vp_in i 1) (kk : PW M d n (pc + 1) ls (.long (x.2.2 i.toNatClampNeg) :: st) (hp x) Q) : PW M d n pc ls (.int i :: .ref 178 :: st) (hp x) Q :=
  pw_lald hd (hp_ot x 18) hin kk
theorem as_out {i : Int32} {v : Int64} (hd : decode (mC M) pc = .ok (.lastore, 1)) (hin : vp_in i 1) (kk : PW M d n (pc + 1) ls st (hp (uO x (fun j => if j = i.toNatClampNeg then v else x.2.2 j))) Q) : PW M d n pc ls (.long v :: .int i :: .ref 178 :: st) (hp x) Q := by
  refine pw_last hd (hp_ot x 18) hin ?_
  have ef : stF (fun j => Value.long (x.2.2 j)) i.toNatClampNeg (.long v) = fun j => .long ((fun j => if j = i.toNatClampNeg then v else x.2.2 j) j) := by funext j; unfold stF; by_cases e : j = i.toNatClampNeg <;> simp [e]
  rw [ef]
  have e := hp_uo (x := x) (y := uO x (fun j => if j = i.toNatClampNeg then v else x.2.2 j)) (o := 18) (fun _ => rfl) rfl (fun j hj => by simp only [otc, if_neg hj]; rfl)
  erw [e]
  exact kk
theorem al_out_e {e : Nat} {i : Int32} (hd : decode (mC M) pc = .ok (.laload, 1)) (hi : i = nI e) (he : e < 1) (kk : PW M d n (pc + 1) ls (.long (x.2.2 e) :: st) (hp x) Q) : PW M d n pc ls (.int i :: .ref 178 :: st) (hp x) Q := by
  subst hi
  exact al_out hd (vp_in_nI he (by decide)) (by rw [nI_clamp (by omega)]; exact kk)
theorem as_out_e {e : Nat} {i : Int32} {v : Int64} (hd : decode (mC M) pc = .ok (.lastore, 1)) (hi : i = nI e) (he : e < 1) (kk : PW M d n (pc + 1) ls st (hp (uO x (fun j => if j = e then v else x.2.2 j))) Q) : PW M d n pc ls (.long v :: .int i :: .ref 178 :: st) (hp x) Q := by
  subst hi
  exact as_out hd (vp_in_nI he (by decide)) (by rw [nI_clamp (by omega)]; exact kk)
theorem al_rules {i : Int32} {b : Nat} (hb : b < 10) (hd : decode (mC M) pc = .ok (.aaload, 1)) (hin : vp_in i 8) (kk : PW M d n (pc + 1) ls (.ref (16 * b + (7 + i.toNatClampNeg)) :: st) (hp x) Q) : PW M d n pc ls (.int i :: .ref (16 * b + 3) :: st) (hp x) Q :=
  pw_aald (t0 := 4) hd (hp_st x hb (by decide : 3 < 16)) rfl hin kk
theorem al_rules_e {e : Nat} {i : Int32} {b : Nat} (hb : b < 10) (hd : decode (mC M) pc = .ok (.aaload, 1)) (hi : i = nI e) (he : e < 8) (kk : PW M d n (pc + 1) ls (.ref (16 * b + (7 + e)) :: st) (hp x) Q) : PW M d n pc ls (.int i :: .ref (16 * b + 3) :: st) (hp x) Q := by
  subst hi
  exact al_rules hb hd (vp_in_nI he (by decide)) (by rw [nI_clamp (by omega)]; exact kk)
theorem al_hstates_e {e : Nat} {i : Int32} (hd : decode (mC M) pc = .ok (.aaload, 1)) (hi : i = nI e) (he : e < 6) (kk : PW M d n (pc + 1) ls (.ref (16 * (2 + e)) :: st) (hp x) Q) : PW M d n pc ls (.int i :: .ref 168 :: st) (hp x) Q := by
  subst hi
  exact pw_aald (t0 := 5) hd (hp_ot x 8) rfl (vp_in_nI he (by decide)) (by rw [nI_clamp (by omega)]; exact kk)
theorem al_slots_e {e : Nat} {i : Int32} (hd : decode (mC M) pc = .ok (.aaload, 1)) (hi : i = nI e) (he : e < 2) (kk : PW M d n (pc + 1) ls (.ref (16 * (8 + e)) :: st) (hp x) Q) : PW M d n pc ls (.int i :: .ref 169 :: st) (hp x) Q := by
  subst hi
  exact pw_aald (t0 := 5) hd (hp_ot x 9) rfl (vp_in_nI he (by decide)) (by rw [nI_clamp (by omega)]; exact kk)
theorem al_hstates {i : Int32} (hd : decode (mC M) pc = .ok (.aaload, 1)) (hin : vp_in i 6) (kk : PW M d n (pc + 1) ls (.ref (16 * (2 + i.toNatClampNeg)) :: st) (hp x) Q) : PW M d n pc ls (.int i :: .ref 168 :: st) (hp x) Q :=
  pw_aald (t0 := 5) hd (hp_ot x 8) rfl hin kk
theorem al_slots {i : Int32} (hd : decode (mC M) pc = .ok (.aaload, 1)) (hin : vp_in i 2) (kk : PW M d n (pc + 1) ls (.ref (16 * (8 + i.toNatClampNeg)) :: st) (hp x) Q) : PW M d n pc ls (.int i :: .ref 169 :: st) (hp x) Q :=
  pw_aald (t0 := 5) hd (hp_ot x 9) rfl hin kk
end PWD
end
section
abbrev Det (o : Out) (h1 : Hp) : Out → Hp → Prop := fun o2 h2 => o2 = o ∧ h2 = h1
def bI (b : Bool) : Int32 := if b then 1 else 0
theorem bI_t : bI true = 1 := rfl
theorem bI_f : bI false = 0 := rfl
theorem bI_0 {b : Bool} : bI b = 0 ↔ b = false := by cases b <;> decide
theorem nar_bI (b : Bool) : narrow .boolean (.int (bI b)) = .int (bI b) := by cases b <;> rfl
theorem fit_bI (b : Bool) : narrow .boolean (.int (bI b)) = .int (bI b) ∧ fits .boolean (.int (bI b)) = true := by cases b <;> exact ⟨rfl, rfl⟩
section PWS
variable {M : Mth} {d n pc : Nat} {ls : List (Option Value)} {st : List Value} {h : Hp} {Q : Out → Hp → Prop}
theorem pw_ifb {b : Bool} {off : Int} {tgt : Nat} (hd : decode (mC M) pc = .ok (.ifCond .eq off, 3)) (ht : (pc : Int) + off = (tgt : Int)) (kt : b = false → PW M d n tgt ls st h Q) (kf : b = true → PW M d n (pc + 3) ls st h Q) : PW M d n pc ls (.int (bI b) :: st) h Q :=
  pw_if_eq hd ht (fun c => kt (bI_0.mp c)) (fun c => kf (by cases b <;> first | rfl | exact absurd rfl c))
theorem pw_ifnb {b : Bool} {off : Int} {tgt : Nat} (hd : decode (mC M) pc = .ok (.ifCond .ne off, 3)) (ht : (pc : Int) + off = (tgt : Int)) (kt : b = true → PW M d n tgt ls st h Q) (kf : b = false → PW M d n (pc + 3) ls st h Q) : PW M d n pc ls (.int (bI b) :: st) h Q :=
  pw_if_ne hd ht (fun c => kt (by cases b <;> first | rfl | exact absurd rfl c)) (fun c => kf (bI_0.mp c))
theorem pw_ist0 {z : Option Value} {x : Int32} (hd : decode (mC M) pc = .ok (.istore_n 0, 1)) (hn : 0 < mL M) (kk : PW M d n (pc + 1) (some (.int x) :: ls) st h Q) : PW M d n pc (z :: ls) (.int x :: st) h Q :=
  pw_istore_n (k := 0) hd (fun j hj => absurd hj (by omega)) hn rfl kk
theorem pw_ist1 {a0 z : Option Value} {x : Int32} (hd : decode (mC M) pc = .ok (.istore_n 1, 1)) (hp : nlong a0 = true) (hn : 1 < mL M) (kk : PW M d n (pc + 1) (a0 :: some (.int x) :: ls) st h Q) : PW M d n pc (a0 :: z :: ls) (.int x :: st) h Q :=
  pw_istore_n (k := 1) hd (fun j hj w hw => by cases hj; rw [show (a0 :: z :: ls)[0]? = some a0 from rfl] at hw; cases hw; exact hp) hn rfl kk
theorem pw_ist2 {a0 a1 z : Option Value} {x : Int32} (hd : decode (mC M) pc = .ok (.istore_n 2, 1)) (hp : nlong a1 = true) (hn : 2 < mL M) (kk : PW M d n (pc + 1) (a0 :: a1 :: some (.int x) :: ls) st h Q) : PW M d n pc (a0 :: a1 :: z :: ls) (.int x :: st) h Q :=
  pw_istore_n (k := 2) hd (fun j hj w hw => by cases hj; rw [show (a0 :: a1 :: z :: ls)[1]? = some a1 from rfl] at hw; cases hw; exact hp) hn rfl kk
theorem pw_ist3 {a0 a1 a2 z : Option Value} {x : Int32} (hd : decode (mC M) pc = .ok (.istore_n 3, 1)) (hp : nlong a2 = true) (hn : 3 < mL M) (kk : PW M d n (pc + 1) (a0 :: a1 :: a2 :: some (.int x) :: ls) st h Q) : PW M d n pc (a0 :: a1 :: a2 :: z :: ls) (.int x :: st) h Q :=
  pw_istore_n (k := 3) hd (fun j hj w hw => by cases hj; rw [show (a0 :: a1 :: a2 :: z :: ls)[2]? = some a2 from rfl] at hw; cases hw; exact hp) hn rfl kk
theorem pw_ist4 {a0 a1 a2 a3 z : Option Value} {x : Int32} (hd : decode (mC M) pc = .ok (.istore 4, 2)) (hp : nlong a3 = true) (hn : 4 < mL M) (kk : PW M d n (pc + 2) (a0 :: a1 :: a2 :: a3 :: some (.int x) :: ls) st h Q) : PW M d n pc (a0 :: a1 :: a2 :: a3 :: z :: ls) (.int x :: st) h Q :=
  pw_istore (k := 4) hd (fun j hj w hw => by cases hj; rw [show (a0 :: a1 :: a2 :: a3 :: z :: ls)[3]? = some a3 from rfl] at hw; cases hw; exact hp) hn rfl kk
theorem pw_ist5 {a0 a1 a2 a3 a4 z : Option Value} {x : Int32} (hd : decode (mC M) pc = .ok (.istore 5, 2)) (hp : nlong a4 = true) (hn : 5 < mL M) (kk : PW M d n (pc + 2) (a0 :: a1 :: a2 :: a3 :: a4 :: some (.int x) :: ls) st h Q) : PW M d n pc (a0 :: a1 :: a2 :: a3 :: a4 :: z :: ls) (.int x :: st) h Q :=
  pw_istore (k := 5) hd (fun j hj w hw => by cases hj; rw [show (a0 :: a1 :: a2 :: a3 :: a4 :: z :: ls)[4]? = some a4 from rfl] at hw; cases hw; exact hp) hn rfl kk
theorem pw_ist6 {a0 a1 a2 a3 a4 a5 z : Option Value} {x : Int32} (hd : decode (mC M) pc = .ok (.istore 6, 2)) (hp : nlong a5 = true) (hn : 6 < mL M) (kk : PW M d n (pc + 2) (a0 :: a1 :: a2 :: a3 :: a4 :: a5 :: some (.int x) :: ls) st h Q) : PW M d n pc (a0 :: a1 :: a2 :: a3 :: a4 :: a5 :: z :: ls) (.int x :: st) h Q :=
  pw_istore (k := 6) hd (fun j hj w hw => by cases hj; rw [show (a0 :: a1 :: a2 :: a3 :: a4 :: a5 :: z :: ls)[5]? = some a5 from rfl] at hw; cases hw; exact hp) hn rfl kk
theorem pw_ist7 {a0 a1 a2 a3 a4 a5 a6 z : Option Value} {x : Int32} (hd : decode (mC M) pc = .ok (.istore 7, 2)) (hp : nlong a6 = true) (hn : 7 < mL M) (kk : PW M d n (pc + 2) (a0 :: a1 :: a2 :: a3 :: a4 :: a5 :: a6 :: some (.int x) :: ls) st h Q) : PW M d n pc (a0 :: a1 :: a2 :: a3 :: a4 :: a5 :: a6 :: z :: ls) (.int x :: st) h Q :=
  pw_istore (k := 7) hd (fun j hj w hw => by cases hj; rw [show (a0 :: a1 :: a2 :: a3 :: a4 :: a5 :: a6 :: z :: ls)[6]? = some a6 from rfl] at hw; cases hw; exact hp) hn rfl kk
theorem pw_ist8 {a0 a1 a2 a3 a4 a5 a6 a7 z : Option Value} {x : Int32} (hd : decode (mC M) pc = .ok (.istore 8, 2)) (hp : nlong a7 = true) (hn : 8 < mL M) (kk : PW M d n (pc + 2) (a0 :: a1 :: a2 :: a3 :: a4 :: a5 :: a6 :: a7 :: some (.int x) :: ls) st h Q) : PW M d n pc (a0 :: a1 :: a2 :: a3 :: a4 :: a5 :: a6 :: a7 :: z :: ls) (.int x :: st) h Q :=
  pw_istore (k := 8) hd (fun j hj w hw => by cases hj; rw [show (a0 :: a1 :: a2 :: a3 :: a4 :: a5 :: a6 :: a7 :: z :: ls)[7]? = some a7 from rfl] at hw; cases hw; exact hp) hn rfl kk
theorem pw_ist9 {a0 a1 a2 a3 a4 a5 a6 a7 a8 z : Option Value} {x : Int32} (hd : decode (mC M) pc = .ok (.istore 9, 2)) (hp : nlong a8 = true) (hn : 9 < mL M) (kk : PW M d n (pc + 2) (a0 :: a1 :: a2 :: a3 :: a4 :: a5 :: a6 :: a7 :: a8 :: some (.int x) :: ls) st h Q) : PW M d n pc (a0 :: a1 :: a2 :: a3 :: a4 :: a5 :: a6 :: a7 :: a8 :: z :: ls) (.int x :: st) h Q :=
  pw_istore (k := 9) hd (fun j hj w hw => by cases hj; rw [show (a0 :: a1 :: a2 :: a3 :: a4 :: a5 :: a6 :: a7 :: a8 :: z :: ls)[8]? = some a8 from rfl] at hw; cases hw; exact hp) hn rfl kk
theorem pw_ist10 {a0 a1 a2 a3 a4 a5 a6 a7 a8 a9 z : Option Value} {x : Int32} (hd : decode (mC M) pc = .ok (.istore 10, 2)) (hp : nlong a9 = true) (hn : 10 < mL M) (kk : PW M d n (pc + 2) (a0 :: a1 :: a2 :: a3 :: a4 :: a5 :: a6 :: a7 :: a8 :: a9 :: some (.int x) :: ls) st h Q) : PW M d n pc (a0 :: a1 :: a2 :: a3 :: a4 :: a5 :: a6 :: a7 :: a8 :: a9 :: z :: ls) (.int x :: st) h Q :=
  pw_istore (k := 10) hd (fun j hj w hw => by cases hj; rw [show (a0 :: a1 :: a2 :: a3 :: a4 :: a5 :: a6 :: a7 :: a8 :: a9 :: z :: ls)[9]? = some a9 from rfl] at hw; cases hw; exact hp) hn rfl kk
theorem pw_ist11 {a0 a1 a2 a3 a4 a5 a6 a7 a8 a9 a10 z : Option Value} {x : Int32} (hd : decode (mC M) pc = .ok (.istore 11, 2)) (hp : nlong a10 = true) (hn : 11 < mL M) (kk : PW M d n (pc + 2) (a0 :: a1 :: a2 :: a3 :: a4 :: a5 :: a6 :: a7 :: a8 :: a9 :: a10 :: some (.int x) :: ls) st h Q) : PW M d n pc (a0 :: a1 :: a2 :: a3 :: a4 :: a5 :: a6 :: a7 :: a8 :: a9 :: a10 :: z :: ls) (.int x :: st) h Q :=
  pw_istore (k := 11) hd (fun j hj w hw => by cases hj; rw [show (a0 :: a1 :: a2 :: a3 :: a4 :: a5 :: a6 :: a7 :: a8 :: a9 :: a10 :: z :: ls)[10]? = some a10 from rfl] at hw; cases hw; exact hp) hn rfl kk
theorem pw_ist12 {a0 a1 a2 a3 a4 a5 a6 a7 a8 a9 a10 a11 z : Option Value} {x : Int32} (hd : decode (mC M) pc = .ok (.istore 12, 2)) (hp : nlong a11 = true) (hn : 12 < mL M) (kk : PW M d n (pc + 2) (a0 :: a1 :: a2 :: a3 :: a4 :: a5 :: a6 :: a7 :: a8 :: a9 :: a10 :: a11 :: some (.int x) :: ls) st h Q) : PW M d n pc (a0 :: a1 :: a2 :: a3 :: a4 :: a5 :: a6 :: a7 :: a8 :: a9 :: a10 :: a11 :: z :: ls) (.int x :: st) h Q :=
  pw_istore (k := 12) hd (fun j hj w hw => by cases hj; rw [show (a0 :: a1 :: a2 :: a3 :: a4 :: a5 :: a6 :: a7 :: a8 :: a9 :: a10 :: a11 :: z :: ls)[11]? = some a11 from rfl] at hw; cases hw; exact hp) hn rfl kk
theorem pw_ist13 {a0 a1 a2 a3 a4 a5 a6 a7 a8 a9 a10 a11 a12 z : Option Value} {x : Int32} (hd : decode (mC M) pc = .ok (.istore 13, 2)) (hp : nlong a12 = true) (hn : 13 < mL M) (kk : PW M d n (pc + 2) (a0 :: a1 :: a2 :: a3 :: a4 :: a5 :: a6 :: a7 :: a8 :: a9 :: a10 :: a11 :: a12 :: some (.int x) :: ls) st h Q) : PW M d n pc (a0 :: a1 :: a2 :: a3 :: a4 :: a5 :: a6 :: a7 :: a8 :: a9 :: a10 :: a11 :: a12 :: z :: ls) (.int x :: st) h Q :=
  pw_istore (k := 13) hd (fun j hj w hw => by cases hj; rw [show (a0 :: a1 :: a2 :: a3 :: a4 :: a5 :: a6 :: a7 :: a8 :: a9 :: a10 :: a11 :: a12 :: z :: ls)[12]? = some a12 from rfl] at hw; cases hw; exact hp) hn rfl kk
theorem pw_ast0 {z : Option Value} {x : Nat} (hd : decode (mC M) pc = .ok (.astore_n 0, 1)) (hn : 0 < mL M) (kk : PW M d n (pc + 1) (some (.ref x) :: ls) st h Q) : PW M d n pc (z :: ls) (.ref x :: st) h Q :=
  pw_astore_n (k := 0) hd (fun j hj => absurd hj (by omega)) hn rfl kk
theorem pw_ast1 {a0 z : Option Value} {x : Nat} (hd : decode (mC M) pc = .ok (.astore_n 1, 1)) (hp : nlong a0 = true) (hn : 1 < mL M) (kk : PW M d n (pc + 1) (a0 :: some (.ref x) :: ls) st h Q) : PW M d n pc (a0 :: z :: ls) (.ref x :: st) h Q :=
  pw_astore_n (k := 1) hd (fun j hj w hw => by cases hj; rw [show (a0 :: z :: ls)[0]? = some a0 from rfl] at hw; cases hw; exact hp) hn rfl kk
theorem pw_ast2 {a0 a1 z : Option Value} {x : Nat} (hd : decode (mC M) pc = .ok (.astore_n 2, 1)) (hp : nlong a1 = true) (hn : 2 < mL M) (kk : PW M d n (pc + 1) (a0 :: a1 :: some (.ref x) :: ls) st h Q) : PW M d n pc (a0 :: a1 :: z :: ls) (.ref x :: st) h Q :=
  pw_astore_n (k := 2) hd (fun j hj w hw => by cases hj; rw [show (a0 :: a1 :: z :: ls)[1]? = some a1 from rfl] at hw; cases hw; exact hp) hn rfl kk
theorem pw_ast3 {a0 a1 a2 z : Option Value} {x : Nat} (hd : decode (mC M) pc = .ok (.astore_n 3, 1)) (hp : nlong a2 = true) (hn : 3 < mL M) (kk : PW M d n (pc + 1) (a0 :: a1 :: a2 :: some (.ref x) :: ls) st h Q) : PW M d n pc (a0 :: a1 :: a2 :: z :: ls) (.ref x :: st) h Q :=
  pw_astore_n (k := 3) hd (fun j hj w hw => by cases hj; rw [show (a0 :: a1 :: a2 :: z :: ls)[2]? = some a2 from rfl] at hw; cases hw; exact hp) hn rfl kk
theorem pw_ast4 {a0 a1 a2 a3 z : Option Value} {x : Nat} (hd : decode (mC M) pc = .ok (.astore 4, 2)) (hp : nlong a3 = true) (hn : 4 < mL M) (kk : PW M d n (pc + 2) (a0 :: a1 :: a2 :: a3 :: some (.ref x) :: ls) st h Q) : PW M d n pc (a0 :: a1 :: a2 :: a3 :: z :: ls) (.ref x :: st) h Q :=
  pw_astore (k := 4) hd (fun j hj w hw => by cases hj; rw [show (a0 :: a1 :: a2 :: a3 :: z :: ls)[3]? = some a3 from rfl] at hw; cases hw; exact hp) hn rfl kk
theorem pw_ast5 {a0 a1 a2 a3 a4 z : Option Value} {x : Nat} (hd : decode (mC M) pc = .ok (.astore 5, 2)) (hp : nlong a4 = true) (hn : 5 < mL M) (kk : PW M d n (pc + 2) (a0 :: a1 :: a2 :: a3 :: a4 :: some (.ref x) :: ls) st h Q) : PW M d n pc (a0 :: a1 :: a2 :: a3 :: a4 :: z :: ls) (.ref x :: st) h Q :=
  pw_astore (k := 5) hd (fun j hj w hw => by cases hj; rw [show (a0 :: a1 :: a2 :: a3 :: a4 :: z :: ls)[4]? = some a4 from rfl] at hw; cases hw; exact hp) hn rfl kk
theorem pw_ast6 {a0 a1 a2 a3 a4 a5 z : Option Value} {x : Nat} (hd : decode (mC M) pc = .ok (.astore 6, 2)) (hp : nlong a5 = true) (hn : 6 < mL M) (kk : PW M d n (pc + 2) (a0 :: a1 :: a2 :: a3 :: a4 :: a5 :: some (.ref x) :: ls) st h Q) : PW M d n pc (a0 :: a1 :: a2 :: a3 :: a4 :: a5 :: z :: ls) (.ref x :: st) h Q :=
  pw_astore (k := 6) hd (fun j hj w hw => by cases hj; rw [show (a0 :: a1 :: a2 :: a3 :: a4 :: a5 :: z :: ls)[5]? = some a5 from rfl] at hw; cases hw; exact hp) hn rfl kk
theorem pw_ast7 {a0 a1 a2 a3 a4 a5 a6 z : Option Value} {x : Nat} (hd : decode (mC M) pc = .ok (.astore 7, 2)) (hp : nlong a6 = true) (hn : 7 < mL M) (kk : PW M d n (pc + 2) (a0 :: a1 :: a2 :: a3 :: a4 :: a5 :: a6 :: some (.ref x) :: ls) st h Q) : PW M d n pc (a0 :: a1 :: a2 :: a3 :: a4 :: a5 :: a6 :: z :: ls) (.ref x :: st) h Q :=
  pw_astore (k := 7) hd (fun j hj w hw => by cases hj; rw [show (a0 :: a1 :: a2 :: a3 :: a4 :: a5 :: a6 :: z :: ls)[6]? = some a6 from rfl] at hw; cases hw; exact hp) hn rfl kk
theorem pw_ast8 {a0 a1 a2 a3 a4 a5 a6 a7 z : Option Value} {x : Nat} (hd : decode (mC M) pc = .ok (.astore 8, 2)) (hp : nlong a7 = true) (hn : 8 < mL M) (kk : PW M d n (pc + 2) (a0 :: a1 :: a2 :: a3 :: a4 :: a5 :: a6 :: a7 :: some (.ref x) :: ls) st h Q) : PW M d n pc (a0 :: a1 :: a2 :: a3 :: a4 :: a5 :: a6 :: a7 :: z :: ls) (.ref x :: st) h Q :=
  pw_astore (k := 8) hd (fun j hj w hw => by cases hj; rw [show (a0 :: a1 :: a2 :: a3 :: a4 :: a5 :: a6 :: a7 :: z :: ls)[7]? = some a7 from rfl] at hw; cases hw; exact hp) hn rfl kk
theorem pw_ast9 {a0 a1 a2 a3 a4 a5 a6 a7 a8 z : Option Value} {x : Nat} (hd : decode (mC M) pc = .ok (.astore 9, 2)) (hp : nlong a8 = true) (hn : 9 < mL M) (kk : PW M d n (pc + 2) (a0 :: a1 :: a2 :: a3 :: a4 :: a5 :: a6 :: a7 :: a8 :: some (.ref x) :: ls) st h Q) : PW M d n pc (a0 :: a1 :: a2 :: a3 :: a4 :: a5 :: a6 :: a7 :: a8 :: z :: ls) (.ref x :: st) h Q :=
  pw_astore (k := 9) hd (fun j hj w hw => by cases hj; rw [show (a0 :: a1 :: a2 :: a3 :: a4 :: a5 :: a6 :: a7 :: a8 :: z :: ls)[8]? = some a8 from rfl] at hw; cases hw; exact hp) hn rfl kk
theorem pw_ast10 {a0 a1 a2 a3 a4 a5 a6 a7 a8 a9 z : Option Value} {x : Nat} (hd : decode (mC M) pc = .ok (.astore 10, 2)) (hp : nlong a9 = true) (hn : 10 < mL M) (kk : PW M d n (pc + 2) (a0 :: a1 :: a2 :: a3 :: a4 :: a5 :: a6 :: a7 :: a8 :: a9 :: some (.ref x) :: ls) st h Q) : PW M d n pc (a0 :: a1 :: a2 :: a3 :: a4 :: a5 :: a6 :: a7 :: a8 :: a9 :: z :: ls) (.ref x :: st) h Q :=
  pw_astore (k := 10) hd (fun j hj w hw => by cases hj; rw [show (a0 :: a1 :: a2 :: a3 :: a4 :: a5 :: a6 :: a7 :: a8 :: a9 :: z :: ls)[9]? = some a9 from rfl] at hw; cases hw; exact hp) hn rfl kk
theorem pw_ast11 {a0 a1 a2 a3 a4 a5 a6 a7 a8 a9 a10 z : Option Value} {x : Nat} (hd : decode (mC M) pc = .ok (.astore 11, 2)) (hp : nlong a10 = true) (hn : 11 < mL M) (kk : PW M d n (pc + 2) (a0 :: a1 :: a2 :: a3 :: a4 :: a5 :: a6 :: a7 :: a8 :: a9 :: a10 :: some (.ref x) :: ls) st h Q) : PW M d n pc (a0 :: a1 :: a2 :: a3 :: a4 :: a5 :: a6 :: a7 :: a8 :: a9 :: a10 :: z :: ls) (.ref x :: st) h Q :=
  pw_astore (k := 11) hd (fun j hj w hw => by cases hj; rw [show (a0 :: a1 :: a2 :: a3 :: a4 :: a5 :: a6 :: a7 :: a8 :: a9 :: a10 :: z :: ls)[10]? = some a10 from rfl] at hw; cases hw; exact hp) hn rfl kk
theorem pw_ast12 {a0 a1 a2 a3 a4 a5 a6 a7 a8 a9 a10 a11 z : Option Value} {x : Nat} (hd : decode (mC M) pc = .ok (.astore 12, 2)) (hp : nlong a11 = true) (hn : 12 < mL M) (kk : PW M d n (pc + 2) (a0 :: a1 :: a2 :: a3 :: a4 :: a5 :: a6 :: a7 :: a8 :: a9 :: a10 :: a11 :: some (.ref x) :: ls) st h Q) : PW M d n pc (a0 :: a1 :: a2 :: a3 :: a4 :: a5 :: a6 :: a7 :: a8 :: a9 :: a10 :: a11 :: z :: ls) (.ref x :: st) h Q :=
  pw_astore (k := 12) hd (fun j hj w hw => by cases hj; rw [show (a0 :: a1 :: a2 :: a3 :: a4 :: a5 :: a6 :: a7 :: a8 :: a9 :: a10 :: a11 :: z :: ls)[11]? = some a11 from rfl] at hw; cases hw; exact hp) hn rfl kk
theorem pw_ast13 {a0 a1 a2 a3 a4 a5 a6 a7 a8 a9 a10 a11 a12 z : Option Value} {x : Nat} (hd : decode (mC M) pc = .ok (.astore 13, 2)) (hp : nlong a12 = true) (hn : 13 < mL M) (kk : PW M d n (pc + 2) (a0 :: a1 :: a2 :: a3 :: a4 :: a5 :: a6 :: a7 :: a8 :: a9 :: a10 :: a11 :: a12 :: some (.ref x) :: ls) st h Q) : PW M d n pc (a0 :: a1 :: a2 :: a3 :: a4 :: a5 :: a6 :: a7 :: a8 :: a9 :: a10 :: a11 :: a12 :: z :: ls) (.ref x :: st) h Q :=
  pw_astore (k := 13) hd (fun j hj w hw => by cases hj; rw [show (a0 :: a1 :: a2 :: a3 :: a4 :: a5 :: a6 :: a7 :: a8 :: a9 :: a10 :: a11 :: a12 :: z :: ls)[12]? = some a12 from rfl] at hw; cases hw; exact hp) hn rfl kk
theorem pw_lst0 {z z2 : Option Value} {x : Int64} (hd : decode (mC M) pc = .ok (.lstore_n 0, 1)) (hn : 0 + 1 < mL M) (kk : PW M d n (pc + 1) (some (.long x) :: none :: ls) st h Q) : PW M d n pc (z :: z2 :: ls) (.long x :: st) h Q :=
  pw_lstore_n (k := 0) hd (fun j hj => absurd hj (by omega)) hn rfl kk
theorem pw_lst1 {a0 z z2 : Option Value} {x : Int64} (hd : decode (mC M) pc = .ok (.lstore_n 1, 1)) (hp : nlong a0 = true) (hn : 1 + 1 < mL M) (kk : PW M d n (pc + 1) (a0 :: some (.long x) :: none :: ls) st h Q) : PW M d n pc (a0 :: z :: z2 :: ls) (.long x :: st) h Q :=
  pw_lstore_n (k := 1) hd (fun j hj w hw => by cases hj; rw [show (a0 :: z :: z2 :: ls)[0]? = some a0 from rfl] at hw; cases hw; exact hp) hn rfl kk
theorem pw_lst2 {a0 a1 z z2 : Option Value} {x : Int64} (hd : decode (mC M) pc = .ok (.lstore_n 2, 1)) (hp : nlong a1 = true) (hn : 2 + 1 < mL M) (kk : PW M d n (pc + 1) (a0 :: a1 :: some (.long x) :: none :: ls) st h Q) : PW M d n pc (a0 :: a1 :: z :: z2 :: ls) (.long x :: st) h Q :=
  pw_lstore_n (k := 2) hd (fun j hj w hw => by cases hj; rw [show (a0 :: a1 :: z :: z2 :: ls)[1]? = some a1 from rfl] at hw; cases hw; exact hp) hn rfl kk
theorem pw_lst3 {a0 a1 a2 z z2 : Option Value} {x : Int64} (hd : decode (mC M) pc = .ok (.lstore_n 3, 1)) (hp : nlong a2 = true) (hn : 3 + 1 < mL M) (kk : PW M d n (pc + 1) (a0 :: a1 :: a2 :: some (.long x) :: none :: ls) st h Q) : PW M d n pc (a0 :: a1 :: a2 :: z :: z2 :: ls) (.long x :: st) h Q :=
  pw_lstore_n (k := 3) hd (fun j hj w hw => by cases hj; rw [show (a0 :: a1 :: a2 :: z :: z2 :: ls)[2]? = some a2 from rfl] at hw; cases hw; exact hp) hn rfl kk
theorem pw_lst4 {a0 a1 a2 a3 z z2 : Option Value} {x : Int64} (hd : decode (mC M) pc = .ok (.lstore 4, 2)) (hp : nlong a3 = true) (hn : 4 + 1 < mL M) (kk : PW M d n (pc + 2) (a0 :: a1 :: a2 :: a3 :: some (.long x) :: none :: ls) st h Q) : PW M d n pc (a0 :: a1 :: a2 :: a3 :: z :: z2 :: ls) (.long x :: st) h Q :=
  pw_lstore (k := 4) hd (fun j hj w hw => by cases hj; rw [show (a0 :: a1 :: a2 :: a3 :: z :: z2 :: ls)[3]? = some a3 from rfl] at hw; cases hw; exact hp) hn rfl kk
theorem pw_lst5 {a0 a1 a2 a3 a4 z z2 : Option Value} {x : Int64} (hd : decode (mC M) pc = .ok (.lstore 5, 2)) (hp : nlong a4 = true) (hn : 5 + 1 < mL M) (kk : PW M d n (pc + 2) (a0 :: a1 :: a2 :: a3 :: a4 :: some (.long x) :: none :: ls) st h Q) : PW M d n pc (a0 :: a1 :: a2 :: a3 :: a4 :: z :: z2 :: ls) (.long x :: st) h Q :=
  pw_lstore (k := 5) hd (fun j hj w hw => by cases hj; rw [show (a0 :: a1 :: a2 :: a3 :: a4 :: z :: z2 :: ls)[4]? = some a4 from rfl] at hw; cases hw; exact hp) hn rfl kk
theorem pw_lst6 {a0 a1 a2 a3 a4 a5 z z2 : Option Value} {x : Int64} (hd : decode (mC M) pc = .ok (.lstore 6, 2)) (hp : nlong a5 = true) (hn : 6 + 1 < mL M) (kk : PW M d n (pc + 2) (a0 :: a1 :: a2 :: a3 :: a4 :: a5 :: some (.long x) :: none :: ls) st h Q) : PW M d n pc (a0 :: a1 :: a2 :: a3 :: a4 :: a5 :: z :: z2 :: ls) (.long x :: st) h Q :=
  pw_lstore (k := 6) hd (fun j hj w hw => by cases hj; rw [show (a0 :: a1 :: a2 :: a3 :: a4 :: a5 :: z :: z2 :: ls)[5]? = some a5 from rfl] at hw; cases hw; exact hp) hn rfl kk
theorem pw_lst7 {a0 a1 a2 a3 a4 a5 a6 z z2 : Option Value} {x : Int64} (hd : decode (mC M) pc = .ok (.lstore 7, 2)) (hp : nlong a6 = true) (hn : 7 + 1 < mL M) (kk : PW M d n (pc + 2) (a0 :: a1 :: a2 :: a3 :: a4 :: a5 :: a6 :: some (.long x) :: none :: ls) st h Q) : PW M d n pc (a0 :: a1 :: a2 :: a3 :: a4 :: a5 :: a6 :: z :: z2 :: ls) (.long x :: st) h Q :=
  pw_lstore (k := 7) hd (fun j hj w hw => by cases hj; rw [show (a0 :: a1 :: a2 :: a3 :: a4 :: a5 :: a6 :: z :: z2 :: ls)[6]? = some a6 from rfl] at hw; cases hw; exact hp) hn rfl kk
theorem pw_inc0 {z : Int} {x v : Int32} (hd : decode (mC M) pc = .ok (.iinc 0 z, 3)) (hn : 0 < mL M) (hv : x + Int32.ofInt z = v) (kk : PW M d n (pc + 3) (some (.int v) :: ls) st h Q) : PW M d n pc (some (.int x) :: ls) st h Q :=
  pw_iinc (i := 0) hd rfl (fun j hj => absurd hj (by omega)) hn hv rfl kk
theorem pw_inc1 {a0 : Option Value} {z : Int} {x v : Int32} (hd : decode (mC M) pc = .ok (.iinc 1 z, 3)) (hp : nlong a0 = true) (hn : 1 < mL M) (hv : x + Int32.ofInt z = v) (kk : PW M d n (pc + 3) (a0 :: some (.int v) :: ls) st h Q) : PW M d n pc (a0 :: some (.int x) :: ls) st h Q :=
  pw_iinc (i := 1) hd rfl (fun j hj w hw => by cases hj; rw [show (a0 :: some (.int x) :: ls)[0]? = some a0 from rfl] at hw; cases hw; exact hp) hn hv rfl kk
theorem pw_inc2 {a0 a1 : Option Value} {z : Int} {x v : Int32} (hd : decode (mC M) pc = .ok (.iinc 2 z, 3)) (hp : nlong a1 = true) (hn : 2 < mL M) (hv : x + Int32.ofInt z = v) (kk : PW M d n (pc + 3) (a0 :: a1 :: some (.int v) :: ls) st h Q) : PW M d n pc (a0 :: a1 :: some (.int x) :: ls) st h Q :=
  pw_iinc (i := 2) hd rfl (fun j hj w hw => by cases hj; rw [show (a0 :: a1 :: some (.int x) :: ls)[1]? = some a1 from rfl] at hw; cases hw; exact hp) hn hv rfl kk
theorem pw_inc3 {a0 a1 a2 : Option Value} {z : Int} {x v : Int32} (hd : decode (mC M) pc = .ok (.iinc 3 z, 3)) (hp : nlong a2 = true) (hn : 3 < mL M) (hv : x + Int32.ofInt z = v) (kk : PW M d n (pc + 3) (a0 :: a1 :: a2 :: some (.int v) :: ls) st h Q) : PW M d n pc (a0 :: a1 :: a2 :: some (.int x) :: ls) st h Q :=
  pw_iinc (i := 3) hd rfl (fun j hj w hw => by cases hj; rw [show (a0 :: a1 :: a2 :: some (.int x) :: ls)[2]? = some a2 from rfl] at hw; cases hw; exact hp) hn hv rfl kk
theorem pw_inc4 {a0 a1 a2 a3 : Option Value} {z : Int} {x v : Int32} (hd : decode (mC M) pc = .ok (.iinc 4 z, 3)) (hp : nlong a3 = true) (hn : 4 < mL M) (hv : x + Int32.ofInt z = v) (kk : PW M d n (pc + 3) (a0 :: a1 :: a2 :: a3 :: some (.int v) :: ls) st h Q) : PW M d n pc (a0 :: a1 :: a2 :: a3 :: some (.int x) :: ls) st h Q :=
  pw_iinc (i := 4) hd rfl (fun j hj w hw => by cases hj; rw [show (a0 :: a1 :: a2 :: a3 :: some (.int x) :: ls)[3]? = some a3 from rfl] at hw; cases hw; exact hp) hn hv rfl kk
theorem pw_inc5 {a0 a1 a2 a3 a4 : Option Value} {z : Int} {x v : Int32} (hd : decode (mC M) pc = .ok (.iinc 5 z, 3)) (hp : nlong a4 = true) (hn : 5 < mL M) (hv : x + Int32.ofInt z = v) (kk : PW M d n (pc + 3) (a0 :: a1 :: a2 :: a3 :: a4 :: some (.int v) :: ls) st h Q) : PW M d n pc (a0 :: a1 :: a2 :: a3 :: a4 :: some (.int x) :: ls) st h Q :=
  pw_iinc (i := 5) hd rfl (fun j hj w hw => by cases hj; rw [show (a0 :: a1 :: a2 :: a3 :: a4 :: some (.int x) :: ls)[4]? = some a4 from rfl] at hw; cases hw; exact hp) hn hv rfl kk
theorem pw_inc6 {a0 a1 a2 a3 a4 a5 : Option Value} {z : Int} {x v : Int32} (hd : decode (mC M) pc = .ok (.iinc 6 z, 3)) (hp : nlong a5 = true) (hn : 6 < mL M) (hv : x + Int32.ofInt z = v) (kk : PW M d n (pc + 3) (a0 :: a1 :: a2 :: a3 :: a4 :: a5 :: some (.int v) :: ls) st h Q) : PW M d n pc (a0 :: a1 :: a2 :: a3 :: a4 :: a5 :: some (.int x) :: ls) st h Q :=
  pw_iinc (i := 6) hd rfl (fun j hj w hw => by cases hj; rw [show (a0 :: a1 :: a2 :: a3 :: a4 :: a5 :: some (.int x) :: ls)[5]? = some a5 from rfl] at hw; cases hw; exact hp) hn hv rfl kk
theorem pw_inc7 {a0 a1 a2 a3 a4 a5 a6 : Option Value} {z : Int} {x v : Int32} (hd : decode (mC M) pc = .ok (.iinc 7 z, 3)) (hp : nlong a6 = true) (hn : 7 < mL M) (hv : x + Int32.ofInt z = v) (kk : PW M d n (pc + 3) (a0 :: a1 :: a2 :: a3 :: a4 :: a5 :: a6 :: some (.int v) :: ls) st h Q) : PW M d n pc (a0 :: a1 :: a2 :: a3 :: a4 :: a5 :: a6 :: some (.int x) :: ls) st h Q :=
  pw_iinc (i := 7) hd rfl (fun j hj w hw => by cases hj; rw [show (a0 :: a1 :: a2 :: a3 :: a4 :: a5 :: a6 :: some (.int x) :: ls)[6]? = some a6 from rfl] at hw; cases hw; exact hp) hn hv rfl kk
theorem pw_inc8 {a0 a1 a2 a3 a4 a5 a6 a7 : Option Value} {z : Int} {x v : Int32} (hd : decode (mC M) pc = .ok (.iinc 8 z, 3)) (hp : nlong a7 = true) (hn : 8 < mL M) (hv : x + Int32.ofInt z = v) (kk : PW M d n (pc + 3) (a0 :: a1 :: a2 :: a3 :: a4 :: a5 :: a6 :: a7 :: some (.int v) :: ls) st h Q) : PW M d n pc (a0 :: a1 :: a2 :: a3 :: a4 :: a5 :: a6 :: a7 :: some (.int x) :: ls) st h Q :=
  pw_iinc (i := 8) hd rfl (fun j hj w hw => by cases hj; rw [show (a0 :: a1 :: a2 :: a3 :: a4 :: a5 :: a6 :: a7 :: some (.int x) :: ls)[7]? = some a7 from rfl] at hw; cases hw; exact hp) hn hv rfl kk
theorem pw_inc9 {a0 a1 a2 a3 a4 a5 a6 a7 a8 : Option Value} {z : Int} {x v : Int32} (hd : decode (mC M) pc = .ok (.iinc 9 z, 3)) (hp : nlong a8 = true) (hn : 9 < mL M) (hv : x + Int32.ofInt z = v) (kk : PW M d n (pc + 3) (a0 :: a1 :: a2 :: a3 :: a4 :: a5 :: a6 :: a7 :: a8 :: some (.int v) :: ls) st h Q) : PW M d n pc (a0 :: a1 :: a2 :: a3 :: a4 :: a5 :: a6 :: a7 :: a8 :: some (.int x) :: ls) st h Q :=
  pw_iinc (i := 9) hd rfl (fun j hj w hw => by cases hj; rw [show (a0 :: a1 :: a2 :: a3 :: a4 :: a5 :: a6 :: a7 :: a8 :: some (.int x) :: ls)[8]? = some a8 from rfl] at hw; cases hw; exact hp) hn hv rfl kk
theorem pw_inc10 {a0 a1 a2 a3 a4 a5 a6 a7 a8 a9 : Option Value} {z : Int} {x v : Int32} (hd : decode (mC M) pc = .ok (.iinc 10 z, 3)) (hp : nlong a9 = true) (hn : 10 < mL M) (hv : x + Int32.ofInt z = v) (kk : PW M d n (pc + 3) (a0 :: a1 :: a2 :: a3 :: a4 :: a5 :: a6 :: a7 :: a8 :: a9 :: some (.int v) :: ls) st h Q) : PW M d n pc (a0 :: a1 :: a2 :: a3 :: a4 :: a5 :: a6 :: a7 :: a8 :: a9 :: some (.int x) :: ls) st h Q :=
  pw_iinc (i := 10) hd rfl (fun j hj w hw => by cases hj; rw [show (a0 :: a1 :: a2 :: a3 :: a4 :: a5 :: a6 :: a7 :: a8 :: a9 :: some (.int x) :: ls)[9]? = some a9 from rfl] at hw; cases hw; exact hp) hn hv rfl kk
theorem pw_inc11 {a0 a1 a2 a3 a4 a5 a6 a7 a8 a9 a10 : Option Value} {z : Int} {x v : Int32} (hd : decode (mC M) pc = .ok (.iinc 11 z, 3)) (hp : nlong a10 = true) (hn : 11 < mL M) (hv : x + Int32.ofInt z = v) (kk : PW M d n (pc + 3) (a0 :: a1 :: a2 :: a3 :: a4 :: a5 :: a6 :: a7 :: a8 :: a9 :: a10 :: some (.int v) :: ls) st h Q) : PW M d n pc (a0 :: a1 :: a2 :: a3 :: a4 :: a5 :: a6 :: a7 :: a8 :: a9 :: a10 :: some (.int x) :: ls) st h Q :=
  pw_iinc (i := 11) hd rfl (fun j hj w hw => by cases hj; rw [show (a0 :: a1 :: a2 :: a3 :: a4 :: a5 :: a6 :: a7 :: a8 :: a9 :: a10 :: some (.int x) :: ls)[10]? = some a10 from rfl] at hw; cases hw; exact hp) hn hv rfl kk
theorem pw_inc12 {a0 a1 a2 a3 a4 a5 a6 a7 a8 a9 a10 a11 : Option Value} {z : Int} {x v : Int32} (hd : decode (mC M) pc = .ok (.iinc 12 z, 3)) (hp : nlong a11 = true) (hn : 12 < mL M) (hv : x + Int32.ofInt z = v) (kk : PW M d n (pc + 3) (a0 :: a1 :: a2 :: a3 :: a4 :: a5 :: a6 :: a7 :: a8 :: a9 :: a10 :: a11 :: some (.int v) :: ls) st h Q) : PW M d n pc (a0 :: a1 :: a2 :: a3 :: a4 :: a5 :: a6 :: a7 :: a8 :: a9 :: a10 :: a11 :: some (.int x) :: ls) st h Q :=
  pw_iinc (i := 12) hd rfl (fun j hj w hw => by cases hj; rw [show (a0 :: a1 :: a2 :: a3 :: a4 :: a5 :: a6 :: a7 :: a8 :: a9 :: a10 :: a11 :: some (.int x) :: ls)[11]? = some a11 from rfl] at hw; cases hw; exact hp) hn hv rfl kk
theorem pw_inc13 {a0 a1 a2 a3 a4 a5 a6 a7 a8 a9 a10 a11 a12 : Option Value} {z : Int} {x v : Int32} (hd : decode (mC M) pc = .ok (.iinc 13 z, 3)) (hp : nlong a12 = true) (hn : 13 < mL M) (hv : x + Int32.ofInt z = v) (kk : PW M d n (pc + 3) (a0 :: a1 :: a2 :: a3 :: a4 :: a5 :: a6 :: a7 :: a8 :: a9 :: a10 :: a11 :: a12 :: some (.int v) :: ls) st h Q) : PW M d n pc (a0 :: a1 :: a2 :: a3 :: a4 :: a5 :: a6 :: a7 :: a8 :: a9 :: a10 :: a11 :: a12 :: some (.int x) :: ls) st h Q :=
  pw_iinc (i := 13) hd rfl (fun j hj w hw => by cases hj; rw [show (a0 :: a1 :: a2 :: a3 :: a4 :: a5 :: a6 :: a7 :: a8 :: a9 :: a10 :: a11 :: a12 :: some (.int x) :: ls)[12]? = some a12 from rfl] at hw; cases hw; exact hp) hn hv rfl kk
theorem pw_cS {M1 : Mth} {idx d1 n1 k : Nat} {h1 : Hp} {v : Value} {As rest : List Value} (ct : CT M1 d1 n1 (As) h (Det (.inl (some v)) h1)) (ok : MOK M1 k) (hd : decode (mC M) pc = .ok (.invokestatic idx, 3)) (hlk : Cond.methodLink (mY M).cls idx (mY M1) ∈ UU) (hst : Cond.static (mY M1) ∈ UU) (hk : As.length = k) (e : st = As.reverse ++ rest) (hd1 : d1 + 1 ≤ d) (hn : n1 ≤ n) (hr : (rest.map fun v => v.category).sum ≤ 8) (kk : PW M d (n - n1) (pc + 3) ls (v :: rest) h1 Q) : PW M d n pc ls st h Q :=
  pw_callS ct ok hd hlk hst hk e hd1 hn hr (fun r h2 q => by obtain ⟨q1, rfl⟩ := q; cases q1; exact kk) (fun E h2 q => by cases q.1)
theorem pw_cS0 {M1 : Mth} {idx d1 n1 k : Nat} {h1 : Hp} {As rest : List Value} (ct : CT M1 d1 n1 (As) h (Det (.inl none) h1)) (ok : MOK M1 k) (hd : decode (mC M) pc = .ok (.invokestatic idx, 3)) (hlk : Cond.methodLink (mY M).cls idx (mY M1) ∈ UU) (hst : Cond.static (mY M1) ∈ UU) (hk : As.length = k) (e : st = As.reverse ++ rest) (hd1 : d1 + 1 ≤ d) (hn : n1 ≤ n) (hr : (rest.map fun v => v.category).sum ≤ 8) (kk : PW M d (n - n1) (pc + 3) ls rest h1 Q) : PW M d n pc ls st h Q :=
  pw_callS ct ok hd hlk hst hk e hd1 hn hr (fun r h2 q => by obtain ⟨q1, rfl⟩ := q; cases q1; exact kk) (fun E h2 q => by cases q.1)
theorem pw_cSX {M1 : Mth} {idx d1 n1 k : Nat} {h1 : Hp} {E : String} {As rest : List Value} (ct : CT M1 d1 n1 (As) h (Det (.inr E) h1)) (ok : MOK M1 k) (hd : decode (mC M) pc = .ok (.invokestatic idx, 3)) (hlk : Cond.methodLink (mY M).cls idx (mY M1) ∈ UU) (hst : Cond.static (mY M1) ∈ UU) (hk : As.length = k) (e : st = As.reverse ++ rest) (hd1 : d1 + 1 ≤ d) (hn : n1 ≤ n) (hr : (rest.map fun v => v.category).sum ≤ 8) (kk : PT M d (n - n1) pc ls rest h1 Q E) : PW M d n pc ls st h Q :=
  pw_callS ct ok hd hlk hst hk e hd1 hn hr (fun r h2 q => by cases q.1) (fun E h2 q => by obtain ⟨q1, rfl⟩ := q; cases q1; exact kk)
theorem pw_cN {M1 : Mth} {idx d1 n1 k : Nat} {h1 : Hp} {v : Value} {host : String} {As rest : List Value} (ct : CT M1 d1 n1 (As) h (Det (.inl (some v)) h1)) (m0 : mK M1 = 0) (ok : MOK M1 k) (hd : decode (mC M) pc = .ok (.invokestatic idx, 3)) (hlk : Cond.methodLinkNest (mY M).cls idx (mY M1) host ∈ UN) (hst : Cond.static (mY M1) ∈ UU) (hk : As.length = k) (e : st = As.reverse ++ rest) (hd1 : d1 + 1 ≤ d) (hn : n1 ≤ n) (hr : (rest.map fun v => v.category).sum ≤ 8) (kk : PW M d (n - n1) (pc + 3) ls (v :: rest) h1 Q) : PW M d n pc ls st h Q :=
  pw_callSN ct m0 ok hd hlk hst hk e hd1 hn hr (fun r h2 q => by obtain ⟨q1, rfl⟩ := q; cases q1; exact kk)
theorem pw_cN0 {M1 : Mth} {idx d1 n1 k : Nat} {h1 : Hp} {host : String} {As rest : List Value} (ct : CT M1 d1 n1 (As) h (Det (.inl none) h1)) (m0 : mK M1 = 0) (ok : MOK M1 k) (hd : decode (mC M) pc = .ok (.invokestatic idx, 3)) (hlk : Cond.methodLinkNest (mY M).cls idx (mY M1) host ∈ UN) (hst : Cond.static (mY M1) ∈ UU) (hk : As.length = k) (e : st = As.reverse ++ rest) (hd1 : d1 + 1 ≤ d) (hn : n1 ≤ n) (hr : (rest.map fun v => v.category).sum ≤ 8) (kk : PW M d (n - n1) (pc + 3) ls rest h1 Q) : PW M d n pc ls st h Q :=
  pw_callSN ct m0 ok hd hlk hst hk e hd1 hn hr (fun r h2 q => by obtain ⟨q1, rfl⟩ := q; cases q1; exact kk)
theorem pw_cV {M1 : Mth} {idx d1 n1 k : Nat} {h1 : Hp} {v : Value} {b ci N1 : Nat} {T : u_T} {fs : Nat → Value} {As rest : List Value} (ct : CT M1 d1 n1 (.ref b :: As) h (Det (.inl (some v)) h1)) (ok : MOK M1 k) (hd : decode (mC M) pc = .ok (.invokevirtual idx, 3)) (hlk : Cond.methodLink (mY M).cls idx (mY M1) ∈ UU) (hin : Cond.instanceMethod (mY M1) ∈ UU) (hse : Cond.selects (mY M1).cls (mY M1) (mY M1) ∈ UU) (hb : h.2 b = some (.inr (ci, fs))) (hcl : vwCl[ci]? = some ((mY M1).cls, T, N1)) (hk : As.length = k) (e : st = As.reverse ++ .ref b :: rest) (hd1 : d1 + 1 ≤ d) (hn : n1 ≤ n) (hr : (rest.map fun v => v.category).sum ≤ 8) (kk : PW M d (n - n1) (pc + 3) ls (v :: rest) h1 Q) : PW M d n pc ls st h Q :=
  pw_callV ct ok hd hlk hin hse hb hcl hk e hd1 hn hr (fun r h2 q => by obtain ⟨q1, rfl⟩ := q; cases q1; exact kk) (fun E h2 q => by cases q.1)
theorem pw_cV0 {M1 : Mth} {idx d1 n1 k : Nat} {h1 : Hp} {b ci N1 : Nat} {T : u_T} {fs : Nat → Value} {As rest : List Value} (ct : CT M1 d1 n1 (.ref b :: As) h (Det (.inl none) h1)) (ok : MOK M1 k) (hd : decode (mC M) pc = .ok (.invokevirtual idx, 3)) (hlk : Cond.methodLink (mY M).cls idx (mY M1) ∈ UU) (hin : Cond.instanceMethod (mY M1) ∈ UU) (hse : Cond.selects (mY M1).cls (mY M1) (mY M1) ∈ UU) (hb : h.2 b = some (.inr (ci, fs))) (hcl : vwCl[ci]? = some ((mY M1).cls, T, N1)) (hk : As.length = k) (e : st = As.reverse ++ .ref b :: rest) (hd1 : d1 + 1 ≤ d) (hn : n1 ≤ n) (hr : (rest.map fun v => v.category).sum ≤ 8) (kk : PW M d (n - n1) (pc + 3) ls rest h1 Q) : PW M d n pc ls st h Q :=
  pw_callV ct ok hd hlk hin hse hb hcl hk e hd1 hn hr (fun r h2 q => by obtain ⟨q1, rfl⟩ := q; cases q1; exact kk) (fun E h2 q => by cases q.1)
theorem pw_cVX {M1 : Mth} {idx d1 n1 k : Nat} {h1 : Hp} {E : String} {b ci N1 : Nat} {T : u_T} {fs : Nat → Value} {As rest : List Value} (ct : CT M1 d1 n1 (.ref b :: As) h (Det (.inr E) h1)) (ok : MOK M1 k) (hd : decode (mC M) pc = .ok (.invokevirtual idx, 3)) (hlk : Cond.methodLink (mY M).cls idx (mY M1) ∈ UU) (hin : Cond.instanceMethod (mY M1) ∈ UU) (hse : Cond.selects (mY M1).cls (mY M1) (mY M1) ∈ UU) (hb : h.2 b = some (.inr (ci, fs))) (hcl : vwCl[ci]? = some ((mY M1).cls, T, N1)) (hk : As.length = k) (e : st = As.reverse ++ .ref b :: rest) (hd1 : d1 + 1 ≤ d) (hn : n1 ≤ n) (hr : (rest.map fun v => v.category).sum ≤ 8) (kk : PT M d (n - n1) pc ls rest h1 Q E) : PW M d n pc ls st h Q :=
  pw_callV ct ok hd hlk hin hse hb hcl hk e hd1 hn hr (fun r h2 q => by cases q.1) (fun E h2 q => by obtain ⟨q1, rfl⟩ := q; cases q1; exact kk)
theorem pw_cI0 {M1 : Mth} {idx d1 n1 k : Nat} {h1 : Hp} {b : Nat} {As rest : List Value} (ct : CT M1 d1 n1 (.ref b :: As) h (Det (.inl none) h1)) (m0 : mK M1 = 0) (ok : MOK M1 k) (hm : (mY M1).name = "<init>") (hret : mR M1 = none) (hd : decode (mC M) pc = .ok (.invokespecial idx, 3)) (hlk : Cond.methodLink (mY M).cls idx (mY M1) ∈ UU) (hin : Cond.instanceMethod (mY M1) ∈ UU) (hk : As.length = k) (e : st = As.reverse ++ .ref b :: rest) (hd1 : d1 + 1 ≤ d) (hn : n1 ≤ n) (hr : (rest.map fun v => v.category).sum ≤ 8) (kk : PW M d (n - n1) (pc + 3) ls rest h1 Q) : PW M d n pc ls st h Q :=
  pw_callI ct m0 ok hm hret hd hlk hin hk e hd1 hn hr (fun r h2 q => by obtain ⟨q1, rfl⟩ := q; cases q1; exact kk)
theorem pw_cIN0 {M1 : Mth} {idx d1 n1 k : Nat} {h1 : Hp} {b : Nat} {host : String} {As rest : List Value} (ct : CT M1 d1 n1 (.ref b :: As) h (Det (.inl none) h1)) (m0 : mK M1 = 0) (ok : MOK M1 k) (hm : (mY M1).name = "<init>") (hret : mR M1 = none) (hd : decode (mC M) pc = .ok (.invokespecial idx, 3)) (hlk : Cond.methodLinkNest (mY M).cls idx (mY M1) host ∈ UN) (hin : Cond.instanceMethod (mY M1) ∈ UU) (hk : As.length = k) (e : st = As.reverse ++ .ref b :: rest) (hd1 : d1 + 1 ≤ d) (hn : n1 ≤ n) (hr : (rest.map fun v => v.category).sum ≤ 8) (kk : PW M d (n - n1) (pc + 3) ls rest h1 Q) : PW M d n pc ls st h Q :=
  pw_callIN ct m0 ok hm hret hd hlk hin hk e hd1 hn hr (fun r h2 q => by obtain ⟨q1, rfl⟩ := q; cases q1; exact kk)
theorem pw_ldc2 {idx : Nat} {v : Int64} (hd : decode (mC M) pc = .ok (.ldc2_w idx, 3)) (hlk : Cond.constantLong (mY M).cls idx v ∈ UU) (kk : PW M d n (pc + 3) ls (.long v :: st) h Q) : PW M d n pc ls st h Q := by
  intro p l e_ R s m args below meth c G N H locs cells slots lsA C9 hc hs hR hS hw
  exact lv_ldc2 C9.1.1 C9.1.2.1 C9.1.2.2.2.2.1 (C9.2.1 _ hlk) hd (kk p l e_ R s m args below meth c G N H locs cells slots lsA C9 hc hs hR hS hw)
end PWS
theorem lit_nI (k : Nat) : (OfNat.ofNat k : Int32) = nI k := rfl
def cpN (k : Nat) (f g : Nat → Int32) : Nat → Int32 := fun j => if j < k then f j else g j
theorem cpN_0 (f g : Nat → Int32) : cpN 0 f g = g := by funext j; unfold cpN; rw [if_neg (by omega)]
theorem cpN_s (k : Nat) (f g : Nat → Int32) : upd (cpN k f g) k (f k) = cpN (k + 1) f g := by
  funext j
  unfold cpN upd
  by_cases e : j = k
  · subst e; rw [if_pos rfl, if_pos (by omega)]
  · rw [if_neg e]
    dsimp only
    by_cases e2 : j < k
    · rw [if_pos e2, if_pos (by omega)]
    · rw [if_neg e2, if_neg (by omega)]
/-- k numbers of f laid into g from a on -/
def puN (a k : Nat) (f g : Nat → Int32) : Nat → Int32 := fun j => if a ≤ j ∧ j < a + k then f (j - a) else g j
theorem puN_0 (a : Nat) (f g : Nat → Int32) : puN a 0 f g = g := by funext j; unfold puN; rw [if_neg (by omega)]
theorem puN_s (a k : Nat) (f g : Nat → Int32) : upd (puN a k f g) (a + k) (f k) = puN a (k + 1) f g := by
  funext j
  unfold puN upd
  by_cases e : j = a + k
  · subst e; rw [if_pos rfl, if_pos (by omega), show a + k - a = k by omega]
  · rw [if_neg e]
    dsimp only
    by_cases e2 : a ≤ j ∧ j < a + k
    · rw [if_pos e2, if_pos (by omega)]
    · rw [if_neg e2, if_neg (by omega)]
end
section
def inR (v lo hi : Int32) : Bool := decide (¬ v < lo) && decide (¬ hi < v)
set_option maxRecDepth 100000 in
set_option maxHeartbeats 4000000 in
theorem ct_X8_in (h : Hp) (v lo hi : Int32) : CT MX8_in 0 0 [.int v, .int lo, .int hi] h (Det (.inl (some (.int (bI (inR v lo hi))))) h) := by
  refine ct_of (by decide +kernel) (by decide) rfl (k := 0) (ls := [some (.int v), some (.int lo), some (.int hi)]) rfl (Nat.le_of_ble_eq_true rfl) ?_
  refine pw_iload_n (tk tkX8_in 0 rfl) rfl ?_
  refine pw_iload_n (tk tkX8_in 1 rfl) rfl ?_
  refine pw_icmp_lt (tgt := 14) (tk tkX8_in 2 rfl) (by decide) (fun c2 => ?_) (fun c2 => ?_)
  · refine pw_iconst (v := 0) (tk tkX8_in 8 rfl) (by decide) ?_
    exact pw_ireturn (tk tkX8_in 9 rfl) rfl (by decide) (by first | rfl | exact nar_bI _) ⟨by simp [inR, bI, *], rfl⟩
  · refine pw_iload_n (tk tkX8_in 3 rfl) rfl ?_
    refine pw_iload_n (tk tkX8_in 4 rfl) rfl ?_
    refine pw_icmp_gt (tgt := 14) (tk tkX8_in 5 rfl) (by decide) (fun c7 => ?_) (fun c7 => ?_)
    · refine pw_iconst (v := 0) (tk tkX8_in 8 rfl) (by decide) ?_
      exact pw_ireturn (tk tkX8_in 9 rfl) rfl (by decide) (by first | rfl | exact nar_bI _) ⟨by simp [inR, bI, *], rfl⟩
    · refine pw_iconst (v := 1) (tk tkX8_in 6 rfl) (by decide) ?_
      refine pw_goto (tgt := 15) (tk tkX8_in 7 rfl) (by decide) ?_
      exact pw_ireturn (tk tkX8_in 9 rfl) rfl (by decide) (by first | rfl | exact nar_bI _) ⟨by simp [inR, bI, *], rfl⟩
set_option maxRecDepth 100000 in
set_option maxHeartbeats 4000000 in
theorem ct_X8_thrown (x : XW) : CT MX8_thrown 0 0 [.ref 171] (hp x) (Det (.inl (some (.int (mF x.2.1 0)))) (hp x)) := by
  refine ct_of (by decide +kernel) (by decide) rfl (k := 0) (ls := [some (.ref 171)]) rfl (Nat.le_of_ble_eq_true rfl) ?_
  refine pw_aload_n (tk tkX8_thrown 0 rfl) rfl ?_
  refine g8_thrown (tk tkX8_thrown 1 rfl) fkX8_28 ?_
  exact pw_ireturn (tk tkX8_thrown 2 rfl) rfl (by decide) rfl ⟨rfl, rfl⟩
def xThr (x : XW) (v : Int32) : XW := uM7 x (upd (mF x.2.1) 0 v)
set_option maxRecDepth 100000 in
set_option maxHeartbeats 4000000 in
theorem ct_X8_holds (x : XW) (p : Int32) : CT MX8_holds 0 0 [.ref 171, .int p] (hp x) (Det (.inl (some (.int (bI (decide (p = 0)))))) (hp (xThr x p))) := by
  refine ct_of (by decide +kernel) (by decide) rfl (k := 0) (ls := [some (.ref 171), some (.int p)]) rfl (Nat.le_of_ble_eq_true rfl) ?_
  refine pw_aload_n (tk tkX8_holds 0 rfl) rfl ?_
  refine pw_iload_n (tk tkX8_holds 1 rfl) rfl ?_
  refine p8_thrown (tk tkX8_holds 2 rfl) fkX8_28 ?_
  refine pw_iload_n (tk tkX8_holds 3 rfl) rfl ?_
  refine pw_if_ne (tgt := 13) (tk tkX8_holds 4 rfl) (by decide) (fun c6 => ?_) (fun c6 => ?_)
  · refine pw_iconst (v := 0) (tk tkX8_holds 7 rfl) (by decide) ?_
    exact pw_ireturn (tk tkX8_holds 8 rfl) rfl (by decide) (by first | rfl | exact nar_bI _) ⟨by simp [bI, *], rfl⟩
  · refine pw_iconst (v := 1) (tk tkX8_holds 5 rfl) (by decide) ?_
    refine pw_goto (tgt := 14) (tk tkX8_holds 6 rfl) (by decide) ?_
    exact pw_ireturn (tk tkX8_holds 8 rfl) rfl (by decide) (by first | rfl | exact nar_bI _) ⟨by simp [bI, *], rfl⟩
set_option maxRecDepth 100000 in
set_option maxHeartbeats 4000000 in
theorem ct_X8_isRow (h : Hp) (v : Int32) : CT MX8_isRow 1 0 [.int v] h (Det (.inl (some (.int (bI (inR v 0 5))))) h) := by
  refine ct_of (by decide +kernel) (by decide) rfl (k := 0) (ls := [some (.int v)]) rfl (Nat.le_of_ble_eq_true rfl) ?_
  refine pw_iload_n (tk tkX8_isRow 0 rfl) rfl ?_
  refine pw_iconst (v := 0) (tk tkX8_isRow 1 rfl) (by decide) ?_
  refine pw_iconst (v := 5) (tk tkX8_isRow 2 rfl) (by decide) ?_
  refine pw_cS (ct_X8_in h v 0 5) okX8_in (tk tkX8_isRow 3 rfl) mkX8_32 stX8_in rfl rfl (by decide) (by decide) (Nat.le_of_ble_eq_true rfl) ?_
  exact pw_ireturn (tk tkX8_isRow 4 rfl) rfl (by decide) (by first | rfl | exact nar_bI _) ⟨rfl, rfl⟩
set_option maxRecDepth 100000 in
set_option maxHeartbeats 4000000 in
theorem ct_X8_isColumn (h : Hp) (v : Int32) : CT MX8_isColumn 1 0 [.int v] h (Det (.inl (some (.int (bI (inR v 0 2))))) h) := by
  refine ct_of (by decide +kernel) (by decide) rfl (k := 0) (ls := [some (.int v)]) rfl (Nat.le_of_ble_eq_true rfl) ?_
  refine pw_iload_n (tk tkX8_isColumn 0 rfl) rfl ?_
  refine pw_iconst (v := 0) (tk tkX8_isColumn 1 rfl) (by decide) ?_
  refine pw_iconst (v := 2) (tk tkX8_isColumn 2 rfl) (by decide) ?_
  refine pw_cS (ct_X8_in h v 0 2) okX8_in (tk tkX8_isColumn 3 rfl) mkX8_32 stX8_in rfl rfl (by decide) (by decide) (Nat.le_of_ble_eq_true rfl) ?_
  exact pw_ireturn (tk tkX8_isColumn 4 rfl) rfl (by decide) (by first | rfl | exact nar_bI _) ⟨rfl, rfl⟩
set_option maxRecDepth 100000 in
set_option maxHeartbeats 4000000 in
theorem ct_X8_isValue (h : Hp) (v : Int32) : CT MX8_isValue 1 0 [.int v] h (Det (.inl (some (.int (bI (inR v 0 999))))) h) := by
  refine ct_of (by decide +kernel) (by decide) rfl (k := 0) (ls := [some (.int v)]) rfl (Nat.le_of_ble_eq_true rfl) ?_
  refine pw_iload_n (tk tkX8_isValue 0 rfl) rfl ?_
  refine pw_iconst (v := 0) (tk tkX8_isValue 1 rfl) (by decide) ?_
  refine pw_sipush (v := 999) (tk tkX8_isValue 2 rfl) (by decide) ?_
  refine pw_cS (ct_X8_in h v 0 999) okX8_in (tk tkX8_isValue 3 rfl) mkX8_32 stX8_in rfl rfl (by decide) (by decide) (Nat.le_of_ble_eq_true rfl) ?_
  exact pw_ireturn (tk tkX8_isValue 4 rfl) rfl (by decide) (by first | rfl | exact nar_bI _) ⟨rfl, rfl⟩
set_option maxRecDepth 100000 in
set_option maxHeartbeats 4000000 in
theorem ct_X8_isRule (x : XW) (v : Int32) : CT MX8_isRule 1 0 [.ref 171, .int v] (hp x) (Det (.inl (some (.int (bI (inR v 0 (mS x.2.1 25 - 1)))))) (hp x)) := by
  refine ct_of (by decide +kernel) (by decide) rfl (k := 0) (ls := [some (.ref 171), some (.int v)]) rfl (Nat.le_of_ble_eq_true rfl) ?_
  refine pw_iload_n (tk tkX8_isRule 0 rfl) rfl ?_
  refine pw_iconst (v := 0) (tk tkX8_isRule 1 rfl) (by decide) ?_
  refine pw_aload_n (tk tkX8_isRule 2 rfl) rfl ?_
  refine g8_s (tk tkX8_isRule 3 rfl) fkX8_7 ?_
  refine pw_bipush (v := 25) (tk tkX8_isRule 4 rfl) (by decide) ?_
  refine al_s_e (e := 25) (tk tkX8_isRule 5 rfl) (by first | rfl | simp only [lit_nI, nI_add, pk_mul]) (by first | decide | omega) ?_
  refine pw_iconst (v := 1) (tk tkX8_isRule 6 rfl) (by decide) ?_
  refine pw_isub (tk tkX8_isRule 7 rfl) ?_
  refine pw_cS (ct_X8_in (hp x) v 0 (mS x.2.1 25 - 1)) okX8_in (tk tkX8_isRule 8 rfl) mkX8_32 stX8_in rfl rfl (by decide) (by decide) (Nat.le_of_ble_eq_true rfl) ?_
  exact pw_ireturn (tk tkX8_isRule 9 rfl) rfl (by decide) (by first | rfl | exact nar_bI _) ⟨rfl, rfl⟩
set_option maxRecDepth 100000 in
set_option maxHeartbeats 4000000 in
theorem ct_X8_of (h : Hp) (r k : Nat) : CT MX8_of 0 0 [.int (nI r), .int (nI k)] h (Det (.inl (some (.int (nI (6 + 3 * r + k))))) h) := by
  refine ct_of (by decide +kernel) (by decide) rfl (k := 0) (ls := [some (.int (nI r)), some (.int (nI k))]) rfl (Nat.le_of_ble_eq_true rfl) ?_
  refine pw_bipush (v := 6) (tk tkX8_of 0 rfl) (by decide) ?_
  refine pw_iconst (v := 3) (tk tkX8_of 1 rfl) (by decide) ?_
  refine pw_iload_n (tk tkX8_of 2 rfl) rfl ?_
  refine pw_imul (tk tkX8_of 3 rfl) ?_
  refine pw_iadd (tk tkX8_of 4 rfl) ?_
  refine pw_iload_n (tk tkX8_of 5 rfl) rfl ?_
  refine pw_iadd (tk tkX8_of 6 rfl) ?_
  exact pw_ireturn (tk tkX8_of 7 rfl) rfl (by decide) rfl ⟨by simp only [lit_nI, nI_add, pk_mul], rfl⟩
set_option maxRecDepth 100000 in
set_option maxHeartbeats 4000000 in
theorem ct_X8_at (x : XW) (r k : Nat) (hr : 26 + 9 * r + k < 132) : CT MX8_at 0 0 [.ref 171, .int (nI r), .int (nI k)] (hp x) (Det (.inl (some (.int (mS x.2.1 (26 + 9 * r + k))))) (hp x)) := by
  refine ct_of (by decide +kernel) (by decide) rfl (k := 0) (ls := [some (.ref 171), some (.int (nI r)), some (.int (nI k))]) rfl (Nat.le_of_ble_eq_true rfl) ?_
  refine pw_aload_n (tk tkX8_at 0 rfl) rfl ?_
  refine g8_s (tk tkX8_at 1 rfl) fkX8_7 ?_
  refine pw_bipush (v := 26) (tk tkX8_at 2 rfl) (by decide) ?_
  refine pw_bipush (v := 9) (tk tkX8_at 3 rfl) (by decide) ?_
  refine pw_iload_n (tk tkX8_at 4 rfl) rfl ?_
  refine pw_imul (tk tkX8_at 5 rfl) ?_
  refine pw_iadd (tk tkX8_at 6 rfl) ?_
  refine pw_iload_n (tk tkX8_at 7 rfl) rfl ?_
  refine pw_iadd (tk tkX8_at 8 rfl) ?_
  refine al_s_e (e := 26 + 9 * r + k) (tk tkX8_at 9 rfl) (by first | rfl | simp only [lit_nI, nI_add, pk_mul]) (by first | decide | omega) ?_
  exact pw_ireturn (tk tkX8_at 10 rfl) rfl (by decide) rfl ⟨rfl, rfl⟩
set_option maxRecDepth 100000 in
set_option maxHeartbeats 4000000 in
theorem ct_X8_putAside (x : XW) : CT MX8_putAside 0 0 [.ref 171] (hp x) (Det (.inl none) (hp (uM2 x (cpN 132 (mS x.2.1) (mA x.2.1))))) := by
  refine ct_of (by decide +kernel) (by decide) rfl (k := 1) (ls := [some (.ref 171), none]) rfl (Nat.le_of_ble_eq_true rfl) ?_
  have L : ∀ k i, i + k = 132 → ∀ y, y = uM2 x (cpN i (mS x.2.1) (mA x.2.1)) → PW MX8_putAside 0 0 2 [some (.ref 171), some (.int (nI i))] [] (hp y) (Det (.inl none) (hp (uM2 x (cpN 132 (mS x.2.1) (mA x.2.1))))) := by
    intro k
    induction k with
    | zero =>
      intro i hi y hy
      obtain rfl : i = 132 := by omega
      refine pw_iload_n (tk tkX8_putAside 2 rfl) rfl ?_
      refine pw_sipush (v := 132) (tk tkX8_putAside 3 rfl) (by decide) ?_
      refine pw_icmp_ge (tgt := 27) (tk tkX8_putAside 4 rfl) (by decide) (fun c6 => ?_) (fun c6 => absurd (Int32.le_refl _) c6)
      exact pw_return (tk tkX8_putAside 15 rfl) rfl (by decide) ⟨rfl, by rw [hy]⟩
    | succ k ih =>
      intro i hi y hy
      refine pw_iload_n (tk tkX8_putAside 2 rfl) rfl ?_
      refine pw_sipush (v := 132) (tk tkX8_putAside 3 rfl) (by decide) ?_
      refine pw_icmp_ge (tgt := 27) (tk tkX8_putAside 4 rfl) (by decide) (fun c6 => absurd c6 (nI_ge (b := 132) (by omega) (by decide))) (fun c6 => ?_)
      refine pw_aload_n (tk tkX8_putAside 5 rfl) rfl ?_
      refine g8_aside (tk tkX8_putAside 6 rfl) fkX8_13 ?_
      refine pw_iload_n (tk tkX8_putAside 7 rfl) rfl ?_
      refine pw_aload_n (tk tkX8_putAside 8 rfl) rfl ?_
      refine g8_s (tk tkX8_putAside 9 rfl) fkX8_7 ?_
      refine pw_iload_n (tk tkX8_putAside 10 rfl) rfl ?_
      refine al_s_e (e := i) (tk tkX8_putAside 11 rfl) rfl (by first | decide | omega) ?_
      refine as_aside_e (e := i) (tk tkX8_putAside 12 rfl) rfl (by first | decide | omega) ?_
      refine pw_inc1 (tk tkX8_putAside 13 rfl) rfl (by decide) (nI_1 i) ?_
      refine pw_goto (tgt := 2) (tk tkX8_putAside 14 rfl) (by decide) ?_
      refine ih (i + 1) (by omega) _ ?_
      rw [hy]
      show uM2 x (upd (cpN i (mS x.2.1) (mA x.2.1)) i (mS x.2.1 i)) = _
      rw [cpN_s]
  refine pw_iconst (v := 0) (tk tkX8_putAside 0 rfl) (by decide) ?_
  refine pw_ist1 (tk tkX8_putAside 1 rfl) rfl (by decide) ?_
  exact L 132 0 (by omega) x (by rw [cpN_0]; rfl)
set_option maxRecDepth 100000 in
set_option maxHeartbeats 4000000 in
theorem ct_X8_putBack (x : XW) : CT MX8_putBack 0 0 [.ref 171] (hp x) (Det (.inl none) (hp (uM1 x (cpN 132 (mA x.2.1) (mS x.2.1))))) := by
  refine ct_of (by decide +kernel) (by decide) rfl (k := 1) (ls := [some (.ref 171), none]) rfl (Nat.le_of_ble_eq_true rfl) ?_
  have L : ∀ k i, i + k = 132 → ∀ y, y = uM1 x (cpN i (mA x.2.1) (mS x.2.1)) → PW MX8_putBack 0 0 2 [some (.ref 171), some (.int (nI i))] [] (hp y) (Det (.inl none) (hp (uM1 x (cpN 132 (mA x.2.1) (mS x.2.1))))) := by
    intro k
    induction k with
    | zero =>
      intro i hi y hy
      obtain rfl : i = 132 := by omega
      refine pw_iload_n (tk tkX8_putBack 2 rfl) rfl ?_
      refine pw_sipush (v := 132) (tk tkX8_putBack 3 rfl) (by decide) ?_
      refine pw_icmp_ge (tgt := 27) (tk tkX8_putBack 4 rfl) (by decide) (fun c6 => ?_) (fun c6 => absurd (Int32.le_refl _) c6)
      exact pw_return (tk tkX8_putBack 15 rfl) rfl (by decide) ⟨rfl, by rw [hy]⟩
    | succ k ih =>
      intro i hi y hy
      refine pw_iload_n (tk tkX8_putBack 2 rfl) rfl ?_
      refine pw_sipush (v := 132) (tk tkX8_putBack 3 rfl) (by decide) ?_
      refine pw_icmp_ge (tgt := 27) (tk tkX8_putBack 4 rfl) (by decide) (fun c6 => absurd c6 (nI_ge (b := 132) (by omega) (by decide))) (fun c6 => ?_)
      refine pw_aload_n (tk tkX8_putBack 5 rfl) rfl ?_
      refine g8_s (tk tkX8_putBack 6 rfl) fkX8_7 ?_
      refine pw_iload_n (tk tkX8_putBack 7 rfl) rfl ?_
      refine pw_aload_n (tk tkX8_putBack 8 rfl) rfl ?_
      refine g8_aside (tk tkX8_putBack 9 rfl) fkX8_13 ?_
      refine pw_iload_n (tk tkX8_putBack 10 rfl) rfl ?_
      refine al_aside_e (e := i) (tk tkX8_putBack 11 rfl) rfl (by first | decide | omega) ?_
      refine as_s_e (e := i) (tk tkX8_putBack 12 rfl) rfl (by first | decide | omega) ?_
      refine pw_inc1 (tk tkX8_putBack 13 rfl) rfl (by decide) (nI_1 i) ?_
      refine pw_goto (tgt := 2) (tk tkX8_putBack 14 rfl) (by decide) ?_
      refine ih (i + 1) (by omega) _ ?_
      rw [hy]
      show uM1 x (upd (cpN i (mA x.2.1) (mS x.2.1)) i (mA x.2.1 i)) = _
      rw [cpN_s]
  refine pw_iconst (v := 0) (tk tkX8_putBack 0 rfl) (by decide) ?_
  refine pw_ist1 (tk tkX8_putBack 1 rfl) rfl (by decide) ?_
  exact L 132 0 (by omega) x (by rw [cpN_0]; rfl)
def smN (f : Nat → Int32) : Nat → Int32
  | 0 => 0
  | k + 1 => smN f k + f k
set_option maxRecDepth 100000 in
set_option maxHeartbeats 4000000 in
theorem ct_X8_rowsNow (x : XW) : CT MX8_rowsNow 0 0 [.ref 171] (hp x) (Det (.inl (some (.int (smN (mS x.2.1) 6)))) (hp x)) := by
  refine ct_of (by decide +kernel) (by decide) rfl (k := 2) (ls := [some (.ref 171), none, none]) rfl (Nat.le_of_ble_eq_true rfl) ?_
  have L : ∀ k i, i + k = 6 → PW MX8_rowsNow 0 0 4 [some (.ref 171), some (.int (smN (mS x.2.1) i)), some (.int (nI i))] [] (hp x) (Det (.inl (some (.int (smN (mS x.2.1) 6)))) (hp x)) := by
    intro k
    induction k with
    | zero =>
      intro i hi
      obtain rfl : i = 6 := by omega
      refine pw_iload_n (tk tkX8_rowsNow 4 rfl) rfl ?_
      refine pw_bipush (v := 6) (tk tkX8_rowsNow 5 rfl) (by decide) ?_
      refine pw_icmp_ge (tgt := 27) (tk tkX8_rowsNow 6 rfl) (by decide) (fun c7 => ?_) (fun c7 => absurd (Int32.le_refl _) c7)
      refine pw_iload_n (tk tkX8_rowsNow 18 rfl) rfl ?_
      exact pw_ireturn (tk tkX8_rowsNow 19 rfl) rfl (by decide) rfl ⟨rfl, rfl⟩
    | succ k ih =>
      intro i hi
      refine pw_iload_n (tk tkX8_rowsNow 4 rfl) rfl ?_
      refine pw_bipush (v := 6) (tk tkX8_rowsNow 5 rfl) (by decide) ?_
      refine pw_icmp_ge (tgt := 27) (tk tkX8_rowsNow 6 rfl) (by decide) (fun c7 => absurd c7 (nI_ge (b := 6) (by omega) (by decide))) (fun c7 => ?_)
      refine pw_iload_n (tk tkX8_rowsNow 7 rfl) rfl ?_
      refine pw_aload_n (tk tkX8_rowsNow 8 rfl) rfl ?_
      refine g8_s (tk tkX8_rowsNow 9 rfl) fkX8_7 ?_
      refine pw_iconst (v := 0) (tk tkX8_rowsNow 10 rfl) (by decide) ?_
      refine pw_iload_n (tk tkX8_rowsNow 11 rfl) rfl ?_
      refine pw_iadd (tk tkX8_rowsNow 12 rfl) ?_
      refine al_s_e (e := i) (tk tkX8_rowsNow 13 rfl) (Int32.zero_add _) (by first | decide | omega) ?_
      refine pw_iadd (tk tkX8_rowsNow 14 rfl) ?_
      refine pw_ist1 (tk tkX8_rowsNow 15 rfl) rfl (by decide) ?_
      refine pw_inc2 (tk tkX8_rowsNow 16 rfl) rfl (by decide) (nI_1 i) ?_
      refine pw_goto (tgt := 4) (tk tkX8_rowsNow 17 rfl) (by decide) ?_
      exact ih (i + 1) (by omega)
  refine pw_iconst (v := 0) (tk tkX8_rowsNow 0 rfl) (by decide) ?_
  refine pw_ist1 (tk tkX8_rowsNow 1 rfl) rfl (by decide) ?_
  refine pw_iconst (v := 0) (tk tkX8_rowsNow 2 rfl) (by decide) ?_
  refine pw_ist2 (tk tkX8_rowsNow 3 rfl) rfl (by decide) ?_
  exact L 6 0 (by omega)
end
section
theorem upd_tw (f : Nat → Int32) (k : Nat) (x y : Int32) : upd (upd f k x) k y = upd f k y := by
  funext j; unfold upd; by_cases e : j = k <;> simp [e]
theorem upd_at (f : Nat → Int32) (k : Nat) (x : Int32) : upd f k x k = x := if_pos rfl
theorem upd_nt (f : Nat → Int32) {k j : Nat} (x : Int32) (h : j ≠ k) : upd f k x j = f j := if_neg h
def shK (i : Nat) (f : Nat → Int32) : Nat → Int32 := fun j => if j < i then f (j + 132) else f j
theorem shK_0 (f : Nat → Int32) : shK 0 f = f := by funext j; unfold shK; rw [if_neg (by omega)]
theorem shK_s (i : Nat) (f : Nat → Int32) : upd (shK i f) i (shK i f (i + 132)) = shK (i + 1) f := by
  have e1 : shK i f (i + 132) = f (i + 132) := if_neg (by omega)
  rw [e1]
  funext j
  unfold shK upd
  by_cases e : j = i
  · subst e; rw [if_pos rfl, if_pos (by omega)]
  · rw [if_neg e]
    dsimp only
    by_cases e2 : j < i
    · rw [if_pos e2, if_pos (by omega)]
    · rw [if_neg e2, if_neg (by omega)]
def xRecB (y : XW) (k : Nat) : XW := uM7 (uM3 y (puN (132 * k) 132 (mA y.2.1) (mHi y.2.1))) (upd (mF y.2.1) 4 (nI (k + 1)))
def xSh (x : XW) : XW := uM7 (uM3 x (shK 660 (mHi x.2.1))) (upd (mF x.2.1) 4 (nI 5))
def xRecA (x : XW) (kn : Nat) : XW := if kn = 6 then xRecB (xSh x) 5 else xRecB x kn
set_option maxRecDepth 100000 in
set_option maxHeartbeats 4000000 in
theorem rb_X8_recordAside (y0 : XW) (k1 : Nat) (hk : mF y0.2.1 4 = nI k1) (h5 : k1 ≤ 5) (a1 : Option Value) : PW MX8_recordAside 0 0 50 [some (.ref 171), a1] [] (hp y0) (Det (.inl none) (hp (xRecB y0 k1))) := by
  have L : ∀ k i, i + k = 132 → ∀ (y : XW) (hy : y = uM3 y0 (puN (132 * k1) i (mA y0.2.1) (mHi y0.2.1))), PW MX8_recordAside 0 0 52 [some (.ref 171), some (.int (nI i))] [] (hp y) (Det (.inl none) (hp (xRecB y0 k1))) := by
    intro k
    induction k with
    | zero =>
      intro i hi y hy
      have ei : i = 132 := by omega
      rw [ei]
      refine pw_iload_n (tk tkX8_recordAside 29 rfl) rfl ?_
      refine pw_sipush (v := 132) (tk tkX8_recordAside 30 rfl) (by decide) ?_
      refine pw_icmp_ge (tgt := 86) (tk tkX8_recordAside 31 rfl) (by decide) (fun c56 => ?_) (fun c56 => absurd (Int32.le_refl _) c56)
      refine pw_aload_n (tk tkX8_recordAside 47 rfl) rfl ?_
      refine pw_dup (tk tkX8_recordAside 48 rfl) rfl ?_
      refine g8_known (tk tkX8_recordAside 49 rfl) fkX8_36 ?_
      refine pw_iconst (v := 1) (tk tkX8_recordAside 50 rfl) (by decide) ?_
      refine pw_iadd (tk tkX8_recordAside 51 rfl) ?_
      refine p8_known (tk tkX8_recordAside 52 rfl) fkX8_36 ?_
      exact pw_return (tk tkX8_recordAside 53 rfl) rfl (by decide) ⟨rfl, by rw [ei] at hy; subst hy; unfold xRecB; rw [← nI_1, ← hk]; rfl⟩
    | succ k ih =>
      intro i hi y hy
      refine pw_iload_n (tk tkX8_recordAside 29 rfl) rfl ?_
      refine pw_sipush (v := 132) (tk tkX8_recordAside 30 rfl) (by decide) ?_
      refine pw_icmp_ge (tgt := 86) (tk tkX8_recordAside 31 rfl) (by decide) (fun c56 => absurd c56 (nI_ge (b := 132) (by omega) (by decide))) (fun c56 => ?_)
      refine pw_aload_n (tk tkX8_recordAside 32 rfl) rfl ?_
      refine g8_history (tk tkX8_recordAside 33 rfl) fkX8_16 ?_
      refine pw_sipush (v := 132) (tk tkX8_recordAside 34 rfl) (by decide) ?_
      refine pw_aload_n (tk tkX8_recordAside 35 rfl) rfl ?_
      refine g8_known (tk tkX8_recordAside 36 rfl) fkX8_36 ?_
      refine pw_imul (tk tkX8_recordAside 37 rfl) ?_
      refine pw_iload_n (tk tkX8_recordAside 38 rfl) rfl ?_
      refine pw_iadd (tk tkX8_recordAside 39 rfl) ?_
      refine pw_aload_n (tk tkX8_recordAside 40 rfl) rfl ?_
      refine g8_aside (tk tkX8_recordAside 41 rfl) fkX8_13 ?_
      refine pw_iload_n (tk tkX8_recordAside 42 rfl) rfl ?_
      refine al_aside_e (e := i) (tk tkX8_recordAside 43 rfl) rfl (by first | decide | omega) ?_
      refine as_mhist_e (e := 132 * k1 + i) (tk tkX8_recordAside 44 rfl) (by subst hy; show 132 * mF y0.2.1 4 + nI i = _; rw [hk]; simp only [lit_nI, nI_add, pk_mul]) (by first | decide | omega) ?_
      refine pw_inc1 (tk tkX8_recordAside 45 rfl) rfl (by decide) (nI_1 i) ?_
      refine pw_goto (tgt := 52) (tk tkX8_recordAside 46 rfl) (by decide) ?_
      refine ih (i + 1) (by omega) _ ?_
      rw [hy]
      show uM3 y0 (upd (puN (132 * k1) i (mA y0.2.1) (mHi y0.2.1)) (132 * k1 + i) (mA y0.2.1 i)) = _
      rw [puN_s]
  refine pw_iconst (v := 0) (tk tkX8_recordAside 27 rfl) (by decide) ?_
  refine pw_ist1 (tk tkX8_recordAside 28 rfl) rfl (by decide) ?_
  exact L 132 0 (by omega) y0 (by rw [puN_0]; rfl)
set_option maxRecDepth 100000 in
set_option maxHeartbeats 4000000 in
theorem ct_X8_recordAside (x : XW) (kn : Nat) (hk : mF x.2.1 4 = nI kn) (h6 : kn ≤ 6) : CT MX8_recordAside 0 0 [.ref 171] (hp x) (Det (.inl none) (hp (xRecA x kn))) := by
  refine ct_of (by decide +kernel) (by decide) rfl (k := 1) (ls := [some (.ref 171), none]) rfl (Nat.le_of_ble_eq_true rfl) ?_
  have L : ∀ k i, i + k = 660 → ∀ (y : XW) (hy : y = uM3 x (shK i (mHi x.2.1))) (h66 : kn = 6), PW MX8_recordAside 0 0 11 [some (.ref 171), some (.int (nI i))] [] (hp y) (Det (.inl none) (hp (xRecA x kn))) := by
    intro k
    induction k with
    | zero =>
      intro i hi y hy h66
      have ei : i = 660 := by omega
      rw [ei]
      refine pw_iload_n (tk tkX8_recordAside 6 rfl) rfl ?_
      refine pw_sipush (v := 660) (tk tkX8_recordAside 7 rfl) (by decide) ?_
      refine pw_icmp_ge (tgt := 40) (tk tkX8_recordAside 8 rfl) (by decide) (fun c15 => ?_) (fun c15 => absurd (Int32.le_refl _) c15)
      refine pw_aload_n (tk tkX8_recordAside 21 rfl) rfl ?_
      refine pw_dup (tk tkX8_recordAside 22 rfl) rfl ?_
      refine g8_known (tk tkX8_recordAside 23 rfl) fkX8_36 ?_
      refine pw_iconst (v := 1) (tk tkX8_recordAside 24 rfl) (by decide) ?_
      refine pw_isub (tk tkX8_recordAside 25 rfl) ?_
      refine p8_known (tk tkX8_recordAside 26 rfl) fkX8_36 ?_
      have e : uM7 y (upd (mF y.2.1) 4 (mF y.2.1 4 - 1)) = xSh x := by rw [ei] at hy; subst hy; unfold xSh; rw [show mF (uM3 x (shK 660 (mHi x.2.1))).2.1 4 = nI 6 from by rw [← h66]; exact hk]; rfl
      rw [e, show xRecA x kn = xRecB (xSh x) 5 from if_pos h66]
      exact rb_X8_recordAside (xSh x) 5 rfl (by decide) _
    | succ k ih =>
      intro i hi y hy h66
      refine pw_iload_n (tk tkX8_recordAside 6 rfl) rfl ?_
      refine pw_sipush (v := 660) (tk tkX8_recordAside 7 rfl) (by decide) ?_
      refine pw_icmp_ge (tgt := 40) (tk tkX8_recordAside 8 rfl) (by decide) (fun c15 => absurd c15 (nI_ge (b := 660) (by omega) (by decide))) (fun c15 => ?_)
      refine pw_aload_n (tk tkX8_recordAside 9 rfl) rfl ?_
      refine g8_history (tk tkX8_recordAside 10 rfl) fkX8_16 ?_
      refine pw_iload_n (tk tkX8_recordAside 11 rfl) rfl ?_
      refine pw_aload_n (tk tkX8_recordAside 12 rfl) rfl ?_
      refine g8_history (tk tkX8_recordAside 13 rfl) fkX8_16 ?_
      refine pw_iload_n (tk tkX8_recordAside 14 rfl) rfl ?_
      refine pw_sipush (v := 132) (tk tkX8_recordAside 15 rfl) (by decide) ?_
      refine pw_iadd (tk tkX8_recordAside 16 rfl) ?_
      refine al_mhist_e (e := i + 132) (tk tkX8_recordAside 17 rfl) (by simp only [lit_nI, nI_add]) (by first | decide | omega) ?_
      refine as_mhist_e (e := i) (tk tkX8_recordAside 18 rfl) rfl (by first | decide | omega) ?_
      refine pw_inc1 (tk tkX8_recordAside 19 rfl) rfl (by decide) (nI_1 i) ?_
      refine pw_goto (tgt := 11) (tk tkX8_recordAside 20 rfl) (by decide) ?_
      refine ih (i + 1) (by omega) _ ?_ h66
      rw [hy]
      show uM3 x (upd (shK i (mHi x.2.1)) i (shK i (mHi x.2.1) (i + 132))) = _
      rw [shK_s]
  refine pw_aload_n (tk tkX8_recordAside 0 rfl) rfl ?_
  refine g8_known (tk tkX8_recordAside 1 rfl) fkX8_36 ?_
  refine pw_bipush (v := 6) (tk tkX8_recordAside 2 rfl) (by decide) ?_
  rw [hk]
  refine pw_icmp_ne (tgt := 50) (tk tkX8_recordAside 3 rfl) (by decide) (fun c6 => ?_) (fun c6 => ?_)
  · rw [show xRecA x kn = xRecB x kn from if_neg (fun e => c6 (by rw [e]; rfl))]
    exact rb_X8_recordAside x kn hk (by have : kn ≠ 6 := fun e => c6 (by rw [e]; rfl); omega) _
  · refine pw_iconst (v := 0) (tk tkX8_recordAside 4 rfl) (by decide) ?_
    refine pw_ist1 (tk tkX8_recordAside 5 rfl) rfl (by decide) ?_
    exact L 660 0 (by omega) x (by rw [shK_0]; rfl) ((nI_eq (by omega) (by decide)).mp c6)
def xPA (x : XW) : XW := uM2 x (cpN 132 (mS x.2.1) (mA x.2.1))
def xPB (x : XW) : XW := uM1 x (cpN 132 (mA x.2.1) (mS x.2.1))
def xRec (x : XW) (kn : Nat) : XW := xRecA (xPA x) kn
set_option maxRecDepth 100000 in
set_option maxHeartbeats 4000000 in
theorem ct_X8_record (x : XW) (kn : Nat) (hk : mF x.2.1 4 = nI kn) (h6 : kn ≤ 6) : CT MX8_record 1 0 [.ref 171] (hp x) (Det (.inl none) (hp (xRec x kn))) := by
  refine ct_of (by decide +kernel) (by decide) rfl (k := 0) (ls := [some (.ref 171)]) rfl (Nat.le_of_ble_eq_true rfl) ?_
  refine pw_aload_n (tk tkX8_record 0 rfl) rfl ?_
  refine pw_cV0 (ct_X8_putAside x) okX8_putAside (tk tkX8_record 1 rfl) mkX8_39 imX8_putAside seX8_putAside (hp_ot _ 11) rfl rfl rfl (by decide) (by decide) (Nat.le_of_ble_eq_true rfl) ?_
  refine pw_aload_n (tk tkX8_record 2 rfl) rfl ?_
  refine pw_cV0 (ct_X8_recordAside (xPA x) kn hk h6) okX8_recordAside (tk tkX8_record 3 rfl) mkX8_42 imX8_recordAside seX8_recordAside (hp_ot _ 11) rfl rfl rfl (by decide) (by decide) (Nat.le_of_ble_eq_true rfl) ?_
  exact pw_return (tk tkX8_record 4 rfl) rfl (by decide) ⟨rfl, rfl⟩
def rN (s : Nat → Int32) (i k : Nat) : Int32 := s (26 + 9 * i + k)
def mkM (p : Nat → Bool) : Nat → Int32
  | 0 => 0
  | k + 1 => mkM p k ||| (if p k = true then 1 <<< (nI k &&& 31) else 0)
def seeN (s : Nat → Int32) (ev : Int32) (r : Nat) (v : Int32) (i : Nat) : Int32 := if ev = 1 then v else s (6 + 3 * r + (rN s i 1).toNatClampNeg)
def mtB (s : Nat → Int32) (ev : Int32) (r : Nat) (col v : Int32) (i : Nat) : Bool :=
  decide (rN s i 7 = 0) && (decide (rN s i 0 = ev) && ((decide (¬ ev = 1) || decide (rN s i 1 = col)) && decide (¬ seeN s ev r v i < rN s i 2)))
def mtC (s : Nat → Int32) (ev : Int32) (r : Nat) (col v : Int32) (isR : Bool) (i : Nat) : Bool := mtB s ev r col v i && (decide (rN s i 3 = 1) == isR)
theorem bI_inj {a b : Bool} : bI a = bI b ↔ a = b := by cases a <;> cases b <;> decide
set_option maxRecDepth 100000 in
set_option maxHeartbeats 4000000 in
theorem ct_X8_matching (x : XW) (u r : Nat) (hu : mS x.2.1 25 = nI u) (hu8 : u ≤ 8) (hr : r < 6) (hc : ∀ i, i < u → ∃ c, c < 3 ∧ rN (mS x.2.1) i 1 = nI c) (ev col v : Int32) (isR : Bool) : CT MX8_matching 1 0 [.ref 171, .int ev, .int (nI r), .int col, .int v, .int (bI isR)] (hp x) (Det (.inl (some (.int (mkM (mtC (mS x.2.1) ev r col v isR) u)))) (hp x)) := by
  refine ct_of (by decide +kernel) (by decide) rfl (k := 5) (ls := [some (.ref 171), some (.int ev), some (.int (nI r)), some (.int col), some (.int v), some (.int (bI isR)), none, none, none, none, none]) rfl (Nat.le_of_ble_eq_true rfl) ?_
  have L : ∀ k i, i + k = u → ∀ (a8 a9 a10 : Option Value), PW MX8_matching 1 0 6 [some (.ref 171), some (.int ev), some (.int (nI r)), some (.int col), some (.int v), some (.int (bI isR)), some (.int (mkM (mtC (mS x.2.1) ev r col v isR) i)), some (.int (nI i)), a8, a9, a10] [] (hp x) (Det (.inl (some (.int (mkM (mtC (mS x.2.1) ev r col v isR) u)))) (hp x)) := by
    intro k
    induction k with
    | zero =>
      intro i hi a8 a9 a10
      have ei : i = u := by omega
      rw [ei]
      refine pw_iload (tk tkX8_matching 4 rfl) rfl ?_
      refine pw_aload_n (tk tkX8_matching 5 rfl) rfl ?_
      refine g8_s (tk tkX8_matching 6 rfl) fkX8_7 ?_
      refine pw_bipush (v := 25) (tk tkX8_matching 7 rfl) (by decide) ?_
      refine al_s_e (e := 25) (tk tkX8_matching 8 rfl) (by first | rfl | simp only [lit_nI, nI_add, pk_mul]) (by first | decide | omega) ?_
      rw [hu]
      refine pw_icmp_ge (tgt := 147) (tk tkX8_matching 9 rfl) (by decide) (fun c15 => ?_) (fun c15 => absurd (Int32.le_refl _) c15)
      refine pw_iload (tk tkX8_matching 77 rfl) rfl ?_
      exact pw_ireturn (tk tkX8_matching 78 rfl) rfl (by decide) rfl ⟨rfl, rfl⟩
    | succ k ih =>
      intro i hi a8 a9 a10
      obtain ⟨c, hc3, hci⟩ := hc i (by omega)
      have e1 : mS x.2.1 (26 + 9 * i + 1) = nI c := hci
      have J102 : ∀ (b : Bool) (a9 : Option Value), b = mtB (mS x.2.1) ev r col v i → PW MX8_matching 1 0 102 [some (.ref 171), some (.int ev), some (.int (nI r)), some (.int col), some (.int v), some (.int (bI isR)), some (.int (mkM (mtC (mS x.2.1) ev r col v isR) i)), some (.int (nI i)), some (.int (nI c)), a9, some (.int (bI b))] [] (hp x) (Det (.inl (some (.int (mkM (mtC (mS x.2.1) ev r col v isR) u)))) (hp x)) := by
        intro b a9 hb
        have J137 : mtC (mS x.2.1) ev r col v isR i = false → PW MX8_matching 1 0 137 [some (.ref 171), some (.int ev), some (.int (nI r)), some (.int col), some (.int v), some (.int (bI isR)), some (.int (mkM (mtC (mS x.2.1) ev r col v isR) i)), some (.int (nI i)), some (.int (nI c)), a9, some (.int (bI b))] [.int (mkM (mtC (mS x.2.1) ev r col v isR) i)] (hp x) (Det (.inl (some (.int (mkM (mtC (mS x.2.1) ev r col v isR) u)))) (hp x)) := by
          intro hf
          refine pw_iconst (v := 0) (tk tkX8_matching 72 rfl) (by decide) ?_
          refine pw_ior (tk tkX8_matching 73 rfl) ?_
          refine pw_ist6 (tk tkX8_matching 74 rfl) rfl (by decide) ?_
          refine pw_inc7 (tk tkX8_matching 75 rfl) rfl (by decide) (nI_1 i) ?_
          refine pw_goto (tgt := 6) (tk tkX8_matching 76 rfl) (by decide) ?_
          have e9 : mkM (mtC (mS x.2.1) ev r col v isR) (i + 1) = mkM (mtC (mS x.2.1) ev r col v isR) i ||| 0 := by
            show _ ||| (if mtC (mS x.2.1) ev r col v isR i = true then _ else _) = _
            rw [if_neg (by rw [hf]; decide)]
          rw [← e9]
          exact ih (i + 1) (by omega) _ _ _
        refine pw_iload (tk tkX8_matching 54 rfl) rfl ?_
        refine pw_iload (tk tkX8_matching 55 rfl) rfl ?_
        refine pw_ifb (tgt := 137) (tk tkX8_matching 56 rfl) (by decide) (fun c106 => ?_) (fun c106 => ?_)
        · refine J137 ?_
          unfold mtC
          rw [← hb, c106]
          cases isR <;> first | rfl | (simp [rN, c106]; done) | exact absurd c127 (by decide) | exact absurd rfl c127
        · refine pw_aload_n (tk tkX8_matching 57 rfl) rfl ?_
          refine pw_iload (tk tkX8_matching 58 rfl) rfl ?_
          refine pw_iconst (v := 3) (tk tkX8_matching 59 rfl) (by decide) ?_
          refine pw_cV (ct_X8_at x i 3 (by omega)) okX8_at (tk tkX8_matching 60 rfl) mkX8_45 imX8_at seX8_at (hp_ot _ 11) rfl rfl rfl (by decide) (by decide) (Nat.le_of_ble_eq_true rfl) ?_
          refine pw_iconst (v := 1) (tk tkX8_matching 61 rfl) (by decide) ?_
          refine pw_icmp_ne (tgt := 124) (tk tkX8_matching 62 rfl) (by decide) (fun c117 => ?_) (fun c117 => ?_)
          · refine pw_iconst (v := 0) (tk tkX8_matching 65 rfl) (by decide) ?_
            refine pw_iload (tk tkX8_matching 66 rfl) rfl ?_
            refine pw_icmp_ne (tgt := 137) (tk tkX8_matching 67 rfl) (by decide) (fun c127 => ?_) (fun c127 => ?_)
            · refine J137 ?_
              unfold mtC
              rw [← hb, c106]
              cases isR <;> first | rfl | (simp [rN, c106, c117, c127]; done) | exact absurd c127 (by decide) | exact absurd rfl c127
            · refine pw_iconst (v := 1) (tk tkX8_matching 68 rfl) (by decide) ?_
              refine pw_iload (tk tkX8_matching 69 rfl) rfl ?_
              refine pw_ishl (tk tkX8_matching 70 rfl) ?_
              refine pw_goto (tgt := 138) (tk tkX8_matching 71 rfl) (by decide) ?_
              refine pw_ior (tk tkX8_matching 73 rfl) ?_
              refine pw_ist6 (tk tkX8_matching 74 rfl) rfl (by decide) ?_
              refine pw_inc7 (tk tkX8_matching 75 rfl) rfl (by decide) (nI_1 i) ?_
              refine pw_goto (tgt := 6) (tk tkX8_matching 76 rfl) (by decide) ?_
              have e9 : mkM (mtC (mS x.2.1) ev r col v isR) (i + 1) = mkM (mtC (mS x.2.1) ev r col v isR) i ||| 1 <<< (nI i &&& 31) := by
                show _ ||| (if mtC (mS x.2.1) ev r col v isR i = true then _ else _) = _
                rw [if_pos (by unfold mtC; rw [← hb, c106]; cases isR <;> first | rfl | (simp [rN, c106, c117, c127]; done) | exact absurd c127 (by decide) | exact absurd rfl c127)]
              rw [← e9]
              exact ih (i + 1) (by omega) _ _ _
          · refine pw_iconst (v := 1) (tk tkX8_matching 63 rfl) (by decide) ?_
            refine pw_goto (tgt := 125) (tk tkX8_matching 64 rfl) (by decide) ?_
            refine pw_iload (tk tkX8_matching 66 rfl) rfl ?_
            refine pw_icmp_ne (tgt := 137) (tk tkX8_matching 67 rfl) (by decide) (fun c127 => ?_) (fun c127 => ?_)
            · refine J137 ?_
              unfold mtC
              rw [← hb, c106]
              cases isR <;> first | rfl | (simp [rN, c106, c117, c127]; done) | exact absurd c127 (by decide) | exact absurd rfl c127
            · refine pw_iconst (v := 1) (tk tkX8_matching 68 rfl) (by decide) ?_
              refine pw_iload (tk tkX8_matching 69 rfl) rfl ?_
              refine pw_ishl (tk tkX8_matching 70 rfl) ?_
              refine pw_goto (tgt := 138) (tk tkX8_matching 71 rfl) (by decide) ?_
              refine pw_ior (tk tkX8_matching 73 rfl) ?_
              refine pw_ist6 (tk tkX8_matching 74 rfl) rfl (by decide) ?_
              refine pw_inc7 (tk tkX8_matching 75 rfl) rfl (by decide) (nI_1 i) ?_
              refine pw_goto (tgt := 6) (tk tkX8_matching 76 rfl) (by decide) ?_
              have e9 : mkM (mtC (mS x.2.1) ev r col v isR) (i + 1) = mkM (mtC (mS x.2.1) ev r col v isR) i ||| 1 <<< (nI i &&& 31) := by
                show _ ||| (if mtC (mS x.2.1) ev r col v isR i = true then _ else _) = _
                rw [if_pos (by unfold mtC; rw [← hb, c106]; cases isR <;> first | rfl | (simp [rN, c106, c117, c127]; done) | exact absurd c127 (by decide) | exact absurd rfl c127)]
              rw [← e9]
              exact ih (i + 1) (by omega) _ _ _
      have J50 : ∀ (w : Int32) (a10 : Option Value), w = seeN (mS x.2.1) ev r v i → PW MX8_matching 1 0 50 [some (.ref 171), some (.int ev), some (.int (nI r)), some (.int col), some (.int v), some (.int (bI isR)), some (.int (mkM (mtC (mS x.2.1) ev r col v isR) i)), some (.int (nI i)), some (.int (nI c)), some (.int w), a10] [] (hp x) (Det (.inl (some (.int (mkM (mtC (mS x.2.1) ev r col v isR) u)))) (hp x)) := by
        intro w a10 hw
        refine pw_aload_n (tk tkX8_matching 27 rfl) rfl ?_
        refine pw_iload (tk tkX8_matching 28 rfl) rfl ?_
        refine pw_bipush (v := 7) (tk tkX8_matching 29 rfl) (by decide) ?_
        refine pw_cV (ct_X8_at x i 7 (by omega)) okX8_at (tk tkX8_matching 30 rfl) mkX8_45 imX8_at seX8_at (hp_ot _ 11) rfl rfl rfl (by decide) (by decide) (Nat.le_of_ble_eq_true rfl) ?_
        refine pw_if_ne (tgt := 99) (tk tkX8_matching 31 rfl) (by decide) (fun c58 => ?_) (fun c58 => ?_)
        · refine pw_iconst (v := 0) (tk tkX8_matching 52 rfl) (by decide) ?_
          refine pw_ist10 (tk tkX8_matching 53 rfl) rfl (by decide) ?_
          exact J102 false _ (by unfold mtB; rw [← hw]; simp [rN, e1, c58])
        · refine pw_aload_n (tk tkX8_matching 32 rfl) rfl ?_
          refine pw_iload (tk tkX8_matching 33 rfl) rfl ?_
          refine pw_iconst (v := 0) (tk tkX8_matching 34 rfl) (by decide) ?_
          refine pw_cV (ct_X8_at x i 0 (by omega)) okX8_at (tk tkX8_matching 35 rfl) mkX8_45 imX8_at seX8_at (hp_ot _ 11) rfl rfl rfl (by decide) (by decide) (Nat.le_of_ble_eq_true rfl) ?_
          rw [show 26 + 9 * i + 0 = 26 + 9 * i from rfl]
          refine pw_iload_n (tk tkX8_matching 36 rfl) rfl ?_
          refine pw_icmp_ne (tgt := 99) (tk tkX8_matching 37 rfl) (by decide) (fun c69 => ?_) (fun c69 => ?_)
          · refine pw_iconst (v := 0) (tk tkX8_matching 52 rfl) (by decide) ?_
            refine pw_ist10 (tk tkX8_matching 53 rfl) rfl (by decide) ?_
            exact J102 false _ (by unfold mtB; rw [← hw]; simp [rN, e1, c58, c69])
          · refine pw_iload_n (tk tkX8_matching 38 rfl) rfl ?_
            refine pw_iconst (v := 1) (tk tkX8_matching 39 rfl) (by decide) ?_
            refine pw_icmp_ne (tgt := 83) (tk tkX8_matching 40 rfl) (by decide) (fun c74 => ?_) (fun c74 => ?_)
            · refine pw_iload (tk tkX8_matching 44 rfl) rfl ?_
              refine pw_aload_n (tk tkX8_matching 45 rfl) rfl ?_
              refine pw_iload (tk tkX8_matching 46 rfl) rfl ?_
              refine pw_iconst (v := 2) (tk tkX8_matching 47 rfl) (by decide) ?_
              refine pw_cV (ct_X8_at x i 2 (by omega)) okX8_at (tk tkX8_matching 48 rfl) mkX8_45 imX8_at seX8_at (hp_ot _ 11) rfl rfl rfl (by decide) (by decide) (Nat.le_of_ble_eq_true rfl) ?_
              refine pw_icmp_lt (tgt := 99) (tk tkX8_matching 49 rfl) (by decide) (fun c92 => ?_) (fun c92 => ?_)
              · refine pw_iconst (v := 0) (tk tkX8_matching 52 rfl) (by decide) ?_
                refine pw_ist10 (tk tkX8_matching 53 rfl) rfl (by decide) ?_
                exact J102 false _ (by unfold mtB; rw [← hw]; simp [rN, e1, c58, c69, c74, c92])
              · refine pw_iconst (v := 1) (tk tkX8_matching 50 rfl) (by decide) ?_
                refine pw_goto (tgt := 100) (tk tkX8_matching 51 rfl) (by decide) ?_
                refine pw_ist10 (tk tkX8_matching 53 rfl) rfl (by decide) ?_
                exact J102 true _ (by unfold mtB; rw [← hw]; simp [rN, e1, c58, c69, c74, c92])
            · refine pw_iload (tk tkX8_matching 41 rfl) rfl ?_
              refine pw_iload_n (tk tkX8_matching 42 rfl) rfl ?_
              refine pw_icmp_ne (tgt := 99) (tk tkX8_matching 43 rfl) (by decide) (fun c80 => ?_) (fun c80 => ?_)
              · refine pw_iconst (v := 0) (tk tkX8_matching 52 rfl) (by decide) ?_
                refine pw_ist10 (tk tkX8_matching 53 rfl) rfl (by decide) ?_
                exact J102 false _ (by unfold mtB; rw [← hw]; simp [rN, e1, c58, c69, c74, c80])
              · refine pw_iload (tk tkX8_matching 44 rfl) rfl ?_
                refine pw_aload_n (tk tkX8_matching 45 rfl) rfl ?_
                refine pw_iload (tk tkX8_matching 46 rfl) rfl ?_
                refine pw_iconst (v := 2) (tk tkX8_matching 47 rfl) (by decide) ?_
                refine pw_cV (ct_X8_at x i 2 (by omega)) okX8_at (tk tkX8_matching 48 rfl) mkX8_45 imX8_at seX8_at (hp_ot _ 11) rfl rfl rfl (by decide) (by decide) (Nat.le_of_ble_eq_true rfl) ?_
                refine pw_icmp_lt (tgt := 99) (tk tkX8_matching 49 rfl) (by decide) (fun c92 => ?_) (fun c92 => ?_)
                · refine pw_iconst (v := 0) (tk tkX8_matching 52 rfl) (by decide) ?_
                  refine pw_ist10 (tk tkX8_matching 53 rfl) rfl (by decide) ?_
                  exact J102 false _ (by unfold mtB; rw [← hw]; simp [rN, e1, c58, c69, c74, c80, c92])
                · refine pw_iconst (v := 1) (tk tkX8_matching 50 rfl) (by decide) ?_
                  refine pw_goto (tgt := 100) (tk tkX8_matching 51 rfl) (by decide) ?_
                  refine pw_ist10 (tk tkX8_matching 53 rfl) rfl (by decide) ?_
                  exact J102 true _ (by unfold mtB; rw [← hw]; simp [rN, e1, c58, c69, c74, c80, c92])
      have J27 : ∀ (a9 a10 : Option Value), PW MX8_matching 1 0 27 [some (.ref 171), some (.int ev), some (.int (nI r)), some (.int col), some (.int v), some (.int (bI isR)), some (.int (mkM (mtC (mS x.2.1) ev r col v isR) i)), some (.int (nI i)), some (.int (mS x.2.1 (26 + 9 * i + 1))), a9, a10] [] (hp x) (Det (.inl (some (.int (mkM (mtC (mS x.2.1) ev r col v isR) u)))) (hp x)) := by
        intro a9 a10
        rw [e1]
        refine pw_iload_n (tk tkX8_matching 15 rfl) rfl ?_
        refine pw_iconst (v := 1) (tk tkX8_matching 16 rfl) (by decide) ?_
        refine pw_icmp_ne (tgt := 37) (tk tkX8_matching 17 rfl) (by decide) (fun c29 => ?_) (fun c29 => ?_)
        · refine pw_aload_n (tk tkX8_matching 20 rfl) rfl ?_
          refine g8_s (tk tkX8_matching 21 rfl) fkX8_7 ?_
          refine pw_iload_n (tk tkX8_matching 22 rfl) rfl ?_
          refine pw_iload (tk tkX8_matching 23 rfl) rfl ?_
          refine pw_cS (ct_X8_of _ r c) okX8_of (tk tkX8_matching 24 rfl) mkX8_49 stX8_of rfl rfl (by decide) (by decide) (Nat.le_of_ble_eq_true rfl) ?_
          refine al_s_e (e := 6 + 3 * r + c) (tk tkX8_matching 25 rfl) rfl (by first | decide | omega) ?_
          refine pw_ist9 (tk tkX8_matching 26 rfl) rfl (by decide) ?_
          exact J50 _ _ (by simp [seeN, rN, e1, nI_clamp (show c < 2 ^ 31 by omega), c29])
        · refine pw_iload (tk tkX8_matching 18 rfl) rfl ?_
          refine pw_goto (tgt := 48) (tk tkX8_matching 19 rfl) (by decide) ?_
          refine pw_ist9 (tk tkX8_matching 26 rfl) rfl (by decide) ?_
          exact J50 _ _ (by simp [seeN, rN, e1, nI_clamp (show c < 2 ^ 31 by omega), c29])
      refine pw_iload (tk tkX8_matching 4 rfl) rfl ?_
      refine pw_aload_n (tk tkX8_matching 5 rfl) rfl ?_
      refine g8_s (tk tkX8_matching 6 rfl) fkX8_7 ?_
      refine pw_bipush (v := 25) (tk tkX8_matching 7 rfl) (by decide) ?_
      refine al_s_e (e := 25) (tk tkX8_matching 8 rfl) (by first | rfl | simp only [lit_nI, nI_add, pk_mul]) (by first | decide | omega) ?_
      rw [hu]
      refine pw_icmp_ge (tgt := 147) (tk tkX8_matching 9 rfl) (by decide) (fun c15 => absurd c15 (nI_ge (by omega) (by omega))) (fun c15 => ?_)
      refine pw_aload_n (tk tkX8_matching 10 rfl) rfl ?_
      refine pw_iload (tk tkX8_matching 11 rfl) rfl ?_
      refine pw_iconst (v := 1) (tk tkX8_matching 12 rfl) (by decide) ?_
      refine pw_cV (ct_X8_at x i 1 (by omega)) okX8_at (tk tkX8_matching 13 rfl) mkX8_45 imX8_at seX8_at (hp_ot _ 11) rfl rfl rfl (by decide) (by decide) (Nat.le_of_ble_eq_true rfl) ?_
      refine pw_ist8 (tk tkX8_matching 14 rfl) rfl (by decide) ?_
      exact J27 _ _
  refine pw_iconst (v := 0) (tk tkX8_matching 0 rfl) (by decide) ?_
  refine pw_ist6 (tk tkX8_matching 1 rfl) rfl (by decide) ?_
  refine pw_iconst (v := 0) (tk tkX8_matching 2 rfl) (by decide) ?_
  refine pw_ist7 (tk tkX8_matching 3 rfl) rfl (by decide) ?_
  exact L u 0 (by omega) _ _ _
end
section
/-- what the model's numbers keep between calls -/
def VS (u : Nat) (s : Nat → Int32) : Prop := u ≤ 8 ∧ s 25 = nI u ∧ (∃ dp, dp ≤ 5 ∧ s 24 = nI dp) ∧ (∃ l, l ≤ 16 ∧ s 99 = nI l) ∧ (∀ j, j < 6 → s j = 0 ∨ s j = 1) ∧ ∀ i, i < u → (∃ c, c < 3 ∧ rN s i 1 = nI c) ∧ (∃ r, r < 6 ∧ rN s i 4 = nI r) ∧ (∃ c, c < 3 ∧ rN s i 5 = nI c) ∧ (rN s i 7 = 0 ∨ rN s i 7 = 1) ∧ (rN s i 3 = 0 ∨ rN s i 3 = 1 ∨ rN s i 3 = 2 ∨ rN s i 3 = 3)
/-- the same rules, acts aside -/
def SR (s t : Nat → Int32) : Prop := ∀ j, 24 ≤ j → j < 98 → (∀ i, j ≠ 26 + 9 * i + 8) → t j = s j
theorem SR.rf (s : Nat → Int32) : SR s s := fun _ _ _ _ => rfl
theorem SR.tr {s t w : Nat → Int32} (h : SR s t) (g : SR t w) : SR s w := fun j a b c => (g j a b c).trans (h j a b c)
theorem SR.ru {s t : Nat → Int32} (h : SR s t) {i k : Nat} (hi : i < 8) (hk : k < 8) : rN t i k = rN s i k := h _ (by omega) (by omega) (fun j => by omega)
theorem VS.of {u : Nat} {s t : Nat → Int32} (h : VS u s) (g : SR s t) (h5 : ∃ l, l ≤ 16 ∧ t 99 = nI l) (h6 : ∀ j, j < 6 → t j = 0 ∨ t j = 1) : VS u t := by
  obtain ⟨a, b, c, d, e, f⟩ := h
  refine ⟨a, by rw [g 25 (by omega) (by omega) (fun i => by omega)]; exact b, by rw [g 24 (by omega) (by omega) (fun i => by omega)]; exact c, h5, h6, fun i hi => ?_⟩
  rw [g.ru (k := 1) (by omega) (by omega), g.ru (k := 4) (by omega) (by omega), g.ru (k := 5) (by omega) (by omega), g.ru (k := 7) (by omega) (by omega), g.ru (k := 3) (by omega) (by omega)]
  exact f i hi
def lgL (s : Nat → Int32) : Nat := if s 99 = 16 then 15 else (s 99).toNatClampNeg
def shD (L k : Nat) (s : Nat → Int32) : Nat → Int32 := fun j => if (100 + k < j ∧ j ≤ 100 + L) ∨ (116 + k < j ∧ j ≤ 116 + L) then s (j - 1) else s j
theorem shD_0 (L : Nat) (s : Nat → Int32) : shD L L s = s := by
  funext j; unfold shD; rw [if_neg (by omega)]
theorem shD_s (L k : Nat) (s : Nat → Int32) (hk : k < L) (hL : L ≤ 15) : upd (upd (shD L (k + 1) s) (100 + (k + 1)) (shD L (k + 1) s (100 + (k + 1) - 1))) (116 + (k + 1)) (upd (shD L (k + 1) s) (100 + (k + 1)) (shD L (k + 1) s (100 + (k + 1) - 1)) (116 + (k + 1) - 1)) = shD L k s := by
  have e1 : shD L (k + 1) s (100 + (k + 1) - 1) = s (100 + k) := by unfold shD; rw [if_neg (by omega)]; rfl
  have e2 : upd (shD L (k + 1) s) (100 + (k + 1)) (shD L (k + 1) s (100 + (k + 1) - 1)) (116 + (k + 1) - 1) = s (116 + k) := by
    rw [upd_nt _ _ (by omega)]; unfold shD; rw [if_neg (by omega)]; rfl
  rw [e2, e1]
  funext j
  unfold upd shD
  by_cases a : j = 116 + (k + 1)
  · rw [if_pos a, if_pos (by omega)]; subst a; rfl
  · rw [if_neg a]
    by_cases b : j = 100 + (k + 1)
    · rw [if_pos b, if_pos (by omega)]; subst b; rfl
    · rw [if_neg b]
      by_cases c : (100 + k < j ∧ j ≤ 100 + L) ∨ (116 + k < j ∧ j ≤ 116 + L)
      · rw [if_pos c, if_pos (by omega)]
      · rw [if_neg c, if_neg (by omega)]
def lgS (s : Nat → Int32) (i : Nat) (d : Int32) : Nat → Int32 :=
  upd (upd (upd (upd (shD (lgL s) 0 s) 100 (nI i)) 116 d) 99 (nI (lgL s + 1))) (26 + 9 * i + 8) (s (26 + 9 * i + 8) + 1)
theorem lgS_nt (s : Nat → Int32) (i : Nat) (d : Int32) {j : Nat} (h : j < 99) (hi : j ≠ 26 + 9 * i + 8) : lgS s i d j = s j := by
  unfold lgS; rw [upd_nt _ _ hi, upd_nt _ _ (by omega), upd_nt _ _ (by omega), upd_nt _ _ (by omega)]; unfold shD; rw [if_neg (by omega)]
theorem lgS_99 (s : Nat → Int32) {i : Nat} (d : Int32) (hi : i < 8) : lgS s i d 99 = nI (lgL s + 1) := by
  unfold lgS; rw [upd_nt _ _ (by omega), upd_at]
theorem lgS_SR (s : Nat → Int32) (i : Nat) (d : Int32) : SR s (lgS s i d) := fun j _ b c => lgS_nt s i d (by omega) (c i)
theorem lgL_le {u : Nat} {s : Nat → Int32} (h : VS u s) : lgL s ≤ 15 := by
  obtain ⟨_, _, _, ⟨l, hl, e⟩, _⟩ := h
  unfold lgL
  by_cases c : s 99 = 16
  · rw [if_pos c]; exact Nat.le_refl _
  · rw [if_neg c, e, nI_clamp (by omega)]
    have : l ≠ 16 := fun q => c (by rw [e, q]; rfl)
    omega
theorem lgS_VS {u : Nat} {s : Nat → Int32} (h : VS u s) {i : Nat} (d : Int32) (hi : i < u) : VS u (lgS s i d) :=
  h.of (lgS_SR s i d) ⟨_, Nat.succ_le_succ (lgL_le h), lgS_99 s d (by have := h.1; omega)⟩ (fun j hj => by rw [lgS_nt s i d (by omega) (by omega)]; exact h.2.2.2.2.1 j hj)
def alt (s : Nat → Int32) (ev : Int32) (r c : Nat) (v : Int32) : Nat → Int32 := if ev = 1 then upd s (6 + 3 * r + c) v else upd s r (if ev = 0 then 1 else 0)
theorem alt_nt (s : Nat → Int32) (ev : Int32) {r c : Nat} (v : Int32) {j : Nat} (hr : r < 6) (hc : c < 3) (h : 24 ≤ j) : alt s ev r c v j = s j := by
  unfold alt; by_cases e : ev = 1
  · rw [if_pos e]; exact upd_nt _ _ (by omega)
  · rw [if_neg e]; exact upd_nt _ _ (by omega)
theorem alt_VS {u : Nat} {s : Nat → Int32} (h : VS u s) (ev : Int32) {r c : Nat} (v : Int32) (hr : r < 6) (hc : c < 3) : VS u (alt s ev r c v) := by
  refine h.of (fun j a _ _ => alt_nt s ev v hr hc a) (by rw [alt_nt s ev v hr hc (by omega)]; exact h.2.2.2.1) (fun j hj => ?_)
  unfold alt; by_cases e : ev = 1
  · rw [if_pos e, upd_nt _ _ (by omega)]; exact h.2.2.2.2.1 j hj
  · rw [if_neg e]
    unfold upd
    by_cases q : j = r
    · rw [if_pos q]; by_cases z : ev = 0
      · rw [if_pos z]; exact .inr rfl
      · rw [if_neg z]; exact .inl rfl
    · rw [if_neg q]; exact h.2.2.2.2.1 j hj
set_option maxRecDepth 100000 in
set_option maxHeartbeats 4000000 in
theorem ct_X8_logs (x : XW) (u i : Nat) (hv : VS u (mS x.2.1)) (hi : i < u) : CT MX8_logs 0 0 [.ref 171, .int (nI i)] (hp x) (Det (.inl none) (hp (uM1 x (lgS (mS x.2.1) i (mF x.2.1 10))))) := by
  refine ct_of (by decide +kernel) (by decide) rfl (k := 2) (ls := [some (.ref 171), some (.int (nI i)), none, none]) rfl (Nat.le_of_ble_eq_true rfl) ?_
  have hu8 : u ≤ 8 := hv.1
  have hL := lgL_le hv
  have J27 : ∀ k, k ≤ lgL (mS x.2.1) → ∀ y, y = uM1 x (shD (lgL (mS x.2.1)) k (mS x.2.1)) → PW MX8_logs 0 0 27 [some (.ref 171), some (.int (nI i)), some (.int (nI (lgL (mS x.2.1)))), some (.int (nI k))] [] (hp y) (Det (.inl none) (hp (uM1 x (lgS (mS x.2.1) i (mF x.2.1 10))))) := by
    intro k
    induction k with
    | zero =>
      intro hk y hy
      refine pw_iload_n (tk tkX8_logs 15 rfl) rfl ?_
      refine pw_if_le (tgt := 77) (tk tkX8_logs 16 rfl) (by decide) (fun c28 => ?_) (fun c28 => absurd (Int32.le_refl _) c28)
      refine pw_aload_n (tk tkX8_logs 47 rfl) rfl ?_
      refine g8_s (tk tkX8_logs 48 rfl) fkX8_7 ?_
      refine pw_bipush (v := 100) (tk tkX8_logs 49 rfl) (by decide) ?_
      refine pw_iload_n (tk tkX8_logs 50 rfl) rfl ?_
      refine as_s_e (e := 100) (tk tkX8_logs 51 rfl) (by first | rfl | simp only [lit_nI, nI_add, pk_mul]) (by first | decide | omega) ?_
      refine pw_aload_n (tk tkX8_logs 52 rfl) rfl ?_
      refine g8_s (tk tkX8_logs 53 rfl) fkX8_7 ?_
      refine pw_bipush (v := 116) (tk tkX8_logs 54 rfl) (by decide) ?_
      refine pw_aload_n (tk tkX8_logs 55 rfl) rfl ?_
      refine g8_depth (tk tkX8_logs 56 rfl) fkX8_62 ?_
      refine as_s_e (e := 116) (tk tkX8_logs 57 rfl) (by first | rfl | simp only [lit_nI, nI_add, pk_mul]) (by first | decide | omega) ?_
      refine pw_aload_n (tk tkX8_logs 58 rfl) rfl ?_
      refine g8_s (tk tkX8_logs 59 rfl) fkX8_7 ?_
      refine pw_bipush (v := 99) (tk tkX8_logs 60 rfl) (by decide) ?_
      refine pw_iload_n (tk tkX8_logs 61 rfl) rfl ?_
      refine pw_iconst (v := 1) (tk tkX8_logs 62 rfl) (by decide) ?_
      refine pw_iadd (tk tkX8_logs 63 rfl) ?_
      rw [nI_1]
      refine as_s_e (e := 99) (tk tkX8_logs 64 rfl) (by first | rfl | simp only [lit_nI, nI_add, pk_mul]) (by first | decide | omega) ?_
      refine pw_aload_n (tk tkX8_logs 65 rfl) rfl ?_
      refine g8_s (tk tkX8_logs 66 rfl) fkX8_7 ?_
      refine pw_bipush (v := 26) (tk tkX8_logs 67 rfl) (by decide) ?_
      refine pw_bipush (v := 9) (tk tkX8_logs 68 rfl) (by decide) ?_
      refine pw_iload_n (tk tkX8_logs 69 rfl) rfl ?_
      refine pw_imul (tk tkX8_logs 70 rfl) ?_
      refine pw_iadd (tk tkX8_logs 71 rfl) ?_
      refine pw_bipush (v := 8) (tk tkX8_logs 72 rfl) (by decide) ?_
      refine pw_iadd (tk tkX8_logs 73 rfl) ?_
      refine pw_dup2 (tk tkX8_logs 74 rfl) rfl rfl ?_
      refine al_s_e (e := 26 + 9 * i + 8) (tk tkX8_logs 75 rfl) (by simp only [lit_nI, nI_add, pk_mul]) (by first | decide | omega) ?_
      refine pw_iconst (v := 1) (tk tkX8_logs 76 rfl) (by decide) ?_
      refine pw_iadd (tk tkX8_logs 77 rfl) ?_
      refine as_s_e (e := 26 + 9 * i + 8) (tk tkX8_logs 78 rfl) (by simp only [lit_nI, nI_add, pk_mul]) (by first | decide | omega) ?_
      refine pw_return (tk tkX8_logs 79 rfl) rfl (by decide) ?_
      refine ⟨rfl, ?_⟩
      subst hy
      have e : shD (lgL (mS x.2.1)) 0 (mS x.2.1) (26 + 9 * i + 8) = mS x.2.1 (26 + 9 * i + 8) := by unfold shD; rw [if_neg (by omega)]
      unfold lgS
      rw [← e, ← show (upd (upd (upd (shD (lgL (mS x.2.1)) 0 (mS x.2.1)) 100 (nI i)) 116 (mF x.2.1 10)) 99 (nI (lgL (mS x.2.1) + 1))) (26 + 9 * i + 8) = shD (lgL (mS x.2.1)) 0 (mS x.2.1) (26 + 9 * i + 8) from by rw [upd_nt _ _ (by omega), upd_nt _ _ (by omega), upd_nt _ _ (by omega)]]
      rfl
    | succ k ih =>
      intro hk y hy
      refine pw_iload_n (tk tkX8_logs 15 rfl) rfl ?_
      refine pw_if_le (tgt := 77) (tk tkX8_logs 16 rfl) (by decide) (fun c28 => absurd c28 (nI_nle (by omega) (by omega))) (fun c28 => ?_)
      refine pw_aload_n (tk tkX8_logs 17 rfl) rfl ?_
      refine g8_s (tk tkX8_logs 18 rfl) fkX8_7 ?_
      refine pw_bipush (v := 100) (tk tkX8_logs 19 rfl) (by decide) ?_
      refine pw_iload_n (tk tkX8_logs 20 rfl) rfl ?_
      refine pw_iadd (tk tkX8_logs 21 rfl) ?_
      refine pw_aload_n (tk tkX8_logs 22 rfl) rfl ?_
      refine g8_s (tk tkX8_logs 23 rfl) fkX8_7 ?_
      refine pw_bipush (v := 100) (tk tkX8_logs 24 rfl) (by decide) ?_
      refine pw_iload_n (tk tkX8_logs 25 rfl) rfl ?_
      refine pw_iadd (tk tkX8_logs 26 rfl) ?_
      refine pw_iconst (v := 1) (tk tkX8_logs 27 rfl) (by decide) ?_
      refine pw_isub (tk tkX8_logs 28 rfl) ?_
      refine al_s_e (e := 100 + (k + 1) - 1) (tk tkX8_logs 29 rfl) (by simp only [lit_nI, nI_add]; exact pk_sub (by omega)) (by first | decide | omega) ?_
      refine as_s_e (e := 100 + (k + 1)) (tk tkX8_logs 30 rfl) (by simp only [lit_nI, nI_add]) (by first | decide | omega) ?_
      refine pw_aload_n (tk tkX8_logs 31 rfl) rfl ?_
      refine g8_s (tk tkX8_logs 32 rfl) fkX8_7 ?_
      refine pw_bipush (v := 116) (tk tkX8_logs 33 rfl) (by decide) ?_
      refine pw_iload_n (tk tkX8_logs 34 rfl) rfl ?_
      refine pw_iadd (tk tkX8_logs 35 rfl) ?_
      refine pw_aload_n (tk tkX8_logs 36 rfl) rfl ?_
      refine g8_s (tk tkX8_logs 37 rfl) fkX8_7 ?_
      refine pw_bipush (v := 116) (tk tkX8_logs 38 rfl) (by decide) ?_
      refine pw_iload_n (tk tkX8_logs 39 rfl) rfl ?_
      refine pw_iadd (tk tkX8_logs 40 rfl) ?_
      refine pw_iconst (v := 1) (tk tkX8_logs 41 rfl) (by decide) ?_
      refine pw_isub (tk tkX8_logs 42 rfl) ?_
      refine al_s_e (e := 116 + (k + 1) - 1) (tk tkX8_logs 43 rfl) (by simp only [lit_nI, nI_add]; exact pk_sub (by omega)) (by first | decide | omega) ?_
      refine as_s_e (e := 116 + (k + 1)) (tk tkX8_logs 44 rfl) (by simp only [lit_nI, nI_add]) (by first | decide | omega) ?_
      refine pw_inc3 (tk tkX8_logs 45 rfl) rfl (by decide) (pk_m1 k) ?_
      refine pw_goto (tgt := 27) (tk tkX8_logs 46 rfl) (by decide) ?_
      refine ih (by omega) _ ?_
      rw [hy]
      show uM1 x (upd (upd (shD (lgL (mS x.2.1)) (k + 1) (mS x.2.1)) (100 + (k + 1)) (shD (lgL (mS x.2.1)) (k + 1) (mS x.2.1) (100 + (k + 1) - 1))) (116 + (k + 1)) (upd (shD (lgL (mS x.2.1)) (k + 1) (mS x.2.1)) (100 + (k + 1)) (shD (lgL (mS x.2.1)) (k + 1) (mS x.2.1) (100 + (k + 1) - 1)) (116 + (k + 1) - 1))) = _
      rw [shD_s _ _ _ (by omega) hL]
  have J24 : ∀ w, w = nI (lgL (mS x.2.1)) → PW MX8_logs 0 0 24 [some (.ref 171), some (.int (nI i)), none, none] [.int w] (hp x) (Det (.inl none) (hp (uM1 x (lgS (mS x.2.1) i (mF x.2.1 10))))) := by
    intro w hw
    subst hw
    refine pw_ist2 (tk tkX8_logs 12 rfl) rfl (by decide) ?_
    refine pw_iload_n (tk tkX8_logs 13 rfl) rfl ?_
    refine pw_ist3 (tk tkX8_logs 14 rfl) rfl (by decide) ?_
    exact J27 _ (Nat.le_refl _) x (by rw [shD_0]; rfl)
  refine pw_aload_n (tk tkX8_logs 0 rfl) rfl ?_
  refine g8_s (tk tkX8_logs 1 rfl) fkX8_7 ?_
  refine pw_bipush (v := 99) (tk tkX8_logs 2 rfl) (by decide) ?_
  refine al_s_e (e := 99) (tk tkX8_logs 3 rfl) (by first | rfl | simp only [lit_nI, nI_add, pk_mul]) (by first | decide | omega) ?_
  refine pw_bipush (v := 16) (tk tkX8_logs 4 rfl) (by decide) ?_
  refine pw_icmp_ne (tgt := 17) (tk tkX8_logs 5 rfl) (by decide) (fun c9 => ?_) (fun c9 => ?_)
  · refine pw_aload_n (tk tkX8_logs 8 rfl) rfl ?_
    refine g8_s (tk tkX8_logs 9 rfl) fkX8_7 ?_
    refine pw_bipush (v := 99) (tk tkX8_logs 10 rfl) (by decide) ?_
    refine al_s_e (e := 99) (tk tkX8_logs 11 rfl) (by first | rfl | simp only [lit_nI, nI_add, pk_mul]) (by first | decide | omega) ?_
    exact J24 _ (by unfold lgL; rw [if_neg c9]; obtain ⟨_, _, _, ⟨l, hl, e⟩, _⟩ := hv; rw [e, nI_clamp (by omega)])
  · refine pw_bipush (v := 15) (tk tkX8_logs 6 rfl) (by decide) ?_
    refine pw_goto (tgt := 24) (tk tkX8_logs 7 rfl) (by decide) ?_
    exact J24 _ (by unfold lgL; rw [if_pos c9]; rfl)
def bgC (s : Nat → Int32) (u : Nat) (hp : Int32) (ev : Int32) (r c : Nat) (v its : Int32) : Int32 :=
  if ¬ its ≤ s 24 then 3 else if hp = 100 then 4 else if ¬ mkM (mtC s ev r (nI c) v true) u = 0 then 5 else 0
theorem bgC_cs (s : Nat → Int32) (u : Nat) (hp : Int32) (ev : Int32) (r c : Nat) (v its : Int32) : bgC s u hp ev r c v its = 3 ∨ bgC s u hp ev r c v its = 4 ∨ bgC s u hp ev r c v its = 5 ∨ (bgC s u hp ev r c v its = 0 ∧ its ≤ s 24) := by
  unfold bgC
  by_cases a : ¬ its ≤ s 24
  · rw [if_pos a]; exact .inl rfl
  · rw [if_neg a]; by_cases b : hp = 100
    · rw [if_pos b]; exact .inr (.inl rfl)
    · rw [if_neg b]; by_cases c : ¬ mkM (mtC s ev r (nI ‹Nat›) v true) u = 0
      · exact .inr (.inr (.inl (by first | exact if_pos c | (split <;> simp_all))))
      · exact .inr (.inr (by split <;> simp_all))
def mx (a b : Int32) : Int32 := if a ≤ b then b else a
/-- what begins leaves -/
def bgW (x : XW) (u : Nat) (ev : Int32) (r c : Nat) (v : Int32) (its : Nat) : XW :=
  uM1 (uM7 (uM6 x (upd (mWa x.2.1) its (mkM (mtC (mS x.2.1) ev r (nI c) v false) u))) (upd (upd (upd (upd (mF x.2.1) 13 0) 10 (nI its)) 11 (mx (nI its) (mF x.2.1 11))) 12 (mF x.2.1 12 + 1))) (alt (mS x.2.1) ev r c v)
def bgX (x : XW) (u : Nat) (ev : Int32) (r c : Nat) (v : Int32) (its : Nat) : XW :=
  if bgC (mS x.2.1) u (mF x.2.1 12) ev r c v (nI its) = 0 then bgW x u ev r c v its else uM7 x (upd (mF x.2.1) 13 (bgC (mS x.2.1) u (mF x.2.1 12) ev r c v (nI its)))
set_option maxRecDepth 100000 in
set_option maxHeartbeats 4000000 in
theorem ct_X8_begins (x : XW) (u : Nat) (hv : VS u (mS x.2.1)) (ev : Int32) (r c : Nat) (v : Int32) (its : Nat) (hr : r < 6) (hc : c < 3) (h6 : its ≤ 6) : CT MX8_begins 2 0 [.ref 171, .int ev, .int (nI r), .int (nI c), .int v, .int (nI its)] (hp x) (Det (.inl (some (.int (bI (decide (bgC (mS x.2.1) u (mF x.2.1 12) ev r c v (nI its) = 0)))))) (hp (bgX x u ev r c v its))) := by
  refine ct_of (by decide +kernel) (by decide) rfl (k := 0) (ls := [some (.ref 171), some (.int ev), some (.int (nI r)), some (.int (nI c)), some (.int v), some (.int (nI its))]) rfl (Nat.le_of_ble_eq_true rfl) ?_
  have e24 : ∃ dp, dp ≤ 5 ∧ mS x.2.1 24 = nI dp := hv.2.2.1
  have J115 : ∀ y : XW, mS y.2.1 = mS x.2.1 → uM1 y (alt (mS x.2.1) ev r c v) = bgX x u ev r c v its → bgC (mS x.2.1) u (mF x.2.1 12) ev r c v (nI its) = 0 → PW MX8_begins 2 0 115 [some (.ref 171), some (.int ev), some (.int (nI r)), some (.int (nI c)), some (.int v), some (.int (nI its))] [] (hp y) (Det (.inl (some (.int (bI (decide (bgC (mS x.2.1) u (mF x.2.1 12) ev r c v (nI its) = 0)))))) (hp (bgX x u ev r c v its))) := by
    intro y hs hy h0
    have J151 : ¬ ev = 1 → ∀ w, w = (if ev = 0 then (1 : Int32) else 0) → PW MX8_begins 2 0 151 [some (.ref 171), some (.int ev), some (.int (nI r)), some (.int (nI c)), some (.int v), some (.int (nI its))] [.int w, .int (0 + nI r), .ref 172] (hp y) (Det (.inl (some (.int (bI (decide (bgC (mS x.2.1) u (mF x.2.1 12) ev r c v (nI its) = 0)))))) (hp (bgX x u ev r c v its))) := by
      intro e1 w hw
      subst hw
      refine as_s_e (e := r) (tk tkX8_begins 83 rfl) (Int32.zero_add _) (by first | decide | omega) ?_
      refine pw_iconst (v := 1) (tk tkX8_begins 84 rfl) (by decide) ?_
      refine pw_ireturn (tk tkX8_begins 85 rfl) rfl (by decide) (by first | rfl | exact nar_bI _) ?_
      refine ⟨by rw [h0]; rfl, ?_⟩
      rw [← hy, ← hs]
      unfold alt
      rw [if_neg e1]
    refine pw_iload_n (tk tkX8_begins 62 rfl) rfl ?_
    refine pw_iconst (v := 1) (tk tkX8_begins 63 rfl) (by decide) ?_
    refine pw_icmp_ne (tgt := 135) (tk tkX8_begins 64 rfl) (by decide) (fun c117 => ?_) (fun c117 => ?_)
    · refine pw_aload_n (tk tkX8_begins 73 rfl) rfl ?_
      refine g8_s (tk tkX8_begins 74 rfl) fkX8_7 ?_
      refine pw_iconst (v := 0) (tk tkX8_begins 75 rfl) (by decide) ?_
      refine pw_iload_n (tk tkX8_begins 76 rfl) rfl ?_
      refine pw_iadd (tk tkX8_begins 77 rfl) ?_
      refine pw_iload_n (tk tkX8_begins 78 rfl) rfl ?_
      refine pw_if_ne (tgt := 150) (tk tkX8_begins 79 rfl) (by decide) (fun c143 => ?_) (fun c143 => ?_)
      · refine pw_iconst (v := 0) (tk tkX8_begins 82 rfl) (by decide) ?_
        exact J151 c117 _ (by rw [if_neg c143])
      · refine pw_iconst (v := 1) (tk tkX8_begins 80 rfl) (by decide) ?_
        refine pw_goto (tgt := 151) (tk tkX8_begins 81 rfl) (by decide) ?_
        exact J151 c117 _ (by rw [if_pos c143])
    · refine pw_aload_n (tk tkX8_begins 65 rfl) rfl ?_
      refine g8_s (tk tkX8_begins 66 rfl) fkX8_7 ?_
      refine pw_iload_n (tk tkX8_begins 67 rfl) rfl ?_
      refine pw_iload_n (tk tkX8_begins 68 rfl) rfl ?_
      refine pw_cS (ct_X8_of _ r c) okX8_of (tk tkX8_begins 69 rfl) mkX8_49 stX8_of rfl rfl (by decide) (by decide) (Nat.le_of_ble_eq_true rfl) ?_
      refine pw_iload (tk tkX8_begins 70 rfl) rfl ?_
      refine as_s_e (e := 6 + 3 * r + c) (tk tkX8_begins 71 rfl) rfl (by first | decide | omega) ?_
      refine pw_goto (tgt := 152) (tk tkX8_begins 72 rfl) (by decide) ?_
      refine pw_iconst (v := 1) (tk tkX8_begins 84 rfl) (by decide) ?_
      refine pw_ireturn (tk tkX8_begins 85 rfl) rfl (by decide) (by first | rfl | exact nar_bI _) ?_
      refine ⟨by rw [h0]; rfl, ?_⟩
      rw [← hy, ← hs]
      unfold alt
      rw [if_pos c117]
  have J48 : ∀ w, w = bgC (mS x.2.1) u (mF x.2.1 12) ev r c v (nI its) → PW MX8_begins 2 0 48 [some (.ref 171), some (.int ev), some (.int (nI r)), some (.int (nI c)), some (.int v), some (.int (nI its))] [.int w, .ref 171] (hp x) (Det (.inl (some (.int (bI (decide (bgC (mS x.2.1) u (mF x.2.1 12) ev r c v (nI its) = 0)))))) (hp (bgX x u ev r c v its))) := by
    intro w hw
    have cs := bgC_cs (mS x.2.1) u (mF x.2.1 12) ev r c v (nI its)
    rw [← hw] at cs
    rcases cs with cs1 | cs1 | cs1 | ⟨cs1, cs2⟩
    · refine p8_refused (tk tkX8_begins 26 rfl) fkX8_59 ?_
      refine pw_aload_n (tk tkX8_begins 27 rfl) rfl ?_
      refine g8_refused (tk tkX8_begins 28 rfl) fkX8_59 ?_
      refine pw_if_le (tgt := 60) (tk tkX8_begins 29 rfl) (by decide) (fun c55 => absurd c55 (by show ¬ w ≤ 0; rw [cs1]; decide)) (fun c55 => ?_)
      refine pw_iconst (v := 0) (tk tkX8_begins 30 rfl) (by decide) ?_
      refine pw_ireturn (tk tkX8_begins 31 rfl) rfl (by decide) (by first | rfl | exact nar_bI _) ?_
      rw [hw] at cs1
      refine ⟨by rw [cs1]; decide, ?_⟩
      subst hw
      unfold bgX
      rw [if_neg (by rw [cs1]; decide)]
    · refine p8_refused (tk tkX8_begins 26 rfl) fkX8_59 ?_
      refine pw_aload_n (tk tkX8_begins 27 rfl) rfl ?_
      refine g8_refused (tk tkX8_begins 28 rfl) fkX8_59 ?_
      refine pw_if_le (tgt := 60) (tk tkX8_begins 29 rfl) (by decide) (fun c55 => absurd c55 (by show ¬ w ≤ 0; rw [cs1]; decide)) (fun c55 => ?_)
      refine pw_iconst (v := 0) (tk tkX8_begins 30 rfl) (by decide) ?_
      refine pw_ireturn (tk tkX8_begins 31 rfl) rfl (by decide) (by first | rfl | exact nar_bI _) ?_
      rw [hw] at cs1
      refine ⟨by rw [cs1]; decide, ?_⟩
      subst hw
      unfold bgX
      rw [if_neg (by rw [cs1]; decide)]
    · refine p8_refused (tk tkX8_begins 26 rfl) fkX8_59 ?_
      refine pw_aload_n (tk tkX8_begins 27 rfl) rfl ?_
      refine g8_refused (tk tkX8_begins 28 rfl) fkX8_59 ?_
      refine pw_if_le (tgt := 60) (tk tkX8_begins 29 rfl) (by decide) (fun c55 => absurd c55 (by show ¬ w ≤ 0; rw [cs1]; decide)) (fun c55 => ?_)
      refine pw_iconst (v := 0) (tk tkX8_begins 30 rfl) (by decide) ?_
      refine pw_ireturn (tk tkX8_begins 31 rfl) rfl (by decide) (by first | rfl | exact nar_bI _) ?_
      rw [hw] at cs1
      refine ⟨by rw [cs1]; decide, ?_⟩
      subst hw
      unfold bgX
      rw [if_neg (by rw [cs1]; decide)]
    · have hi5 : its ≤ 5 := by
        obtain ⟨dp, h5, e⟩ := e24
        rw [e] at cs2
        exact Nat.le_trans ((nI_leI (by omega) (by omega)).mp cs2) h5
      have h0 : bgC (mS x.2.1) u (mF x.2.1 12) ev r c v (nI its) = 0 := by rw [← hw]; exact cs1
      rw [cs1]
      refine p8_refused (tk tkX8_begins 26 rfl) fkX8_59 ?_
      refine pw_aload_n (tk tkX8_begins 27 rfl) rfl ?_
      refine g8_refused (tk tkX8_begins 28 rfl) fkX8_59 ?_
      refine pw_if_le (tgt := 60) (tk tkX8_begins 29 rfl) (by decide) (fun c55 => ?_) (fun c55 => absurd (Int32.le_refl _) c55)
      refine pw_aload_n (tk tkX8_begins 32 rfl) rfl ?_
      refine g8_waiting (tk tkX8_begins 33 rfl) fkX8_25 ?_
      refine pw_iload (tk tkX8_begins 34 rfl) rfl ?_
      refine pw_aload_n (tk tkX8_begins 35 rfl) rfl ?_
      refine pw_iload_n (tk tkX8_begins 36 rfl) rfl ?_
      refine pw_iload_n (tk tkX8_begins 37 rfl) rfl ?_
      refine pw_iload_n (tk tkX8_begins 38 rfl) rfl ?_
      refine pw_iload (tk tkX8_begins 39 rfl) rfl ?_
      have e72 : (0 : Int32) = bI false := rfl
      refine pw_iconst (v := 0) (tk tkX8_begins 40 rfl) (by decide) ?_
      refine pw_cV (ct_X8_matching (uM7 x (upd (mF x.2.1) 13 0)) u r hv.2.1 hv.1 hr (fun i hi => (hv.2.2.2.2.2 i hi).1) ev (nI c) v false) okX8_matching (tk tkX8_begins 41 rfl) mkX8_55 imX8_matching seX8_matching (hp_ot _ 11) rfl rfl rfl (by decide) (by decide) (Nat.le_of_ble_eq_true rfl) ?_
      refine as_waiting_e (e := its) (tk tkX8_begins 42 rfl) rfl (by first | decide | omega) ?_
      refine pw_aload_n (tk tkX8_begins 43 rfl) rfl ?_
      refine pw_iload (tk tkX8_begins 44 rfl) rfl ?_
      refine p8_depth (tk tkX8_begins 45 rfl) fkX8_62 ?_
      refine pw_aload_n (tk tkX8_begins 46 rfl) rfl ?_
      refine pw_iload (tk tkX8_begins 47 rfl) rfl ?_
      refine pw_aload_n (tk tkX8_begins 48 rfl) rfl ?_
      refine g8_deepest (tk tkX8_begins 49 rfl) fkX8_65 ?_
      refine pw_icmp_le (tgt := 98) (tk tkX8_begins 50 rfl) (by decide) (fun c90 => ?_) (fun c90 => ?_)
      · refine pw_aload_n (tk tkX8_begins 53 rfl) rfl ?_
        refine g8_deepest (tk tkX8_begins 54 rfl) fkX8_65 ?_
        refine p8_deepest (tk tkX8_begins 55 rfl) fkX8_65 ?_
        refine pw_aload_n (tk tkX8_begins 56 rfl) rfl ?_
        refine pw_dup (tk tkX8_begins 57 rfl) rfl ?_
        refine g8_happened (tk tkX8_begins 58 rfl) fkX8_52 ?_
        refine pw_iconst (v := 1) (tk tkX8_begins 59 rfl) (by decide) ?_
        refine pw_iadd (tk tkX8_begins 60 rfl) ?_
        refine p8_happened (tk tkX8_begins 61 rfl) fkX8_52 ?_
        refine J115 _ rfl ?_ h0
        unfold bgX
        rw [if_pos h0]
        have q :  (nI its ≤ mF x.2.1 11) := c90
        unfold bgW mx
        rw [if_pos q]
        rfl
      · refine pw_iload (tk tkX8_begins 51 rfl) rfl ?_
        refine pw_goto (tgt := 102) (tk tkX8_begins 52 rfl) (by decide) ?_
        refine p8_deepest (tk tkX8_begins 55 rfl) fkX8_65 ?_
        refine pw_aload_n (tk tkX8_begins 56 rfl) rfl ?_
        refine pw_dup (tk tkX8_begins 57 rfl) rfl ?_
        refine g8_happened (tk tkX8_begins 58 rfl) fkX8_52 ?_
        refine pw_iconst (v := 1) (tk tkX8_begins 59 rfl) (by decide) ?_
        refine pw_iadd (tk tkX8_begins 60 rfl) ?_
        refine p8_happened (tk tkX8_begins 61 rfl) fkX8_52 ?_
        refine J115 _ rfl ?_ h0
        unfold bgX
        rw [if_pos h0]
        have q : ¬  (nI its ≤ mF x.2.1 11) := c90
        unfold bgW mx
        rw [if_neg q]
        rfl
  refine pw_aload_n (tk tkX8_begins 0 rfl) rfl ?_
  refine pw_iload (tk tkX8_begins 1 rfl) rfl ?_
  refine pw_aload_n (tk tkX8_begins 2 rfl) rfl ?_
  refine g8_s (tk tkX8_begins 3 rfl) fkX8_7 ?_
  refine pw_bipush (v := 24) (tk tkX8_begins 4 rfl) (by decide) ?_
  refine al_s_e (e := 24) (tk tkX8_begins 5 rfl) (by first | rfl | simp only [lit_nI, nI_add, pk_mul]) (by first | decide | omega) ?_
  refine pw_icmp_le (tgt := 17) (tk tkX8_begins 6 rfl) (by decide) (fun c10 => ?_) (fun c10 => ?_)
  · refine pw_aload_n (tk tkX8_begins 9 rfl) rfl ?_
    refine g8_happened (tk tkX8_begins 10 rfl) fkX8_52 ?_
    refine pw_bipush (v := 100) (tk tkX8_begins 11 rfl) (by decide) ?_
    refine pw_icmp_ne (tgt := 30) (tk tkX8_begins 12 rfl) (by decide) (fun c23 => ?_) (fun c23 => ?_)
    · refine pw_aload_n (tk tkX8_begins 15 rfl) rfl ?_
      refine pw_iload_n (tk tkX8_begins 16 rfl) rfl ?_
      refine pw_iload_n (tk tkX8_begins 17 rfl) rfl ?_
      refine pw_iload_n (tk tkX8_begins 18 rfl) rfl ?_
      refine pw_iload (tk tkX8_begins 19 rfl) rfl ?_
      refine pw_iconst (v := 1) (tk tkX8_begins 20 rfl) (by decide) ?_
      refine pw_cV (ct_X8_matching x u r hv.2.1 hv.1 hr (fun i hi => (hv.2.2.2.2.2 i hi).1) ev (nI c) v true) okX8_matching (tk tkX8_begins 21 rfl) mkX8_55 imX8_matching seX8_matching (hp_ot _ 11) rfl rfl rfl (by decide) (by decide) (Nat.le_of_ble_eq_true rfl) ?_
      refine pw_if_eq (tgt := 47) (tk tkX8_begins 22 rfl) (by decide) (fun c40 => ?_) (fun c40 => ?_)
      · refine pw_iconst (v := 0) (tk tkX8_begins 25 rfl) (by decide) ?_
        exact J48 _ (by unfold bgC; simp [c10, c23, c40])
      · refine pw_iconst (v := 5) (tk tkX8_begins 23 rfl) (by decide) ?_
        refine pw_goto (tgt := 48) (tk tkX8_begins 24 rfl) (by decide) ?_
        exact J48 _ (by unfold bgC; simp [c10, c23, c40])
    · refine pw_iconst (v := 4) (tk tkX8_begins 13 rfl) (by decide) ?_
      refine pw_goto (tgt := 48) (tk tkX8_begins 14 rfl) (by decide) ?_
      exact J48 _ (by unfold bgC; simp [c10, c23])
  · refine pw_iconst (v := 3) (tk tkX8_begins 7 rfl) (by decide) ?_
    refine pw_goto (tgt := 48) (tk tkX8_begins 8 rfl) (by decide) ?_
    exact J48 _ (by unfold bgC; simp [c10])
end
section
def ro (s : Nat → Int32) (i : Nat) : Nat := (rN s i 4).toNatClampNeg
def co (s : Nat → Int32) (i : Nat) : Nat := (rN s i 5).toNatClampNeg
theorem ro_e {u : Nat} {s : Nat → Int32} (h : VS u s) {i : Nat} (hi : i < u) : rN s i 4 = nI (ro s i) ∧ ro s i < 6 := by
  obtain ⟨r, h6, e⟩ := (h.2.2.2.2.2 i hi).2.1
  unfold ro; rw [e, nI_clamp (by omega)]; exact ⟨rfl, h6⟩
theorem co_e {u : Nat} {s : Nat → Int32} (h : VS u s) {i : Nat} (hi : i < u) : rN s i 5 = nI (co s i) ∧ co s i < 3 := by
  obtain ⟨r, h6, e⟩ := (h.2.2.2.2.2 i hi).2.2.1
  unfold co; rw [e, nI_clamp (by omega)]; exact ⟨rfl, h6⟩
def acX (x : XW) (u i d : Nat) : Bool × XW :=
  let x1 := uM1 x (lgS (mS x.2.1) i (nI d))
  let s1 := mS x1.2.1
  if rN (mS x.2.1) i 3 = 0 ∨ s1 (ro (mS x.2.1) i) = 0 then (true, x1)
  else if rN (mS x.2.1) i 3 = 3 then (decide (bgC s1 u (mF x.2.1 12) 2 (ro (mS x.2.1) i) 0 0 (nI (d + 1)) = 0), bgX x1 u 2 (ro (mS x.2.1) i) 0 0 (d + 1))
  else if inR (s1 (6 + 3 * ro (mS x.2.1) i + co (mS x.2.1) i) + rN (mS x.2.1) i 6) 0 999 = false then (false, uM7 x1 (upd (mF x1.2.1) 13 2))
  else if s1 (6 + 3 * ro (mS x.2.1) i + co (mS x.2.1) i) + rN (mS x.2.1) i 6 = s1 (6 + 3 * ro (mS x.2.1) i + co (mS x.2.1) i) then (true, x1)
  else (decide (bgC s1 u (mF x.2.1 12) 1 (ro (mS x.2.1) i) (co (mS x.2.1) i) (s1 (6 + 3 * ro (mS x.2.1) i + co (mS x.2.1) i) + rN (mS x.2.1) i 6) (nI (d + 1)) = 0), bgX x1 u 1 (ro (mS x.2.1) i) (co (mS x.2.1) i) (s1 (6 + 3 * ro (mS x.2.1) i + co (mS x.2.1) i) + rN (mS x.2.1) i 6) (d + 1))
set_option maxRecDepth 100000 in
set_option maxHeartbeats 4000000 in
theorem ct_X8_acts (x : XW) (u i d : Nat) (hv : VS u (mS x.2.1)) (hi : i < u) (hd : mF x.2.1 10 = nI d) (h5 : d ≤ 5) : CT MX8_acts 3 0 [.ref 171, .int (nI i)] (hp x) (Det (.inl (some (.int (bI (acX x u i d).1)))) (hp (acX x u i d).2)) := by
  refine ct_of (by decide +kernel) (by decide) rfl (k := 4) (ls := [some (.ref 171), some (.int (nI i)), none, none, none, none]) rfl (Nat.le_of_ble_eq_true rfl) ?_
  have hu8 : u ≤ 8 := hv.1
  obtain ⟨er, hr⟩ := ro_e hv hi
  obtain ⟨ec, hc⟩ := co_e hv hi
  have hv1 : VS u (lgS (mS x.2.1) i (nI d)) := lgS_VS hv (nI d) hi
  have e3 : lgS (mS x.2.1) i (nI d) (26 + 9 * i + 5) = rN (mS x.2.1) i 5 := lgS_nt _ _ _ (by omega) (by omega)
  have e6 : lgS (mS x.2.1) i (nI d) (26 + 9 * i + 6) = rN (mS x.2.1) i 6 := lgS_nt _ _ _ (by omega) (by omega)
  have elg := (ct_X8_logs x u i hv hi)
  rw [hd] at elg
  refine pw_aload_n (tk tkX8_acts 0 rfl) rfl ?_
  refine pw_iload_n (tk tkX8_acts 1 rfl) rfl ?_
  refine pw_iconst (v := 3) (tk tkX8_acts 2 rfl) (by decide) ?_
  refine pw_cV (ct_X8_at x i 3 (by omega)) okX8_at (tk tkX8_acts 3 rfl) mkX8_45 imX8_at seX8_at (hp_ot _ 11) rfl rfl rfl (by decide) (by decide) (Nat.le_of_ble_eq_true rfl) ?_
  refine pw_ist2 (tk tkX8_acts 4 rfl) rfl (by decide) ?_
  refine pw_aload_n (tk tkX8_acts 5 rfl) rfl ?_
  refine pw_iload_n (tk tkX8_acts 6 rfl) rfl ?_
  refine pw_iconst (v := 4) (tk tkX8_acts 7 rfl) (by decide) ?_
  refine pw_cV (ct_X8_at x i 4 (by omega)) okX8_at (tk tkX8_acts 8 rfl) mkX8_45 imX8_at seX8_at (hp_ot _ 11) rfl rfl rfl (by decide) (by decide) (Nat.le_of_ble_eq_true rfl) ?_
  rw [show mS x.2.1 (26 + 9 * i + 4) = nI (ro (mS x.2.1) i) from er]
  refine pw_ist3 (tk tkX8_acts 9 rfl) rfl (by decide) ?_
  refine pw_aload_n (tk tkX8_acts 10 rfl) rfl ?_
  refine pw_iload_n (tk tkX8_acts 11 rfl) rfl ?_
  refine pw_cV0 elg okX8_logs (tk tkX8_acts 12 rfl) mkX8_68 imX8_logs seX8_logs (hp_ot _ 11) rfl rfl rfl (by decide) (by decide) (Nat.le_of_ble_eq_true rfl) ?_
  refine pw_iload_n (tk tkX8_acts 13 rfl) rfl ?_
  refine pw_if_eq (tgt := 34) (tk tkX8_acts 14 rfl) (by decide) (fun c20 => ?_) (fun c20 => ?_)
  · have e : acX x u i d = (true, (uM1 x (lgS (mS x.2.1) i (nI d)))) := (if_pos (.inl c20))
    rw [e]
    refine pw_iconst (v := 1) (tk tkX8_acts 22 rfl) (by decide) ?_
    exact pw_ireturn (tk tkX8_acts 23 rfl) rfl (by decide) (by first | rfl | exact nar_bI _) ⟨rfl, rfl⟩
  · refine pw_aload_n (tk tkX8_acts 15 rfl) rfl ?_
    refine g8_s (tk tkX8_acts 16 rfl) fkX8_7 ?_
    refine pw_iconst (v := 0) (tk tkX8_acts 17 rfl) (by decide) ?_
    refine pw_iload_n (tk tkX8_acts 18 rfl) rfl ?_
    refine pw_iadd (tk tkX8_acts 19 rfl) ?_
    refine al_s_e (e := ro (mS x.2.1) i) (tk tkX8_acts 20 rfl) (Int32.zero_add _) (by first | decide | omega) ?_
    refine pw_if_ne (tgt := 36) (tk tkX8_acts 21 rfl) (by decide) (fun c31 => ?_) (fun c31 => ?_)
    · refine pw_iload_n (tk tkX8_acts 24 rfl) rfl ?_
      refine pw_iconst (v := 3) (tk tkX8_acts 25 rfl) (by decide) ?_
      refine pw_icmp_ne (tgt := 56) (tk tkX8_acts 26 rfl) (by decide) (fun c38 => ?_) (fun c38 => ?_)
      · refine pw_aload_n (tk tkX8_acts 38 rfl) rfl ?_
        refine pw_iload_n (tk tkX8_acts 39 rfl) rfl ?_
        refine pw_iconst (v := 5) (tk tkX8_acts 40 rfl) (by decide) ?_
        refine pw_cV (ct_X8_at (uM1 x (lgS (mS x.2.1) i (nI d))) i 5 (by omega)) okX8_at (tk tkX8_acts 41 rfl) mkX8_45 imX8_at seX8_at (hp_ot _ 11) rfl rfl rfl (by decide) (by decide) (Nat.le_of_ble_eq_true rfl) ?_
        rw [show mS (uM1 x (lgS (mS x.2.1) i (nI d))).2.1 (26 + 9 * i + 5) = nI (co (mS x.2.1) i) from e3.trans ec]
        refine pw_ist4 (tk tkX8_acts 42 rfl) rfl (by decide) ?_
        refine pw_aload_n (tk tkX8_acts 43 rfl) rfl ?_
        refine g8_s (tk tkX8_acts 44 rfl) fkX8_7 ?_
        refine pw_iload_n (tk tkX8_acts 45 rfl) rfl ?_
        refine pw_iload (tk tkX8_acts 46 rfl) rfl ?_
        refine pw_cS (ct_X8_of _ (ro (mS x.2.1) i) (co (mS x.2.1) i)) okX8_of (tk tkX8_acts 47 rfl) mkX8_49 stX8_of rfl rfl (by decide) (by decide) (Nat.le_of_ble_eq_true rfl) ?_
        refine al_s_e (e := 6 + 3 * ro (mS x.2.1) i + co (mS x.2.1) i) (tk tkX8_acts 48 rfl) (by first | rfl | simp only [lit_nI, nI_add, pk_mul]) (by first | decide | omega) ?_
        refine pw_aload_n (tk tkX8_acts 49 rfl) rfl ?_
        refine pw_iload_n (tk tkX8_acts 50 rfl) rfl ?_
        refine pw_bipush (v := 6) (tk tkX8_acts 51 rfl) (by decide) ?_
        refine pw_cV (ct_X8_at (uM1 x (lgS (mS x.2.1) i (nI d))) i 6 (by omega)) okX8_at (tk tkX8_acts 52 rfl) mkX8_45 imX8_at seX8_at (hp_ot _ 11) rfl rfl rfl (by decide) (by decide) (Nat.le_of_ble_eq_true rfl) ?_
        rw [show mS (uM1 x (lgS (mS x.2.1) i (nI d))).2.1 (26 + 9 * i + 6) = rN (mS x.2.1) i 6 from e6]
        refine pw_iadd (tk tkX8_acts 53 rfl) ?_
        refine pw_ist5 (tk tkX8_acts 54 rfl) rfl (by decide) ?_
        refine pw_iload (tk tkX8_acts 55 rfl) rfl ?_
        refine pw_cS (ct_X8_isValue _ _) okX8_isValue (tk tkX8_acts 56 rfl) mkX8_76 stX8_isValue rfl rfl (by decide) (by decide) (Nat.le_of_ble_eq_true rfl) ?_
        refine pw_ifnb (tgt := 100) (tk tkX8_acts 57 rfl) (by decide) (fun c90 => ?_) (fun c90 => ?_)
        · refine pw_iload (tk tkX8_acts 63 rfl) rfl ?_
          refine pw_aload_n (tk tkX8_acts 64 rfl) rfl ?_
          refine g8_s (tk tkX8_acts 65 rfl) fkX8_7 ?_
          refine pw_iload_n (tk tkX8_acts 66 rfl) rfl ?_
          refine pw_iload (tk tkX8_acts 67 rfl) rfl ?_
          refine pw_cS (ct_X8_of _ (ro (mS x.2.1) i) (co (mS x.2.1) i)) okX8_of (tk tkX8_acts 68 rfl) mkX8_49 stX8_of rfl rfl (by decide) (by decide) (Nat.le_of_ble_eq_true rfl) ?_
          refine al_s_e (e := 6 + 3 * ro (mS x.2.1) i + co (mS x.2.1) i) (tk tkX8_acts 69 rfl) (by first | rfl | simp only [lit_nI, nI_add, pk_mul]) (by first | decide | omega) ?_
          refine pw_icmp_eq (tgt := 135) (tk tkX8_acts 70 rfl) (by decide) (fun c113 => ?_) (fun c113 => ?_)
          · have e : acX x u i d = (true, (uM1 x (lgS (mS x.2.1) i (nI d)))) := (if_neg (fun q => q.elim c20 c31)).trans ((if_neg c38).trans ((if_neg (fun q => Bool.noConfusion (c90.symm.trans q))).trans ((if_pos c113))))
            rw [e]
            refine pw_iconst (v := 1) (tk tkX8_acts 82 rfl) (by decide) ?_
            refine pw_goto (tgt := 140) (tk tkX8_acts 83 rfl) (by decide) ?_
            exact pw_ireturn (tk tkX8_acts 85 rfl) rfl (by decide) (by first | rfl | exact nar_bI _) ⟨rfl, rfl⟩
          · refine pw_aload_n (tk tkX8_acts 71 rfl) rfl ?_
            refine pw_iconst (v := 1) (tk tkX8_acts 72 rfl) (by decide) ?_
            refine pw_iload_n (tk tkX8_acts 73 rfl) rfl ?_
            refine pw_iload (tk tkX8_acts 74 rfl) rfl ?_
            refine pw_iload (tk tkX8_acts 75 rfl) rfl ?_
            refine pw_aload_n (tk tkX8_acts 76 rfl) rfl ?_
            refine g8_depth (tk tkX8_acts 77 rfl) fkX8_62 ?_
            refine pw_iconst (v := 1) (tk tkX8_acts 78 rfl) (by decide) ?_
            refine pw_iadd (tk tkX8_acts 79 rfl) ?_
            rw [show mF (uM1 x (lgS (mS x.2.1) i (nI d))).2.1 10 = nI d from hd, nI_1]
            refine pw_cV (ct_X8_begins (uM1 x (lgS (mS x.2.1) i (nI d))) u hv1 1 (ro (mS x.2.1) i) (co (mS x.2.1) i) (lgS (mS x.2.1) i (nI d) (6 + 3 * ro (mS x.2.1) i + co (mS x.2.1) i) + rN (mS x.2.1) i 6) (d + 1) hr hc (by omega)) okX8_begins (tk tkX8_acts 80 rfl) mkX8_72 imX8_begins seX8_begins (hp_ot _ 11) rfl rfl rfl (by decide) (by decide) (Nat.le_of_ble_eq_true rfl) ?_
            refine pw_ifb (tgt := 139) (tk tkX8_acts 81 rfl) (by decide) (fun c132 => ?_) (fun c132 => ?_)
            · have e : acX x u i d = (decide (bgC (lgS (mS x.2.1) i (nI d)) u (mF x.2.1 12) 1 (ro (mS x.2.1) i) (co (mS x.2.1) i) (lgS (mS x.2.1) i (nI d) (6 + 3 * ro (mS x.2.1) i + co (mS x.2.1) i) + rN (mS x.2.1) i 6) (nI (d + 1)) = 0), bgX (uM1 x (lgS (mS x.2.1) i (nI d))) u 1 (ro (mS x.2.1) i) (co (mS x.2.1) i) (lgS (mS x.2.1) i (nI d) (6 + 3 * ro (mS x.2.1) i + co (mS x.2.1) i) + rN (mS x.2.1) i 6) (d + 1)) := (if_neg (fun q => q.elim c20 c31)).trans ((if_neg c38).trans ((if_neg (fun q => Bool.noConfusion (c90.symm.trans q))).trans ((if_neg c113))))
              rw [e]
              refine pw_iconst (v := 0) (tk tkX8_acts 84 rfl) (by decide) ?_
              exact pw_ireturn (tk tkX8_acts 85 rfl) rfl (by decide) (by first | rfl | exact nar_bI _) ⟨by dsimp only; exact congrArg (fun b => Sum.inl (some (Value.int (bI b)))) c132.symm, rfl⟩
            · have e : acX x u i d = (decide (bgC (lgS (mS x.2.1) i (nI d)) u (mF x.2.1 12) 1 (ro (mS x.2.1) i) (co (mS x.2.1) i) (lgS (mS x.2.1) i (nI d) (6 + 3 * ro (mS x.2.1) i + co (mS x.2.1) i) + rN (mS x.2.1) i 6) (nI (d + 1)) = 0), bgX (uM1 x (lgS (mS x.2.1) i (nI d))) u 1 (ro (mS x.2.1) i) (co (mS x.2.1) i) (lgS (mS x.2.1) i (nI d) (6 + 3 * ro (mS x.2.1) i + co (mS x.2.1) i) + rN (mS x.2.1) i 6) (d + 1)) := (if_neg (fun q => q.elim c20 c31)).trans ((if_neg c38).trans ((if_neg (fun q => Bool.noConfusion (c90.symm.trans q))).trans ((if_neg c113))))
              rw [e]
              refine pw_iconst (v := 1) (tk tkX8_acts 82 rfl) (by decide) ?_
              refine pw_goto (tgt := 140) (tk tkX8_acts 83 rfl) (by decide) ?_
              exact pw_ireturn (tk tkX8_acts 85 rfl) rfl (by decide) (by first | rfl | exact nar_bI _) ⟨by dsimp only; exact congrArg (fun b => Sum.inl (some (Value.int (bI b)))) c132.symm, rfl⟩
        · refine pw_aload_n (tk tkX8_acts 58 rfl) rfl ?_
          refine pw_iconst (v := 2) (tk tkX8_acts 59 rfl) (by decide) ?_
          refine p8_refused (tk tkX8_acts 60 rfl) fkX8_59 ?_
          refine pw_iconst (v := 0) (tk tkX8_acts 61 rfl) (by decide) ?_
          refine pw_ireturn (tk tkX8_acts 62 rfl) rfl (by decide) (by first | rfl | exact nar_bI _) ?_
          have e : acX x u i d = (false, uM7 (uM1 x (lgS (mS x.2.1) i (nI d))) (upd (mF x.2.1) 13 2)) := (if_neg (fun q => q.elim c20 c31)).trans ((if_neg c38).trans ((if_pos c90)))
          rw [e]
          exact ⟨rfl, rfl⟩
      · refine pw_aload_n (tk tkX8_acts 27 rfl) rfl ?_
        refine pw_iconst (v := 2) (tk tkX8_acts 28 rfl) (by decide) ?_
        refine pw_iload_n (tk tkX8_acts 29 rfl) rfl ?_
        refine pw_iconst (v := 0) (tk tkX8_acts 30 rfl) (by decide) ?_
        refine pw_iconst (v := 0) (tk tkX8_acts 31 rfl) (by decide) ?_
        refine pw_aload_n (tk tkX8_acts 32 rfl) rfl ?_
        refine g8_depth (tk tkX8_acts 33 rfl) fkX8_62 ?_
        refine pw_iconst (v := 1) (tk tkX8_acts 34 rfl) (by decide) ?_
        refine pw_iadd (tk tkX8_acts 35 rfl) ?_
        rw [show mF (uM1 x (lgS (mS x.2.1) i (nI d))).2.1 10 = nI d from hd, nI_1]
        refine pw_cV (ct_X8_begins (uM1 x (lgS (mS x.2.1) i (nI d))) u hv1 2 (ro (mS x.2.1) i) 0 0 (d + 1) hr (by decide) (by omega)) okX8_begins (tk tkX8_acts 36 rfl) mkX8_72 imX8_begins seX8_begins (hp_ot _ 11) rfl rfl rfl (by decide) (by decide) (Nat.le_of_ble_eq_true rfl) ?_
        refine pw_ireturn (tk tkX8_acts 37 rfl) rfl (by decide) (nar_bI _) ?_
        have e : acX x u i d = (decide (bgC (lgS (mS x.2.1) i (nI d)) u (mF x.2.1 12) 2 (ro (mS x.2.1) i) 0 0 (nI (d + 1)) = 0), bgX (uM1 x (lgS (mS x.2.1) i (nI d))) u 2 (ro (mS x.2.1) i) 0 0 (d + 1)) := (if_neg (fun q => q.elim c20 c31)).trans ((if_pos c38))
        rw [e]
        exact ⟨rfl, rfl⟩
    · have e : acX x u i d = (true, (uM1 x (lgS (mS x.2.1) i (nI d)))) := (if_pos (.inr c31))
      rw [e]
      refine pw_iconst (v := 1) (tk tkX8_acts 22 rfl) (by decide) ?_
      exact pw_ireturn (tk tkX8_acts 23 rfl) rfl (by decide) (by first | rfl | exact nar_bI _) ⟨rfl, rfl⟩
end
section
theorem mkM_cg {p q : Nat → Bool} : ∀ (u : Nat), (∀ j, j < u → p j = q j) → mkM p u = mkM q u
  | 0, _ => rfl
  | u + 1, h => by
    show mkM p u ||| _ = mkM q u ||| _
    rw [mkM_cg u (fun j hj => h j (by omega)), h u (by omega)]
theorem mkM_up {q : Nat → Bool} (u : Nat) : ∀ (k : Nat), (∀ j, u ≤ j → q j = false) → mkM q (u + k) = mkM q u
  | 0, _ => rfl
  | k + 1, h => by
    show mkM q (u + k) ||| (if q (u + k) = true then _ else 0) = _
    rw [h (u + k) (by omega), if_neg (by decide), mkM_up u k h]
    exact Int32.or_zero
theorem mkM_8 (q : Nat → Bool) {u : Nat} (hu : u ≤ 8) : mkM q u = mkM (fun j => q j && decide (j < u)) 8 := by
  have e := mkM_up (q := fun j => q j && decide (j < u)) u (8 - u) (fun j hj => by rw [decide_eq_false (by omega), Bool.and_false])
  rw [show u + (8 - u) = 8 by omega] at e
  rw [e]
  exact mkM_cg u (fun j hj => by rw [decide_eq_true hj, Bool.and_true])
def b8 (a b c d e f g h : Bool) : Nat → Bool
  | 0 => a
  | 1 => b
  | 2 => c
  | 3 => d
  | 4 => e
  | 5 => f
  | 6 => g
  | 7 => h
  | _ => false
theorem mk_b8 (q : Nat → Bool) : mkM q 8 = mkM (b8 (q 0) (q 1) (q 2) (q 3) (q 4) (q 5) (q 6) (q 7)) 8 := rfl
theorem b8_bit : ∀ (a b c d e f g h : Bool) (r : Fin 8), (mkM (b8 a b c d e f g h) 8 >>> (nI r.val &&& 31)) &&& 1 = bI (b8 a b c d e f g h r.val) := by decide +kernel
theorem b8_and : ∀ (a b c d e f g h : Bool) (r : Fin 8), mkM (b8 a b c d e f g h) 8 &&& ((1 : Int32) <<< (nI r.val &&& 31)) = if b8 a b c d e f g h r.val = true then (1 : Int32) <<< (nI r.val &&& 31) else 0 := by decide +kernel
theorem b8_clr : ∀ (a b c d e f g h : Bool) (r : Fin 8), mkM (b8 a b c d e f g h) 8 &&& (((1 : Int32) <<< (nI r.val &&& 31)) ^^^ (-1)) = mkM (fun j => b8 a b c d e f g h j && decide (j ≠ r.val)) 8 := by decide +kernel
theorem b8_ne : ∀ (a b c d e f g h : Bool) (r : Fin 8), b8 a b c d e f g h r.val = true → ¬ mkM (b8 a b c d e f g h) 8 = 0 := by decide +kernel
theorem b8_at (q : Nat → Bool) {r : Nat} (hr : r < 8) : b8 (q 0) (q 1) (q 2) (q 3) (q 4) (q 5) (q 6) (q 7) r = q r := by
  match r, hr with
  | 0, _ => rfl
  | 1, _ => rfl
  | 2, _ => rfl
  | 3, _ => rfl
  | 4, _ => rfl
  | 5, _ => rfl
  | 6, _ => rfl
  | 7, _ => rfl
  | r + 8, h => exact absurd h (by omega)
theorem mk_bit (q : Nat → Bool) {u r : Nat} (hu : u ≤ 8) (hr : r < u) : (mkM q u >>> (nI r &&& 31)) &&& 1 = bI (q r) := by
  rw [mkM_8 q hu, mk_b8]
  refine (b8_bit _ _ _ _ _ _ _ _ ⟨r, by omega⟩).trans ?_
  rw [b8_at (fun j => q j && decide (j < u)) (by omega)]
  dsimp only
  rw [decide_eq_true hr, Bool.and_true]
theorem sh_ne : ∀ (r : Fin 8), ¬ (1 : Int32) <<< (nI r.val &&& 31) = 0 := by decide +kernel
theorem mk_and (q : Nat → Bool) {u r : Nat} (hu : u ≤ 8) (hr : r < u) : mkM q u &&& ((1 : Int32) <<< (nI r &&& 31)) = if q r = true then (1 : Int32) <<< (nI r &&& 31) else 0 := by
  rw [mkM_8 q hu, mk_b8]
  refine (b8_and _ _ _ _ _ _ _ _ ⟨r, by omega⟩).trans ?_
  rw [b8_at (fun j => q j && decide (j < u)) (by omega)]
  dsimp only
  rw [decide_eq_true hr, Bool.and_true]
theorem mk_and0 (q : Nat → Bool) {u r : Nat} (hu : u ≤ 8) (hr : r < u) : mkM q u &&& ((1 : Int32) <<< (nI r &&& 31)) = 0 ↔ q r = false := by
  rw [mk_and q hu hr]
  by_cases h : q r = true
  · rw [if_pos h]; exact ⟨fun e => absurd e (sh_ne ⟨r, by omega⟩), fun e => by rw [h] at e; cases e⟩
  · rw [if_neg h]; exact ⟨fun _ => by cases e : q r <;> first | rfl | exact absurd e h, fun _ => rfl⟩
theorem mk_clr (q : Nat → Bool) {u r : Nat} (hu : u ≤ 8) (hr : r < u) : mkM q u &&& (((1 : Int32) <<< (nI r &&& 31)) ^^^ (-1)) = mkM (fun j => q j && decide (j ≠ r)) u := by
  rw [mkM_8 q hu, mk_b8]
  refine (b8_clr _ _ _ _ _ _ _ _ ⟨r, by omega⟩).trans ?_
  rw [mkM_8 (fun j => q j && decide (j ≠ r)) hu]
  refine mkM_cg 8 (fun j hj => ?_)
  rw [b8_at (fun j => q j && decide (j < u)) hj]
  dsimp only
  cases q j <;> cases decide (j < u) <;> cases decide (j ≠ r) <;> rfl
theorem mk_ne (q : Nat → Bool) {u r : Nat} (hu : u ≤ 8) (hr : r < u) (h : q r = true) : ¬ mkM q u = 0 := by
  rw [mkM_8 q hu, mk_b8]
  refine b8_ne _ _ _ _ _ _ _ _ ⟨r, by omega⟩ ?_
  rw [b8_at (fun j => q j && decide (j < u)) (by omega)]
  dsimp only
  rw [decide_eq_true hr, Bool.and_true, h]
theorem mk_0 (q : Nat → Bool) : ∀ (u : Nat), (∀ j, j < u → q j = false) → mkM q u = 0
  | 0, _ => rfl
  | u + 1, h => by
    show mkM q u ||| (if q u = true then _ else 0) = 0
    rw [mk_0 q u (fun j hj => h j (by omega)), h u (by omega), if_neg (by decide)]
    exact Int32.or_zero
def pge (p : Nat → Bool) (i : Nat) : Nat → Bool := fun j => p j && decide (i ≤ j)
theorem pge_0 (p : Nat → Bool) (u : Nat) : mkM p u = mkM (pge p 0) u := mkM_cg u (fun j _ => by unfold pge; rw [decide_eq_true (by omega), Bool.and_true])
theorem pge_u (p : Nat → Bool) (u : Nat) : mkM (pge p u) u = 0 := mk_0 _ u (fun j hj => by unfold pge; rw [decide_eq_false (by omega), Bool.and_false])
theorem pge_f (p : Nat → Bool) (i u : Nat) (h : p i = false) : mkM (pge p i) u = mkM (pge p (i + 1)) u := mkM_cg u (fun j _ => by
  unfold pge
  by_cases e : j = i
  · rw [e, h]; rfl
  · rw [show decide (i ≤ j) = decide (i + 1 ≤ j) from by by_cases q : i ≤ j <;> simp [q] <;> omega])
theorem pge_t (p : Nat → Bool) {i u : Nat} (hu : u ≤ 8) (hi : i < u) : mkM (pge p i) u &&& (((1 : Int32) <<< (nI i &&& 31)) ^^^ (-1)) = mkM (pge p (i + 1)) u := by
  rw [mk_clr _ hu hi]
  refine mkM_cg u (fun j _ => ?_)
  unfold pge
  rw [Bool.and_assoc]
  refine congrArg (fun b => p j && b) ?_
  by_cases q : i ≤ j <;> by_cases w : j = i <;> simp [q, w] <;> omega
/-- a statement under way: the numbers, happened, deepest, refused -/
abbrev TT : Type := (Nat → Int32) × Int32 × Int32 × Int32
abbrev tX (x : XW) : TT := (mS x.2.1, mF x.2.1 12, mF x.2.1 11, mF x.2.1 13)
def bgT (u : Nat) (t : TT) (ev : Int32) (r c : Nat) (v : Int32) (its : Nat) : TT :=
  if bgC t.1 u t.2.1 ev r c v (nI its) = 0 then (alt t.1 ev r c v, t.2.1 + 1, mx (nI its) t.2.2.1, 0) else (t.1, t.2.1, t.2.2.1, bgC t.1 u t.2.1 ev r c v (nI its))
def lpT (F : Nat → TT → TT) (p : Nat → Bool) : Nat → Nat → TT → TT
  | 0, _, t => t
  | k + 1, i, t => lpT F p k (i + 1) (if p i = true ∧ t.2.2.2 = 0 then F i t else t)
def acT (H : TT → Int32 → Nat → Nat → Int32 → Nat → TT) (d i : Nat) (t : TT) : TT :=
  if rN t.1 i 3 = 0 ∨ lgS t.1 i (nI d) (ro t.1 i) = 0 then (lgS t.1 i (nI d), t.2)
  else if rN t.1 i 3 = 3 then H (lgS t.1 i (nI d), t.2) 2 (ro t.1 i) 0 0 (d + 1)
  else if inR (lgS t.1 i (nI d) (6 + 3 * ro t.1 i + co t.1 i) + rN t.1 i 6) 0 999 = false then (lgS t.1 i (nI d), t.2.1, t.2.2.1, 2)
  else if lgS t.1 i (nI d) (6 + 3 * ro t.1 i + co t.1 i) + rN t.1 i 6 = lgS t.1 i (nI d) (6 + 3 * ro t.1 i + co t.1 i) then (lgS t.1 i (nI d), t.2)
  else H (lgS t.1 i (nI d), t.2) 1 (ro t.1 i) (co t.1 i) (lgS t.1 i (nI d) (6 + 3 * ro t.1 i + co t.1 i) + rN t.1 i 6) (d + 1)
def hapT (u : Nat) : Nat → TT → Int32 → Nat → Nat → Int32 → Nat → TT
  | 0, t, ev, r, c, v, its => bgT u t ev r c v its
  | f + 1, t, ev, r, c, v, its => if bgC t.1 u t.2.1 ev r c v (nI its) = 0 then lpT (acT (hapT u f) its) (mtC t.1 ev r (nI c) v false) u 0 (bgT u t ev r c v its) else bgT u t ev r c v its
theorem lpT_stop (F : Nat → TT → TT) (p : Nat → Bool) : ∀ (k i : Nat) (t : TT), ¬ t.2.2.2 = 0 → lpT F p k i t = t
  | 0, _, _, _ => rfl
  | k + 1, i, t, h => by
    show lpT F p k (i + 1) (if _ then _ else _) = _
    rw [if_neg (fun q => h q.2), lpT_stop F p k (i + 1) t h]
theorem hapT_bad (u f : Nat) (t : TT) (ev : Int32) (r c : Nat) (v : Int32) (its : Nat) (h : ¬ bgC t.1 u t.2.1 ev r c v (nI its) = 0) : hapT u f t ev r c v its = bgT u t ev r c v its := by
  cases f with
  | zero => rfl
  | succ f => exact if_neg h
theorem tX_bg (x : XW) (u : Nat) (ev : Int32) (r c : Nat) (v : Int32) (its : Nat) : tX (bgX x u ev r c v its) = bgT u (tX x) ev r c v its := by
  unfold bgX bgT
  by_cases h : bgC (mS x.2.1) u (mF x.2.1 12) ev r c v (nI its) = 0
  · rw [if_pos h, if_pos h]; rfl
  · rw [if_neg h, if_neg h]; rfl
/-- what acts does, in three kinds -/
theorem acX_cs (x : XW) {u i : Nat} (d : Nat) (hv : VS u (mS x.2.1)) (hi : i < u) :
    (∃ b x2, acX x u i d = (b, x2) ∧ (b = decide (mF x2.2.1 13 = mF x.2.1 13) ∨ mF x2.2.1 13 = 2) ∧ (b = true → x2 = uM1 x (lgS (mS x.2.1) i (nI d))) ∧ (b = false → x2 = uM7 (uM1 x (lgS (mS x.2.1) i (nI d))) (upd (mF x.2.1) 13 2)) ∧ ∀ H, acT H d i (tX x) = tX x2) ∨
    (∃ ev r c v, r < 6 ∧ c < 3 ∧ acX x u i d = (decide (bgC (lgS (mS x.2.1) i (nI d)) u (mF x.2.1 12) ev r c v (nI (d + 1)) = 0), bgX (uM1 x (lgS (mS x.2.1) i (nI d))) u ev r c v (d + 1)) ∧ ∀ H, acT H d i (tX x) = H (lgS (mS x.2.1) i (nI d), (tX x).2) ev r c v (d + 1)) := by
  obtain ⟨er, hr⟩ := ro_e hv hi
  obtain ⟨ec, hc⟩ := co_e hv hi
  unfold acX acT
  dsimp only
  by_cases h1 : rN (mS x.2.1) i 3 = 0 ∨ lgS (mS x.2.1) i (nI d) (ro (mS x.2.1) i) = 0
  · refine .inl ⟨true, uM1 x (lgS (mS x.2.1) i (nI d)), if_pos h1, .inl ?_, fun _ => rfl, fun h => (by cases h), fun H => if_pos h1⟩
    exact (decide_eq_true rfl).symm
  · by_cases h2 : rN (mS x.2.1) i 3 = 3
    · exact .inr ⟨2, _, 0, 0, hr, by decide, (if_neg h1).trans (if_pos h2), fun H => (if_neg h1).trans (if_pos h2)⟩
    · by_cases h3 : inR (lgS (mS x.2.1) i (nI d) (6 + 3 * ro (mS x.2.1) i + co (mS x.2.1) i) + rN (mS x.2.1) i 6) 0 999 = false
      · exact .inl ⟨false, _, (if_neg h1).trans ((if_neg h2).trans (if_pos h3)), .inr rfl, fun h => (by cases h), fun _ => rfl, fun H => (if_neg h1).trans ((if_neg h2).trans (if_pos h3))⟩
      · by_cases h4 : lgS (mS x.2.1) i (nI d) (6 + 3 * ro (mS x.2.1) i + co (mS x.2.1) i) + rN (mS x.2.1) i 6 = lgS (mS x.2.1) i (nI d) (6 + 3 * ro (mS x.2.1) i + co (mS x.2.1) i)
        · refine .inl ⟨true, uM1 x (lgS (mS x.2.1) i (nI d)), (if_neg h1).trans ((if_neg h2).trans ((if_neg h3).trans (if_pos h4))), .inl ?_, fun _ => rfl, fun h => (by cases h), fun H => (if_neg h1).trans ((if_neg h2).trans ((if_neg h3).trans (if_pos h4)))⟩
          exact (decide_eq_true rfl).symm
        · exact .inr ⟨1, _, _, _, hr, hc, (if_neg h1).trans ((if_neg h2).trans ((if_neg h3).trans (if_neg h4))), fun H => (if_neg h1).trans ((if_neg h2).trans ((if_neg h3).trans (if_neg h4)))⟩
/-- what stays of T through a run -/
def KV (u : Nat) (s : Nat → Int32) (t : TT) : Prop := VS u t.1 ∧ SR s t.1
theorem bgT_KV {u : Nat} {s : Nat → Int32} {t : TT} (h : KV u s t) (ev : Int32) {r c : Nat} (v : Int32) (its : Nat) (hr : r < 6) (hc : c < 3) : KV u s (bgT u t ev r c v its) := by
  unfold bgT
  by_cases e : bgC t.1 u t.2.1 ev r c v (nI its) = 0
  · rw [if_pos e]; exact ⟨alt_VS h.1 ev v hr hc, h.2.tr (fun j a _ _ => alt_nt _ ev v hr hc a)⟩
  · rw [if_neg e]; exact h
theorem lpT_KV {u : Nat} {s : Nat → Int32} {F : Nat → TT → TT} (hF : ∀ i t, i < u → KV u s t → KV u s (F i t)) (p : Nat → Bool) : ∀ (k i : Nat) (t : TT), i + k = u → KV u s t → KV u s (lpT F p k i t)
  | 0, _, _, _, h => h
  | k + 1, i, t, e, h => by
    refine lpT_KV hF p k (i + 1) _ (by omega) ?_
    by_cases q : p i = true ∧ t.2.2.2 = 0
    · rw [if_pos q]; exact hF i t (by omega) h
    · rw [if_neg q]; exact h
theorem acT_KV {u : Nat} {s : Nat → Int32} {H : TT → Int32 → Nat → Nat → Int32 → Nat → TT} (hH : ∀ t ev r c v d, r < 6 → c < 3 → KV u s t → KV u s (H t ev r c v d)) (d : Nat) (i : Nat) (t : TT) (hi : i < u) (h : KV u s t) : KV u s (acT H d i t) := by
  obtain ⟨er, hr⟩ := ro_e h.1 hi
  obtain ⟨ec, hc⟩ := co_e h.1 hi
  have h1 : ∀ w, KV u s (lgS t.1 i (nI d), w) := fun w => ⟨lgS_VS h.1 _ hi, h.2.tr (lgS_SR _ _ _)⟩
  unfold acT
  split
  · exact h1 _
  · split
    · exact hH _ _ _ _ _ _ hr (by decide) (h1 _)
    · split
      · exact h1 _
      · split
        · exact h1 _
        · exact hH _ _ _ _ _ _ hr hc (h1 _)
theorem hapT_KV (u : Nat) (s : Nat → Int32) : ∀ (f : Nat) (t : TT) (ev : Int32) (r c : Nat) (v : Int32) (d : Nat), r < 6 → c < 3 → KV u s t → KV u s (hapT u f t ev r c v d)
  | 0, t, ev, r, c, v, d, hr, hc, h => bgT_KV h ev v d hr hc
  | f + 1, t, ev, r, c, v, d, hr, hc, h => by
    show KV u s (if _ then _ else _)
    split
    · exact lpT_KV (fun i t hi ht => acT_KV (fun t ev r c v d => hapT_KV u s f t ev r c v d) d i t hi ht) _ u 0 _ (by omega) (bgT_KV h ev v d hr hc)
    · exact bgT_KV h ev v d hr hc
/-- all but the statement's own numbers, and the waiting ones from a level on -/
def FR (j : Nat) (x y : XW) : Prop := y.1 = x.1 ∧ y.2.2 = x.2.2 ∧ mA y.2.1 = mA x.2.1 ∧ mHi y.2.1 = mHi x.2.1 ∧ mSl y.2.1 = mSl x.2.1 ∧ mTx y.2.1 = mTx x.2.1 ∧ (∀ k, k ≠ 10 → k ≠ 11 → k ≠ 12 → k ≠ 13 → mF y.2.1 k = mF x.2.1 k) ∧ ∀ k, k < j → mWa y.2.1 k = mWa x.2.1 k
theorem FR.rf (j : Nat) (x : XW) : FR j x x := ⟨rfl, rfl, rfl, rfl, rfl, rfl, fun _ _ _ _ _ => rfl, fun _ _ => rfl⟩
theorem FR.tr {j : Nat} {x y z : XW} (h : FR j x y) (g : FR j y z) : FR j x z := by
  obtain ⟨a1, a2, a3, a4, a5, a6, a7, a8⟩ := h
  obtain ⟨b1, b2, b3, b4, b5, b6, b7, b8⟩ := g
  exact ⟨b1.trans a1, b2.trans a2, b3.trans a3, b4.trans a4, b5.trans a5, b6.trans a6, fun k q w e r => (b7 k q w e r).trans (a7 k q w e r), fun k hk => (b8 k hk).trans (a8 k hk)⟩
theorem FR.lo {j i : Nat} {x y : XW} (h : FR j x y) (hi : i ≤ j) : FR i x y := by
  obtain ⟨a1, a2, a3, a4, a5, a6, a7, a8⟩ := h
  exact ⟨a1, a2, a3, a4, a5, a6, a7, fun k hk => a8 k (by omega)⟩
theorem FR.s {j : Nat} (x : XW) (f : Nat → Int32) : FR j x (uM1 x f) := ⟨rfl, rfl, rfl, rfl, rfl, rfl, fun _ _ _ _ _ => rfl, fun _ _ => rfl⟩
theorem FR.w {j : Nat} (x : XW) (i : Nat) (v : Int32) (h : j ≤ i) : FR j x (uM6 x (upd (mWa x.2.1) i v)) := ⟨rfl, rfl, rfl, rfl, rfl, rfl, fun _ _ _ _ _ => rfl, fun k hk => upd_nt _ _ (by omega)⟩
theorem FR.f {j : Nat} (x : XW) (i : Nat) (v : Int32) (h : i = 10 ∨ i = 11 ∨ i = 12 ∨ i = 13) : FR j x (uM7 x (upd (mF x.2.1) i v)) := ⟨rfl, rfl, rfl, rfl, rfl, rfl, fun k _ _ _ _ => upd_nt _ _ (by omega), fun k hk => rfl⟩
theorem FR.bg {j : Nat} (x : XW) (u : Nat) (ev : Int32) (r c : Nat) (v : Int32) (its : Nat) (h : j ≤ its) : FR j x (bgX x u ev r c v its) := by
  unfold bgX
  split
  · exact ⟨rfl, rfl, rfl, rfl, rfl, rfl, fun k a b c d => by show upd _ _ _ k = _; rw [upd_nt _ _ c, upd_nt _ _ b, upd_nt _ _ a, upd_nt _ _ d], fun k hk => upd_nt _ _ (by omega)⟩
  · exact FR.f x 13 _ (by omega)
end
section
set_option maxRecDepth 100000 in
set_option maxHeartbeats 4000000 in
theorem folS (u : Nat) (Q : Out → Hp → Prop) (f its : Nat) (hf : its + f = 5)
    (LV : ∀ (f' : Nat), f = f' + 1 → ∀ (p : Nat → Bool) (x : XW) (l1 : Option Value), VS u (mS x.2.1) → mF x.2.1 10 = nI (its + 1) → mWa x.2.1 (its + 1) = mkM (pge p 0) u → mF x.2.1 13 = 0 →
      (∀ y l1, FR (its + 1) x y → tX y = lpT (acT (hapT u f') (its + 1)) p u 0 (tX x) → mF y.2.1 13 = 0 → mF y.2.1 10 = nI (its + 1) → mWa y.2.1 (its + 1) = 0 → PW MX8_follows 4 0 0 [some (.ref 171), l1] [] (hp y) Q) →
      (∀ y, FR (its + 1) x y → tX y = lpT (acT (hapT u f') (its + 1)) p u 0 (tX x) → ¬ mF y.2.1 13 = 0 → Q (.inl (some (.int 0))) (hp y)) →
      PW MX8_follows 4 0 0 [some (.ref 171), l1] [] (hp x) Q) :
    ∀ (k i : Nat), i + k = u → ∀ (p : Nat → Bool) (x : XW) (l1 : Option Value), VS u (mS x.2.1) → mF x.2.1 10 = nI its → mWa x.2.1 its = mkM (pge p i) u → mF x.2.1 13 = 0 →
    (∀ y l1, FR its x y → tX y = lpT (acT (hapT u f) its) p k i (tX x) → mF y.2.1 13 = 0 → mF y.2.1 10 = nI its → mWa y.2.1 its = 0 → PW MX8_follows 4 0 0 [some (.ref 171), l1] [] (hp y) Q) →
    (∀ y, FR its x y → tX y = lpT (acT (hapT u f) its) p k i (tX x) → ¬ mF y.2.1 13 = 0 → Q (.inl (some (.int 0))) (hp y)) →
    PW MX8_follows 4 0 0 [some (.ref 171), l1] [] (hp x) Q := by
  intro k
  induction k with
  | zero =>
    intro i hi p x l1 hv h10 hw h13 KT KF
    have ei : i = u := by omega
    rw [ei, pge_u] at hw
    exact KT x l1 (FR.rf _ _) rfl h13 h10 hw
  | succ k ih =>
    intro i hi p x l1 hv h10 hw h13 KT KF
    have hu8 : u ≤ 8 := hv.1
    have hiu : i < u := by omega
    cases hpi : p i with
    | false =>
      have e0 : lpT (acT (hapT u f) its) p (k + 1) i (tX x) = lpT (acT (hapT u f) its) p k (i + 1) (tX x) := by
        show lpT _ p k (i + 1) (if _ then _ else _) = _
        rw [if_neg (fun q => by rw [hpi] at q; cases q.1)]
      rw [pge_f p i u hpi] at hw
      rw [e0] at KT KF
      exact ih (i + 1) (by omega) p x l1 hv h10 hw h13 KT KF
    | true =>
      have e0 : lpT (acT (hapT u f) its) p (k + 1) i (tX x) = lpT (acT (hapT u f) its) p k (i + 1) (acT (hapT u f) its i (tX x)) := by
        show lpT _ p k (i + 1) (if _ then _ else _) = _
        rw [if_pos ⟨hpi, h13⟩]
      rw [e0] at KT KF
      have hne : ¬ mkM (pge p i) u = 0 := mk_ne _ hu8 hiu (by unfold pge; rw [hpi, decide_eq_true (Nat.le_refl _)]; rfl)
      -- after the bit is found
      have J56 : PW MX8_follows 4 0 56 [some (.ref 171), some (.int (nI i))] [] (hp x) Q := by
        have hx1 : FR its x (uM6 x (upd (mWa x.2.1) its (mkM (pge p (i + 1)) u))) := FR.w x its _ (Nat.le_refl _)
        have ect := ct_X8_acts (uM6 x (upd (mWa x.2.1) its (mkM (pge p (i + 1)) u))) u i its hv hiu h10 (by omega)
        have tx1 : tX (uM6 x (upd (mWa x.2.1) its (mkM (pge p (i + 1)) u))) = tX x := rfl
        rcases acX_cs (uM6 x (upd (mWa x.2.1) its (mkM (pge p (i + 1)) u))) its hv hiu with ⟨b, x2, e, hb, hbt, hbf, hH⟩ | ⟨ev, r, cl, v, hr, hc, e, hH⟩
        · rw [e] at ect
          cases b with
          | true =>
            obtain rfl := hbt rfl
            refine pw_aload_n (tk tkX8_follows 30 rfl) rfl ?_
            refine g8_waiting (tk tkX8_follows 31 rfl) fkX8_25 ?_
            refine pw_aload_n (tk tkX8_follows 32 rfl) rfl ?_
            refine g8_depth (tk tkX8_follows 33 rfl) fkX8_62 ?_
            refine pw_dup2 (tk tkX8_follows 34 rfl) rfl rfl ?_
            refine al_waiting_e (e := its) (tk tkX8_follows 35 rfl) h10 (by first | decide | omega) ?_
            refine pw_iconst (v := 1) (tk tkX8_follows 36 rfl) (by decide) ?_
            refine pw_iload_n (tk tkX8_follows 37 rfl) rfl ?_
            refine pw_ishl (tk tkX8_follows 38 rfl) ?_
            refine pw_iconst (v := (-1)) (tk tkX8_follows 39 rfl) (by decide) ?_
            refine pw_ixor (tk tkX8_follows 40 rfl) ?_
            rw [hw]
            refine pw_iand (tk tkX8_follows 41 rfl) ?_
            rw [pge_t p hu8 hiu]
            refine as_waiting_e (e := its) (tk tkX8_follows 42 rfl) h10 (by first | decide | omega) ?_
            refine pw_aload_n (tk tkX8_follows 43 rfl) rfl ?_
            refine pw_iload_n (tk tkX8_follows 44 rfl) rfl ?_
            refine pw_cV ect okX8_acts (tk tkX8_follows 45 rfl) mkX8_80 imX8_acts seX8_acts (hp_ot _ 11) rfl rfl rfl (by decide) (by decide) (Nat.le_of_ble_eq_true rfl) ?_
            refine pw_ifnb (tgt := 83) (tk tkX8_follows 46 rfl) (by decide) (fun c78 => ?_) (fun c78 => Bool.noConfusion c78)
            refine pw_goto (tgt := 0) (tk tkX8_follows 49 rfl) (by decide) ?_
            refine ih (i + 1) (by omega) p _ _ (lgS_VS hv _ hiu) h10 (upd_at _ _ _) h13 (fun y l1 a b c d e => ?_) (fun y a b c => ?_)
            · exact KT y l1 ((hx1.tr (FR.s _ _)).tr a) (b.trans (congrArg (lpT (acT (hapT u f) its) p k (i + 1)) (hH (hapT u f)).symm)) c d e
            · exact KF y ((hx1.tr (FR.s _ _)).tr a) (b.trans (congrArg (lpT (acT (hapT u f) its) p k (i + 1)) (hH (hapT u f)).symm)) c
          | false =>
            obtain rfl := hbf rfl
            refine pw_aload_n (tk tkX8_follows 30 rfl) rfl ?_
            refine g8_waiting (tk tkX8_follows 31 rfl) fkX8_25 ?_
            refine pw_aload_n (tk tkX8_follows 32 rfl) rfl ?_
            refine g8_depth (tk tkX8_follows 33 rfl) fkX8_62 ?_
            refine pw_dup2 (tk tkX8_follows 34 rfl) rfl rfl ?_
            refine al_waiting_e (e := its) (tk tkX8_follows 35 rfl) h10 (by first | decide | omega) ?_
            refine pw_iconst (v := 1) (tk tkX8_follows 36 rfl) (by decide) ?_
            refine pw_iload_n (tk tkX8_follows 37 rfl) rfl ?_
            refine pw_ishl (tk tkX8_follows 38 rfl) ?_
            refine pw_iconst (v := (-1)) (tk tkX8_follows 39 rfl) (by decide) ?_
            refine pw_ixor (tk tkX8_follows 40 rfl) ?_
            rw [hw]
            refine pw_iand (tk tkX8_follows 41 rfl) ?_
            rw [pge_t p hu8 hiu]
            refine as_waiting_e (e := its) (tk tkX8_follows 42 rfl) h10 (by first | decide | omega) ?_
            refine pw_aload_n (tk tkX8_follows 43 rfl) rfl ?_
            refine pw_iload_n (tk tkX8_follows 44 rfl) rfl ?_
            refine pw_cV ect okX8_acts (tk tkX8_follows 45 rfl) mkX8_80 imX8_acts seX8_acts (hp_ot _ 11) rfl rfl rfl (by decide) (by decide) (Nat.le_of_ble_eq_true rfl) ?_
            refine pw_ifnb (tgt := 83) (tk tkX8_follows 46 rfl) (by decide) (fun c78 => Bool.noConfusion c78) (fun c78 => ?_)
            refine pw_iconst (v := 0) (tk tkX8_follows 47 rfl) (by decide) ?_
            refine pw_ireturn (tk tkX8_follows 48 rfl) rfl (by decide) (by first | rfl | exact nar_bI _) ?_
            refine KF _ ((hx1.tr (FR.s _ _)).tr (FR.f _ 13 _ (by omega))) ?_ (by show ¬ (2 : Int32) = 0; decide)
            rw [← tx1, hH (hapT u f)]
            exact (lpT_stop _ p k (i + 1) _ (by show ¬ (2 : Int32) = 0; decide)).symm
        · have e1 : acX (uM6 x (upd (mWa x.2.1) its (mkM (pge p (i + 1)) u))) u i its = (decide (bgC (lgS (mS x.2.1) i (nI its)) u (mF x.2.1 12) ev r cl v (nI (its + 1)) = 0), bgX (uM1 (uM6 x (upd (mWa x.2.1) its (mkM (pge p (i + 1)) u))) (lgS (mS x.2.1) i (nI its))) u ev r cl v (its + 1)) := e
          rw [e1] at ect
          have ebg := tX_bg (uM1 (uM6 x (upd (mWa x.2.1) its (mkM (pge p (i + 1)) u))) (lgS (mS x.2.1) i (nI its))) u ev r cl v (its + 1)
          by_cases h0 : bgC (lgS (mS x.2.1) i (nI its)) u (mF x.2.1 12) ev r cl v (nI (its + 1)) = 0
          · rw [show decide (bgC (lgS (mS x.2.1) i (nI its)) u (mF x.2.1 12) ev r cl v (nI (its + 1)) = 0) = true from decide_eq_true h0] at ect
            have hi5 : its + 1 ≤ 5 := by
              rcases bgC_cs (lgS (mS x.2.1) i (nI its)) u (mF x.2.1 12) ev r cl v (nI (its + 1)) with q | q | q | ⟨_, q⟩
              · rw [q] at h0; exact absurd h0 (by decide)
              · rw [q] at h0; exact absurd h0 (by decide)
              · rw [q] at h0; exact absurd h0 (by decide)
              · obtain ⟨dp, h5, e24⟩ := (lgS_VS hv (nI its) hiu).2.2.1
                rw [e24] at q
                exact Nat.le_trans ((nI_leI (by omega) (by omega)).mp q) h5
            obtain ⟨f', rfl⟩ : ∃ f', f = f' + 1 := ⟨f - 1, by omega⟩
            have hW : bgX (uM1 (uM6 x (upd (mWa x.2.1) its (mkM (pge p (i + 1)) u))) (lgS (mS x.2.1) i (nI its))) u ev r cl v (its + 1) = bgW (uM1 (uM6 x (upd (mWa x.2.1) its (mkM (pge p (i + 1)) u))) (lgS (mS x.2.1) i (nI its))) u ev r cl v (its + 1) := if_pos h0
            have eH : acT (hapT u (f' + 1)) its i (tX x) = lpT (acT (hapT u f') (its + 1)) (mtC (lgS (mS x.2.1) i (nI its)) ev r (nI cl) v false) u 0 (tX (bgX (uM1 (uM6 x (upd (mWa x.2.1) its (mkM (pge p (i + 1)) u))) (lgS (mS x.2.1) i (nI its))) u ev r cl v (its + 1))) := by
              rw [ebg]
              exact (hH (hapT u (f' + 1))).trans (if_pos h0)
            rw [hW] at ect eH
            refine pw_aload_n (tk tkX8_follows 30 rfl) rfl ?_
            refine g8_waiting (tk tkX8_follows 31 rfl) fkX8_25 ?_
            refine pw_aload_n (tk tkX8_follows 32 rfl) rfl ?_
            refine g8_depth (tk tkX8_follows 33 rfl) fkX8_62 ?_
            refine pw_dup2 (tk tkX8_follows 34 rfl) rfl rfl ?_
            refine al_waiting_e (e := its) (tk tkX8_follows 35 rfl) h10 (by first | decide | omega) ?_
            refine pw_iconst (v := 1) (tk tkX8_follows 36 rfl) (by decide) ?_
            refine pw_iload_n (tk tkX8_follows 37 rfl) rfl ?_
            refine pw_ishl (tk tkX8_follows 38 rfl) ?_
            refine pw_iconst (v := (-1)) (tk tkX8_follows 39 rfl) (by decide) ?_
            refine pw_ixor (tk tkX8_follows 40 rfl) ?_
            rw [hw]
            refine pw_iand (tk tkX8_follows 41 rfl) ?_
            rw [pge_t p hu8 hiu]
            refine as_waiting_e (e := its) (tk tkX8_follows 42 rfl) h10 (by first | decide | omega) ?_
            refine pw_aload_n (tk tkX8_follows 43 rfl) rfl ?_
            refine pw_iload_n (tk tkX8_follows 44 rfl) rfl ?_
            refine pw_cV ect okX8_acts (tk tkX8_follows 45 rfl) mkX8_80 imX8_acts seX8_acts (hp_ot _ 11) rfl rfl rfl (by decide) (by decide) (Nat.le_of_ble_eq_true rfl) ?_
            refine pw_ifnb (tgt := 83) (tk tkX8_follows 46 rfl) (by decide) (fun c78 => ?_) (fun c78 => Bool.noConfusion c78)
            refine pw_goto (tgt := 0) (tk tkX8_follows 49 rfl) (by decide) ?_
            have hfr : FR (its + 1) (uM6 x (upd (mWa x.2.1) its (mkM (pge p (i + 1)) u))) (bgW (uM1 (uM6 x (upd (mWa x.2.1) its (mkM (pge p (i + 1)) u))) (lgS (mS x.2.1) i (nI its))) u ev r cl v (its + 1)) := by rw [← hW]; exact (FR.s _ _).tr (FR.bg _ u ev r cl v _ (Nat.le_refl _))
            refine LV f' rfl (mtC (lgS (mS x.2.1) i (nI its)) ev r (nI cl) v false) _ _ (alt_VS (lgS_VS hv _ hiu) ev v hr hc) rfl ((upd_at _ _ _).trans (pge_0 _ u)) rfl (fun y l1 a b g3 d e => ?_) (fun y a b g3 => ?_)
            · have hv' : VS u (mS y.2.1) := by
                have q := lpT_KV (u := u) (s := mS x.2.1) (F := acT (hapT u f') (its + 1)) (fun i t hi ht => acT_KV (fun t ev r c v d => hapT_KV u _ f' t ev r c v d) (its + 1) i t hi ht) (mtC (lgS (mS x.2.1) i (nI its)) ev r (nI cl) v false) u 0 (tX (bgW (uM1 (uM6 x (upd (mWa x.2.1) its (mkM (pge p (i + 1)) u))) (lgS (mS x.2.1) i (nI its))) u ev r cl v (its + 1))) (by omega) ⟨alt_VS (lgS_VS hv _ hiu) ev v hr hc, (lgS_SR _ _ _).tr (fun j a _ _ => alt_nt _ ev v hr hc a)⟩
                rw [← b] at q
                exact q.1
              have hy : FR its x y := hx1.tr ((hfr.tr a).lo (Nat.le_succ _))
              have ty : tX y = acT (hapT u (f' + 1)) its i (tX x) := b.trans eH.symm
              have wy : mWa y.2.1 its = mkM (pge p (i + 1)) u := ((hfr.tr a).2.2.2.2.2.2.2 its (Nat.lt_succ_self _)).trans (upd_at _ _ _)
              refine pw_aload_n (tk tkX8_follows 0 rfl) rfl ?_
              refine g8_depth (tk tkX8_follows 1 rfl) fkX8_62 ?_
              refine pw_if_lt (tgt := 86) (tk tkX8_follows 2 rfl) (by decide) (fun c4 => absurd c4 (by rw [d]; exact nI_pos (by omega))) (fun c4 => ?_)
              refine pw_aload_n (tk tkX8_follows 3 rfl) rfl ?_
              refine g8_waiting (tk tkX8_follows 4 rfl) fkX8_25 ?_
              refine pw_aload_n (tk tkX8_follows 5 rfl) rfl ?_
              refine g8_depth (tk tkX8_follows 6 rfl) fkX8_62 ?_
              refine al_waiting_e (e := its + 1) (tk tkX8_follows 7 rfl) d (by first | decide | omega) ?_
              refine pw_if_ne (tgt := 32) (tk tkX8_follows 8 rfl) (by decide) (fun c16 => absurd e c16) (fun c16 => ?_)
              refine pw_aload_n (tk tkX8_follows 9 rfl) rfl ?_
              refine pw_dup (tk tkX8_follows 10 rfl) rfl ?_
              refine g8_depth (tk tkX8_follows 11 rfl) fkX8_62 ?_
              refine pw_iconst (v := 1) (tk tkX8_follows 12 rfl) (by decide) ?_
              refine pw_isub (tk tkX8_follows 13 rfl) ?_
              rw [d, nI_pred]
              refine p8_depth (tk tkX8_follows 14 rfl) fkX8_62 ?_
              refine pw_goto (tgt := 0) (tk tkX8_follows 15 rfl) (by decide) ?_
              refine ih (i + 1) (by omega) p _ _ hv' (upd_at (mF y.2.1) 10 (nI its)) wy g3 (fun y2 l2 a2 b2 c2 d2 e2 => ?_) (fun y2 a2 b2 c2 => ?_)
              · exact KT y2 l2 ((hy.tr (FR.f y 10 _ (by omega))).tr a2) (b2.trans (congrArg (lpT (acT (hapT u (f' + 1)) its) p k (i + 1)) ty)) c2 d2 e2
              · exact KF y2 ((hy.tr (FR.f y 10 _ (by omega))).tr a2) (b2.trans (congrArg (lpT (acT (hapT u (f' + 1)) its) p k (i + 1)) ty)) c2
            · exact KF y (hx1.tr ((hfr.tr a).lo (Nat.le_succ _))) (by rw [b, ← eH]; refine (lpT_stop _ p k (i + 1) _ ?_).symm; rw [eH, ← b]; exact g3) g3
          · rw [show decide (bgC (lgS (mS x.2.1) i (nI its)) u (mF x.2.1 12) ev r cl v (nI (its + 1)) = 0) = false from decide_eq_false h0] at ect
            have hX : bgX (uM1 (uM6 x (upd (mWa x.2.1) its (mkM (pge p (i + 1)) u))) (lgS (mS x.2.1) i (nI its))) u ev r cl v (its + 1) = uM7 (uM1 (uM6 x (upd (mWa x.2.1) its (mkM (pge p (i + 1)) u))) (lgS (mS x.2.1) i (nI its))) (upd (mF (uM1 (uM6 x (upd (mWa x.2.1) its (mkM (pge p (i + 1)) u))) (lgS (mS x.2.1) i (nI its))).2.1) 13 (bgC (lgS (mS x.2.1) i (nI its)) u (mF x.2.1 12) ev r cl v (nI (its + 1)))) := if_neg h0
            rw [hX] at ect ebg
            have eH : acT (hapT u f) its i (tX x) = bgT u (tX (uM1 (uM6 x (upd (mWa x.2.1) its (mkM (pge p (i + 1)) u))) (lgS (mS x.2.1) i (nI its)))) ev r cl v (its + 1) := (hH (hapT u f)).trans (hapT_bad u f _ ev r cl v (its + 1) h0)
            refine pw_aload_n (tk tkX8_follows 30 rfl) rfl ?_
            refine g8_waiting (tk tkX8_follows 31 rfl) fkX8_25 ?_
            refine pw_aload_n (tk tkX8_follows 32 rfl) rfl ?_
            refine g8_depth (tk tkX8_follows 33 rfl) fkX8_62 ?_
            refine pw_dup2 (tk tkX8_follows 34 rfl) rfl rfl ?_
            refine al_waiting_e (e := its) (tk tkX8_follows 35 rfl) h10 (by first | decide | omega) ?_
            refine pw_iconst (v := 1) (tk tkX8_follows 36 rfl) (by decide) ?_
            refine pw_iload_n (tk tkX8_follows 37 rfl) rfl ?_
            refine pw_ishl (tk tkX8_follows 38 rfl) ?_
            refine pw_iconst (v := (-1)) (tk tkX8_follows 39 rfl) (by decide) ?_
            refine pw_ixor (tk tkX8_follows 40 rfl) ?_
            rw [hw]
            refine pw_iand (tk tkX8_follows 41 rfl) ?_
            rw [pge_t p hu8 hiu]
            refine as_waiting_e (e := its) (tk tkX8_follows 42 rfl) h10 (by first | decide | omega) ?_
            refine pw_aload_n (tk tkX8_follows 43 rfl) rfl ?_
            refine pw_iload_n (tk tkX8_follows 44 rfl) rfl ?_
            refine pw_cV ect okX8_acts (tk tkX8_follows 45 rfl) mkX8_80 imX8_acts seX8_acts (hp_ot _ 11) rfl rfl rfl (by decide) (by decide) (Nat.le_of_ble_eq_true rfl) ?_
            refine pw_ifnb (tgt := 83) (tk tkX8_follows 46 rfl) (by decide) (fun c78 => Bool.noConfusion c78) (fun c78 => ?_)
            refine pw_iconst (v := 0) (tk tkX8_follows 47 rfl) (by decide) ?_
            refine pw_ireturn (tk tkX8_follows 48 rfl) rfl (by decide) (by first | rfl | exact nar_bI _) ?_
            refine KF _ ((hx1.tr (FR.s _ _)).tr (FR.f _ 13 _ (by omega))) ?_ h0
            rw [ebg, eH]
            exact (lpT_stop _ p k (i + 1) _ (by rw [← ebg]; exact h0)).symm
      have J34 : ∀ m r, r + m = i → PW MX8_follows 4 0 34 [some (.ref 171), some (.int (nI r))] [] (hp x) Q := by
        intro m
        induction m with
        | zero =>
          intro r hr
          obtain rfl : r = i := by omega
          refine pw_aload_n (tk tkX8_follows 18 rfl) rfl ?_
          refine g8_waiting (tk tkX8_follows 19 rfl) fkX8_25 ?_
          refine pw_aload_n (tk tkX8_follows 20 rfl) rfl ?_
          refine g8_depth (tk tkX8_follows 21 rfl) fkX8_62 ?_
          refine al_waiting_e (e := its) (tk tkX8_follows 22 rfl) h10 (by first | decide | omega) ?_
          refine pw_iload_n (tk tkX8_follows 23 rfl) rfl ?_
          refine pw_ishr (tk tkX8_follows 24 rfl) ?_
          refine pw_iconst (v := 1) (tk tkX8_follows 25 rfl) (by decide) ?_
          refine pw_iand (tk tkX8_follows 26 rfl) ?_
          rw [hw, mk_bit _ hu8 hiu, show pge p r r = true from by unfold pge; rw [hpi, decide_eq_true (Nat.le_refl _)]; rfl]
          refine pw_if_ne (tgt := 56) (tk tkX8_follows 27 rfl) (by decide) (fun c47 => ?_) (fun c47 => absurd c47 (by decide))
          exact J56
        | succ m ihm =>
          intro r hr
          refine pw_aload_n (tk tkX8_follows 18 rfl) rfl ?_
          refine g8_waiting (tk tkX8_follows 19 rfl) fkX8_25 ?_
          refine pw_aload_n (tk tkX8_follows 20 rfl) rfl ?_
          refine g8_depth (tk tkX8_follows 21 rfl) fkX8_62 ?_
          refine al_waiting_e (e := its) (tk tkX8_follows 22 rfl) h10 (by first | decide | omega) ?_
          refine pw_iload_n (tk tkX8_follows 23 rfl) rfl ?_
          refine pw_ishr (tk tkX8_follows 24 rfl) ?_
          refine pw_iconst (v := 1) (tk tkX8_follows 25 rfl) (by decide) ?_
          refine pw_iand (tk tkX8_follows 26 rfl) ?_
          rw [hw, mk_bit _ hu8 (by omega), show pge p i r = false from by unfold pge; rw [decide_eq_false (by omega), Bool.and_false]]
          refine pw_if_ne (tgt := 56) (tk tkX8_follows 27 rfl) (by decide) (fun c47 => absurd c47 (fun q => q rfl)) (fun c47 => ?_)
          refine pw_inc1 (tk tkX8_follows 28 rfl) rfl (by decide) (nI_1 r) ?_
          refine pw_goto (tgt := 34) (tk tkX8_follows 29 rfl) (by decide) ?_
          exact ihm (r + 1) (by omega)
      refine pw_aload_n (tk tkX8_follows 0 rfl) rfl ?_
      refine g8_depth (tk tkX8_follows 1 rfl) fkX8_62 ?_
      refine pw_if_lt (tgt := 86) (tk tkX8_follows 2 rfl) (by decide) (fun c4 => absurd c4 (by rw [h10]; exact nI_pos (by omega))) (fun c4 => ?_)
      refine pw_aload_n (tk tkX8_follows 3 rfl) rfl ?_
      refine g8_waiting (tk tkX8_follows 4 rfl) fkX8_25 ?_
      refine pw_aload_n (tk tkX8_follows 5 rfl) rfl ?_
      refine g8_depth (tk tkX8_follows 6 rfl) fkX8_62 ?_
      refine al_waiting_e (e := its) (tk tkX8_follows 7 rfl) h10 (by first | decide | omega) ?_
      refine pw_if_ne (tgt := 32) (tk tkX8_follows 8 rfl) (by decide) (fun c16 => ?_) (fun c16 => absurd (hw.symm.trans c16) hne)
      refine pw_iconst (v := 0) (tk tkX8_follows 16 rfl) (by decide) ?_
      refine pw_ist1 (tk tkX8_follows 17 rfl) rfl (by decide) ?_
      exact J34 i 0 (by omega)
theorem fol (u : Nat) (Q : Out → Hp → Prop) : ∀ (f its : Nat), its + f = 5 → ∀ (k i : Nat), i + k = u → ∀ (p : Nat → Bool) (x : XW) (l1 : Option Value), VS u (mS x.2.1) → mF x.2.1 10 = nI its → mWa x.2.1 its = mkM (pge p i) u → mF x.2.1 13 = 0 →
    (∀ y l1, FR its x y → tX y = lpT (acT (hapT u f) its) p k i (tX x) → mF y.2.1 13 = 0 → mF y.2.1 10 = nI its → mWa y.2.1 its = 0 → PW MX8_follows 4 0 0 [some (.ref 171), l1] [] (hp y) Q) →
    (∀ y, FR its x y → tX y = lpT (acT (hapT u f) its) p k i (tX x) → ¬ mF y.2.1 13 = 0 → Q (.inl (some (.int 0))) (hp y)) →
    PW MX8_follows 4 0 0 [some (.ref 171), l1] [] (hp x) Q
  | 0, its, hf => folS u Q 0 its hf (fun f' q => by cases q)
  | f + 1, its, hf => folS u Q (f + 1) its hf (fun f' q p x l1 a b c d KT KF => by
      obtain rfl : f = f' := by omega
      exact fol u Q f (its + 1) (by omega) u 0 (by omega) p x l1 a b c d KT KF)
end
section
def E132 (f g : Nat → Int32) : Prop := ∀ j, j < 132 → f j = g j
def fin (R : TT) (s : Nat → Int32) : Nat → Int32 := if R.2.2.2 = 0 then upd R.1 98 (R.1 98 + R.2.1) else s
def flQ (x : XW) (u : Nat) (p : Nat → Bool) : Out → Hp → Prop := fun o h2 => ∃ y, h2 = hp y ∧ FR 0 x y ∧ tX y = lpT (acT (hapT u 5) 0) p u 0 (tX x) ∧ o = .inl (some (.int (bI (decide (mF y.2.1 13 = 0)))))
set_option maxRecDepth 100000 in
set_option maxHeartbeats 4000000 in
theorem ct_X8_follows (x : XW) (u : Nat) (p : Nat → Bool) (hv : VS u (mS x.2.1)) (h10 : mF x.2.1 10 = nI 0) (hw : mWa x.2.1 0 = mkM p u) (h13 : mF x.2.1 13 = 0) : CT MX8_follows 4 0 [.ref 171] (hp x) (flQ x u p) := by
  refine ct_of (by decide +kernel) (by decide) rfl (k := 1) (ls := [some (.ref 171), none]) rfl (Nat.le_of_ble_eq_true rfl) ?_
  refine fol u (flQ x u p) 5 0 rfl u 0 (by omega) p x none hv h10 (hw.trans (pge_0 p u)) h13 (fun y l1 a b c d e => ?_) (fun y a b c => ⟨y, rfl, a, b, by rw [decide_eq_false c]; rfl⟩)
  refine pw_aload_n (tk tkX8_follows 0 rfl) rfl ?_
  refine g8_depth (tk tkX8_follows 1 rfl) fkX8_62 ?_
  refine pw_if_lt (tgt := 86) (tk tkX8_follows 2 rfl) (by decide) (fun c4 => absurd c4 (by rw [d]; exact nI_pos (by omega))) (fun c4 => ?_)
  refine pw_aload_n (tk tkX8_follows 3 rfl) rfl ?_
  refine g8_waiting (tk tkX8_follows 4 rfl) fkX8_25 ?_
  refine pw_aload_n (tk tkX8_follows 5 rfl) rfl ?_
  refine g8_depth (tk tkX8_follows 6 rfl) fkX8_62 ?_
  refine al_waiting_e (e := 0) (tk tkX8_follows 7 rfl) d (by first | decide | omega) ?_
  refine pw_if_ne (tgt := 32) (tk tkX8_follows 8 rfl) (by decide) (fun c16 => absurd e c16) (fun c16 => ?_)
  refine pw_aload_n (tk tkX8_follows 9 rfl) rfl ?_
  refine pw_dup (tk tkX8_follows 10 rfl) rfl ?_
  refine g8_depth (tk tkX8_follows 11 rfl) fkX8_62 ?_
  refine pw_iconst (v := 1) (tk tkX8_follows 12 rfl) (by decide) ?_
  refine pw_isub (tk tkX8_follows 13 rfl) ?_
  rw [d, show nI 0 - 1 = -1 from by decide]
  refine p8_depth (tk tkX8_follows 14 rfl) fkX8_62 ?_
  refine pw_goto (tgt := 0) (tk tkX8_follows 15 rfl) (by decide) ?_
  refine pw_aload_n (tk tkX8_follows 0 rfl) rfl ?_
  refine g8_depth (tk tkX8_follows 1 rfl) fkX8_62 ?_
  refine pw_if_lt (tgt := 86) (tk tkX8_follows 2 rfl) (by decide) (fun c4 => ?_) (fun c4 => absurd (show mF (uM7 y (upd (mF y.2.1) 10 (-1))).2.1 10 < 0 from (by show (-1 : Int32) < 0; decide)) c4)
  refine pw_iconst (v := 1) (tk tkX8_follows 50 rfl) (by decide) ?_
  exact pw_ireturn (tk tkX8_follows 51 rfl) rfl (by decide) (by first | rfl | exact nar_bI _) ⟨uM7 y (upd (mF y.2.1) 10 (-1)), rfl, a.tr (FR.f y 10 _ (by omega)), b, by rw [decide_eq_true (show mF (uM7 y (upd (mF y.2.1) 10 (-1))).2.1 13 = 0 from c)]; rfl⟩
def stQ (x : XW) (R : TT) : Out → Hp → Prop := fun o h2 => ∃ y, h2 = hp y ∧ FR 0 x y ∧ mF y.2.1 12 = R.2.1 ∧ mF y.2.1 11 = R.2.2.1 ∧ mF y.2.1 13 = R.2.2.2 ∧ mS y.2.1 = (if R.2.2.2 = 0 then upd R.1 98 (R.1 98 + R.2.1) else cpN 132 (mA x.2.1) R.1) ∧ o = .inl (some (.int (bI (decide (R.2.2.2 = 0)))))
set_option maxRecDepth 100000 in
set_option maxHeartbeats 4000000 in
theorem ct_X8_states (x : XW) (u : Nat) (hv : VS u (mS x.2.1)) (ev : Int32) (r c : Nat) (v : Int32) (hr : r < 6) (hc : c < 3) : CT MX8_states 5 0 [.ref 171, .int ev, .int (nI r), .int (nI c), .int v] (hp x) (stQ x (hapT u 6 (mS x.2.1, 0, -1, 0) ev r c v 0)) := by
  refine ct_of (by decide +kernel) (by decide) rfl (k := 1) (ls := [some (.ref 171), some (.int ev), some (.int (nI r)), some (.int (nI c)), some (.int v), none]) rfl (Nat.le_of_ble_eq_true rfl) ?_
  obtain ⟨R, hR⟩ : ∃ R, R = (hapT u 6 (mS x.2.1, 0, -1, 0) ev r c v 0) := ⟨_, rfl⟩
  rw [← hR]
  have J40 : ∀ y, FR 0 x y → tX y = R → R.2.2.2 = 0 → PW MX8_states 5 0 40 [some (.ref 171), some (.int ev), some (.int (nI r)), some (.int (nI c)), some (.int v), none] [] (hp y) (stQ x R) := by
    intro y hf ht h0
    have q12 : mF y.2.1 12 = R.2.1 := congrArg (fun t => t.2.1) ht
    have q11 : mF y.2.1 11 = R.2.2.1 := congrArg (fun t => t.2.2.1) ht
    have q13 : mF y.2.1 13 = R.2.2.2 := congrArg (fun t => t.2.2.2) ht
    have qs : mS y.2.1 = R.1 := congrArg (fun t => t.1) ht
    refine pw_iconst (v := 1) (tk tkX8_states 23 rfl) (by decide) ?_
    refine pw_goto (tgt := 45) (tk tkX8_states 24 rfl) (by decide) ?_
    refine pw_ist5 (tk tkX8_states 26 rfl) rfl (by decide) ?_
    refine pw_iload (tk tkX8_states 27 rfl) rfl ?_
    refine pw_if_eq (tgt := 69) (tk tkX8_states 28 rfl) (by decide) (fun c49 => absurd c49 (by decide)) (fun c49 => ?_)
    refine pw_aload_n (tk tkX8_states 29 rfl) rfl ?_
    refine g8_s (tk tkX8_states 30 rfl) fkX8_7 ?_
    refine pw_bipush (v := 98) (tk tkX8_states 31 rfl) (by decide) ?_
    refine pw_dup2 (tk tkX8_states 32 rfl) rfl rfl ?_
    refine al_s_e (e := 98) (tk tkX8_states 33 rfl) (by first | rfl | simp only [lit_nI, nI_add, pk_mul]) (by first | decide | omega) ?_
    refine pw_aload_n (tk tkX8_states 34 rfl) rfl ?_
    refine g8_happened (tk tkX8_states 35 rfl) fkX8_52 ?_
    refine pw_iadd (tk tkX8_states 36 rfl) ?_
    refine as_s_e (e := 98) (tk tkX8_states 37 rfl) (by first | rfl | simp only [lit_nI, nI_add, pk_mul]) (by first | decide | omega) ?_
    refine pw_goto (tgt := 73) (tk tkX8_states 38 rfl) (by decide) ?_
    refine pw_iload (tk tkX8_states 41 rfl) rfl ?_
    exact pw_ireturn (tk tkX8_states 42 rfl) rfl (by decide) (by first | rfl | exact nar_bI _) ⟨_, rfl, hf.tr (FR.s _ _), q12, q11, q13, by rw [if_pos h0, ← qs, ← q12]; rfl, by rw [decide_eq_true h0]; rfl⟩
  have J44 : ∀ y, FR 0 x y → tX y = R → ¬ R.2.2.2 = 0 → PW MX8_states 5 0 44 [some (.ref 171), some (.int ev), some (.int (nI r)), some (.int (nI c)), some (.int v), none] [] (hp y) (stQ x R) := by
    intro y hf ht h0
    have q12 : mF y.2.1 12 = R.2.1 := congrArg (fun t => t.2.1) ht
    have q11 : mF y.2.1 11 = R.2.2.1 := congrArg (fun t => t.2.2.1) ht
    have q13 : mF y.2.1 13 = R.2.2.2 := congrArg (fun t => t.2.2.2) ht
    have qs : mS y.2.1 = R.1 := congrArg (fun t => t.1) ht
    have qa : mA y.2.1 = mA x.2.1 := hf.2.2.1
    refine pw_iconst (v := 0) (tk tkX8_states 25 rfl) (by decide) ?_
    refine pw_ist5 (tk tkX8_states 26 rfl) rfl (by decide) ?_
    refine pw_iload (tk tkX8_states 27 rfl) rfl ?_
    refine pw_if_eq (tgt := 69) (tk tkX8_states 28 rfl) (by decide) (fun c49 => ?_) (fun c49 => absurd rfl c49)
    refine pw_aload_n (tk tkX8_states 39 rfl) rfl ?_
    refine pw_cV0 (ct_X8_putBack y) okX8_putBack (tk tkX8_states 40 rfl) mkX8_87 imX8_putBack seX8_putBack (hp_ot _ 11) rfl rfl rfl (by decide) (by decide) (Nat.le_of_ble_eq_true rfl) ?_
    refine pw_iload (tk tkX8_states 41 rfl) rfl ?_
    exact pw_ireturn (tk tkX8_states 42 rfl) rfl (by decide) (by first | rfl | exact nar_bI _) ⟨_, rfl, hf.tr (FR.s _ _), q12, q11, q13, by rw [if_neg h0, ← qs, ← qa]; rfl, by rw [decide_eq_false h0]; rfl⟩
  have f0 : FR 0 x (uM7 (uM7 (uM7 (uM7 x (upd (mF x.2.1) 12 0)) (upd (upd (mF x.2.1) 12 0) 11 (-1))) (upd (upd (upd (mF x.2.1) 12 0) 11 (-1)) 13 0)) (upd (upd (upd (upd (mF x.2.1) 12 0) 11 (-1)) 13 0) 10 (-1))) := (((FR.f x 12 0 (by omega)).tr (FR.f _ 11 (-1) (by omega))).tr (FR.f _ 13 0 (by omega))).tr (FR.f _ 10 (-1) (by omega))
  have eb := tX_bg (uM7 (uM7 (uM7 (uM7 x (upd (mF x.2.1) 12 0)) (upd (upd (mF x.2.1) 12 0) 11 (-1))) (upd (upd (upd (mF x.2.1) 12 0) 11 (-1)) 13 0)) (upd (upd (upd (upd (mF x.2.1) 12 0) 11 (-1)) 13 0) 10 (-1))) u ev r c v 0
  have fb : FR 0 (uM7 (uM7 (uM7 (uM7 x (upd (mF x.2.1) 12 0)) (upd (upd (mF x.2.1) 12 0) 11 (-1))) (upd (upd (upd (mF x.2.1) 12 0) 11 (-1)) 13 0)) (upd (upd (upd (upd (mF x.2.1) 12 0) 11 (-1)) 13 0) 10 (-1))) (bgX (uM7 (uM7 (uM7 (uM7 x (upd (mF x.2.1) 12 0)) (upd (upd (mF x.2.1) 12 0) 11 (-1))) (upd (upd (upd (mF x.2.1) 12 0) 11 (-1)) 13 0)) (upd (upd (upd (upd (mF x.2.1) 12 0) 11 (-1)) 13 0) 10 (-1))) u ev r c v 0) := FR.bg _ u ev r c v 0 (Nat.le_refl _)
  have hb0 : bgC (mS x.2.1) u 0 ev r c v (nI 0) = 0 → bgX (uM7 (uM7 (uM7 (uM7 x (upd (mF x.2.1) 12 0)) (upd (upd (mF x.2.1) 12 0) 11 (-1))) (upd (upd (upd (mF x.2.1) 12 0) 11 (-1)) 13 0)) (upd (upd (upd (upd (mF x.2.1) 12 0) 11 (-1)) 13 0) 10 (-1))) u ev r c v 0 = bgW (uM7 (uM7 (uM7 (uM7 x (upd (mF x.2.1) 12 0)) (upd (upd (mF x.2.1) 12 0) 11 (-1))) (upd (upd (upd (mF x.2.1) 12 0) 11 (-1)) 13 0)) (upd (upd (upd (upd (mF x.2.1) 12 0) 11 (-1)) 13 0) 10 (-1))) u ev r c v 0 := fun h => if_pos h
  refine pw_aload_n (tk tkX8_states 0 rfl) rfl ?_
  refine pw_iconst (v := 0) (tk tkX8_states 1 rfl) (by decide) ?_
  refine p8_happened (tk tkX8_states 2 rfl) fkX8_52 ?_
  refine pw_aload_n (tk tkX8_states 3 rfl) rfl ?_
  refine pw_iconst (v := (-1)) (tk tkX8_states 4 rfl) (by decide) ?_
  refine p8_deepest (tk tkX8_states 5 rfl) fkX8_65 ?_
  refine pw_aload_n (tk tkX8_states 6 rfl) rfl ?_
  refine pw_iconst (v := 0) (tk tkX8_states 7 rfl) (by decide) ?_
  refine p8_refused (tk tkX8_states 8 rfl) fkX8_59 ?_
  refine pw_aload_n (tk tkX8_states 9 rfl) rfl ?_
  refine pw_iconst (v := (-1)) (tk tkX8_states 10 rfl) (by decide) ?_
  refine p8_depth (tk tkX8_states 11 rfl) fkX8_62 ?_
  refine pw_aload_n (tk tkX8_states 12 rfl) rfl ?_
  refine pw_iload_n (tk tkX8_states 13 rfl) rfl ?_
  refine pw_iload_n (tk tkX8_states 14 rfl) rfl ?_
  refine pw_iload_n (tk tkX8_states 15 rfl) rfl ?_
  refine pw_iload (tk tkX8_states 16 rfl) rfl ?_
  refine pw_iconst (v := 0) (tk tkX8_states 17 rfl) (by decide) ?_
  refine pw_cV (ct_X8_begins (uM7 (uM7 (uM7 (uM7 x (upd (mF x.2.1) 12 0)) (upd (upd (mF x.2.1) 12 0) 11 (-1))) (upd (upd (upd (mF x.2.1) 12 0) 11 (-1)) 13 0)) (upd (upd (upd (upd (mF x.2.1) 12 0) 11 (-1)) 13 0) 10 (-1))) u hv ev r c v 0 hr hc (by decide)) okX8_begins (tk tkX8_states 18 rfl) mkX8_72 imX8_begins seX8_begins (hp_ot _ 11) rfl rfl rfl (by decide) (by decide) (Nat.le_of_ble_eq_true rfl) ?_
  refine pw_ifb (tgt := 44) (tk tkX8_states 19 rfl) (by decide) (fun c30 => ?_) (fun c30 => ?_)
  · have q : ¬ bgC (mS x.2.1) u 0 ev r c v (nI 0) = 0 := of_decide_eq_false c30
    exact J44 _ (f0.tr fb) (by rw [hR, eb]; exact (hapT_bad u 6 _ ev r c v 0 q).symm) (by rw [hR, hapT_bad u 6 _ ev r c v 0 q, show bgT u (mS x.2.1, 0, -1, 0) ev r c v 0 = _ from if_neg q]; exact q)
  · refine pw_aload_n (tk tkX8_states 20 rfl) rfl ?_
    rw [hb0 (of_decide_eq_true c30)]
    refine pw_callV (ct_X8_follows (bgW (uM7 (uM7 (uM7 (uM7 x (upd (mF x.2.1) 12 0)) (upd (upd (mF x.2.1) 12 0) 11 (-1))) (upd (upd (upd (mF x.2.1) 12 0) 11 (-1)) 13 0)) (upd (upd (upd (upd (mF x.2.1) 12 0) 11 (-1)) 13 0) 10 (-1))) u ev r c v 0) u (mtC (mS x.2.1) ev r (nI c) v false) (alt_VS hv ev v hr hc) rfl rfl rfl) okX8_follows (tk tkX8_states 21 rfl) mkX8_83 imX8_follows seX8_follows (hp_ot _ 11) rfl rfl rfl (by decide) (by decide) (Nat.le_of_ble_eq_true rfl) (fun r h2 q => ?_) (fun E h2 q => by obtain ⟨y, e1, e2, e3, ho⟩ := q; cases ho)
    obtain ⟨y, rfl, e2, e3, ho⟩ := q
    cases ho
    have e4 : tX y = R := by
      rw [hR, e3, ← hb0 (of_decide_eq_true c30), eb]
      exact (if_pos (of_decide_eq_true c30)).symm
    have e5 : FR 0 x y := (f0.tr fb).tr (by rw [hb0 (of_decide_eq_true c30)]; exact e2)
    refine pw_ifb (tgt := 44) (tk tkX8_states 22 rfl) (by decide) (fun c37 => ?_) (fun c37 => ?_)
    · exact J44 _ e5 e4 (by rw [← e4]; exact of_decide_eq_false c37)
    · exact J40 _ e5 e4 (by rw [← e4]; exact of_decide_eq_true c37)
end
section
theorem VS_val {u : Nat} {s : Nat → Int32} (h : VS u s) {k : Nat} (v : Int32) (h6 : 6 ≤ k) (hk : k < 24) : VS u (upd s k v) :=
  h.of (fun j a _ _ => upd_nt _ _ (by omega)) (by rw [upd_nt _ _ (by omega)]; exact h.2.2.2.1) (fun j hj => by rw [upd_nt _ _ (by omega)]; exact h.2.2.2.2.1 j hj)
def FA (x y : XW) : Prop := y.1 = x.1 ∧ y.2.2 = x.2.2 ∧ E132 (mA y.2.1) (mS x.2.1) ∧ mHi y.2.1 = mHi x.2.1 ∧ mSl y.2.1 = mSl x.2.1 ∧ mTx y.2.1 = mTx x.2.1 ∧ ∀ k, k ≠ 10 → k ≠ 11 → k ≠ 12 → k ≠ 13 → mF y.2.1 k = mF x.2.1 k
theorem cpN_E (f g : Nat → Int32) : E132 (cpN 132 f g) f := fun j hj => if_pos hj
theorem FR.fa {x y : XW} (h : FR 0 (xPA x) y) : FA x y := by
  obtain ⟨a1, a2, a3, a4, a5, a6, a7, a8⟩ := h
  exact ⟨a1, a2, by rw [a3]; exact cpN_E _ _, a4, a5, a6, a7⟩
def insR (u : Nat) (s : Nat → Int32) (r : Nat) (a b c : Int32) : TT := if s r = 1 then (s, 0, -1, 1) else hapT u 6 (upd (upd (upd s (6 + 3 * r + 0) a) (6 + 3 * r + 1) b) (6 + 3 * r + 2) c, 0, -1, 0) 0 r 0 0 0
def updR (u : Nat) (s : Nat → Int32) (r c : Nat) (v : Int32) : TT := if s r = 0 then (s, 0, -1, 1) else if s (6 + 3 * r + c) = v then (s, 0, -1, 0) else hapT u 6 (s, 0, -1, 0) 1 r c v 0
def remR (u : Nat) (s : Nat → Int32) (r : Nat) : TT := if s r = 1 then hapT u 6 (s, 0, -1, 0) 2 r 0 0 0 else (s, 0, -1, 1)
def stP (x : XW) (R : TT) (w : Prop) : Out → Hp → Prop := fun o h2 => ∃ y, h2 = hp y ∧ FA x y ∧ E132 (mS y.2.1) (fin R (mS x.2.1)) ∧ o = .inl (some (.int (bI (decide (R.2.2.2 = 0))))) ∧ (w → mF y.2.1 12 = R.2.1 ∧ mF y.2.1 11 = R.2.2.1 ∧ mF y.2.1 13 = R.2.2.2)
theorem stP.of {x x0 : XW} {R : TT} {w : Prop} {o : Out} {h2 : Hp} (h : stQ x0 R o h2) (hf : FR 0 (xPA x) x0) : stP x R w o h2 := by
  obtain ⟨y, e, f, a, b, c, d, g⟩ := h
  refine ⟨y, e, (hf.tr f).fa, ?_, g, fun _ => ⟨a, b, c⟩⟩
  rw [d]
  unfold fin
  by_cases h0 : R.2.2.2 = 0
  · rw [if_pos h0, if_pos h0]; exact fun _ _ => rfl
  · rw [if_neg h0, if_neg h0]
    intro j hj
    rw [cpN_E _ _ j hj, hf.2.2.1]
    exact cpN_E _ _ j hj
set_option maxRecDepth 100000 in
set_option maxHeartbeats 4000000 in
theorem ct_X8_inserts (x : XW) (u : Nat) (hv : VS u (mS x.2.1)) (r : Nat) (a b c : Int32) (hr : r < 6) : CT MX8_inserts 6 0 [.ref 171, .int (nI r), .int a, .int b, .int c] (hp x) (stP x (insR u (mS x.2.1) r a b c) ((insR u (mS x.2.1) r a b c).2.2.2 ≠ 1)) := by
  refine ct_of (by decide +kernel) (by decide) rfl (k := 0) (ls := [some (.ref 171), some (.int (nI r)), some (.int a), some (.int b), some (.int c)]) rfl (Nat.le_of_ble_eq_true rfl) ?_
  have hv1 : VS u (mS (uM1 (uM1 (uM1 (xPA x) (upd (mS x.2.1) (6 + 3 * r + 0) a)) (upd (upd (mS x.2.1) (6 + 3 * r + 0) a) (6 + 3 * r + 1) b)) (upd (upd (upd (mS x.2.1) (6 + 3 * r + 0) a) (6 + 3 * r + 1) b) (6 + 3 * r + 2) c)).2.1) := VS_val (VS_val (VS_val hv a (by omega) (by omega)) b (by omega) (by omega)) c (by omega) (by omega)
  have f0 : FR 0 (xPA x) (uM1 (uM1 (uM1 (xPA x) (upd (mS x.2.1) (6 + 3 * r + 0) a)) (upd (upd (mS x.2.1) (6 + 3 * r + 0) a) (6 + 3 * r + 1) b)) (upd (upd (upd (mS x.2.1) (6 + 3 * r + 0) a) (6 + 3 * r + 1) b) (6 + 3 * r + 2) c)) := ((FR.s _ _).tr (FR.s _ _)).tr (FR.s _ _)
  refine pw_aload_n (tk tkX8_inserts 0 rfl) rfl ?_
  refine pw_cV0 (ct_X8_putAside x) okX8_putAside (tk tkX8_inserts 1 rfl) mkX8_39 imX8_putAside seX8_putAside (hp_ot _ 11) rfl rfl rfl (by decide) (by decide) (Nat.le_of_ble_eq_true rfl) ?_
  refine pw_aload_n (tk tkX8_inserts 2 rfl) rfl ?_
  refine g8_s (tk tkX8_inserts 3 rfl) fkX8_7 ?_
  refine pw_iconst (v := 0) (tk tkX8_inserts 4 rfl) (by decide) ?_
  refine pw_iload_n (tk tkX8_inserts 5 rfl) rfl ?_
  refine pw_iadd (tk tkX8_inserts 6 rfl) ?_
  refine al_s_e (e := r) (tk tkX8_inserts 7 rfl) (Int32.zero_add _) (by first | decide | omega) ?_
  refine pw_iconst (v := 1) (tk tkX8_inserts 8 rfl) (by decide) ?_
  refine pw_icmp_ne (tgt := 18) (tk tkX8_inserts 9 rfl) (by decide) (fun c13 => ?_) (fun c13 => ?_)
  · refine pw_aload_n (tk tkX8_inserts 12 rfl) rfl ?_
    refine g8_s (tk tkX8_inserts 13 rfl) fkX8_7 ?_
    refine pw_iload_n (tk tkX8_inserts 14 rfl) rfl ?_
    refine pw_iconst (v := 0) (tk tkX8_inserts 15 rfl) (by decide) ?_
    refine pw_cS (ct_X8_of _ r 0) okX8_of (tk tkX8_inserts 16 rfl) mkX8_49 stX8_of rfl rfl (by decide) (by decide) (Nat.le_of_ble_eq_true rfl) ?_
    refine pw_iload_n (tk tkX8_inserts 17 rfl) rfl ?_
    refine as_s_e (e := 6 + 3 * r + 0) (tk tkX8_inserts 18 rfl) rfl (by first | decide | omega) ?_
    refine pw_aload_n (tk tkX8_inserts 19 rfl) rfl ?_
    refine g8_s (tk tkX8_inserts 20 rfl) fkX8_7 ?_
    refine pw_iload_n (tk tkX8_inserts 21 rfl) rfl ?_
    refine pw_iconst (v := 1) (tk tkX8_inserts 22 rfl) (by decide) ?_
    refine pw_cS (ct_X8_of _ r 1) okX8_of (tk tkX8_inserts 23 rfl) mkX8_49 stX8_of rfl rfl (by decide) (by decide) (Nat.le_of_ble_eq_true rfl) ?_
    refine pw_iload_n (tk tkX8_inserts 24 rfl) rfl ?_
    refine as_s_e (e := 6 + 3 * r + 1) (tk tkX8_inserts 25 rfl) rfl (by first | decide | omega) ?_
    refine pw_aload_n (tk tkX8_inserts 26 rfl) rfl ?_
    refine g8_s (tk tkX8_inserts 27 rfl) fkX8_7 ?_
    refine pw_iload_n (tk tkX8_inserts 28 rfl) rfl ?_
    refine pw_iconst (v := 2) (tk tkX8_inserts 29 rfl) (by decide) ?_
    refine pw_cS (ct_X8_of _ r 2) okX8_of (tk tkX8_inserts 30 rfl) mkX8_49 stX8_of rfl rfl (by decide) (by decide) (Nat.le_of_ble_eq_true rfl) ?_
    refine pw_iload (tk tkX8_inserts 31 rfl) rfl ?_
    refine as_s_e (e := 6 + 3 * r + 2) (tk tkX8_inserts 32 rfl) rfl (by first | decide | omega) ?_
    refine pw_aload_n (tk tkX8_inserts 33 rfl) rfl ?_
    refine pw_iconst (v := 0) (tk tkX8_inserts 34 rfl) (by decide) ?_
    refine pw_iload_n (tk tkX8_inserts 35 rfl) rfl ?_
    refine pw_iconst (v := 0) (tk tkX8_inserts 36 rfl) (by decide) ?_
    refine pw_iconst (v := 0) (tk tkX8_inserts 37 rfl) (by decide) ?_
    refine pw_callV (ct_X8_states (uM1 (uM1 (uM1 (xPA x) (upd (mS x.2.1) (6 + 3 * r + 0) a)) (upd (upd (mS x.2.1) (6 + 3 * r + 0) a) (6 + 3 * r + 1) b)) (upd (upd (upd (mS x.2.1) (6 + 3 * r + 0) a) (6 + 3 * r + 1) b) (6 + 3 * r + 2) c)) u hv1 0 r 0 0 hr (by decide)) okX8_states (tk tkX8_inserts 38 rfl) mkX8_90 imX8_states seX8_states (hp_ot _ 11) rfl rfl rfl (by decide) (by decide) (Nat.le_of_ble_eq_true rfl) (fun r h2 q => ?_) (fun E h2 q => by obtain ⟨y, e1, e2, e3, e4, e5, e6, ho⟩ := q; cases ho)
    have q0 := q
    obtain ⟨y, e1, e2, e3, e4, e5, e6, ho⟩ := q
    cases ho
    have eR : insR u (mS x.2.1) r a b c = hapT u 6 (mS (uM1 (uM1 (uM1 (xPA x) (upd (mS x.2.1) (6 + 3 * r + 0) a)) (upd (upd (mS x.2.1) (6 + 3 * r + 0) a) (6 + 3 * r + 1) b)) (upd (upd (upd (mS x.2.1) (6 + 3 * r + 0) a) (6 + 3 * r + 1) b) (6 + 3 * r + 2) c)).2.1, 0, -1, 0) 0 r 0 0 0 := if_neg c13
    refine pw_ireturn (tk tkX8_inserts 39 rfl) rfl (by decide) (nar_bI _) ?_
    rw [eR]
    exact stP.of q0 f0
  · refine pw_iconst (v := 0) (tk tkX8_inserts 10 rfl) (by decide) ?_
    refine pw_ireturn (tk tkX8_inserts 11 rfl) rfl (by decide) (by first | rfl | exact nar_bI _) ?_
    have eR : insR u (mS x.2.1) r a b c = (mS x.2.1, 0, -1, 1) := if_pos c13
    rw [eR]
    exact ⟨_, rfl, (FR.rf 0 (xPA x)).fa, fun _ _ => rfl, rfl, fun w => absurd rfl w⟩
set_option maxRecDepth 100000 in
set_option maxHeartbeats 4000000 in
theorem ct_X8_updates (x : XW) (u : Nat) (hv : VS u (mS x.2.1)) (r c : Nat) (v : Int32) (hr : r < 6) (hc : c < 3) : CT MX8_updates 6 0 [.ref 171, .int (nI r), .int (nI c), .int v] (hp x) (stP x (updR u (mS x.2.1) r c v) True) := by
  refine ct_of (by decide +kernel) (by decide) rfl (k := 0) (ls := [some (.ref 171), some (.int (nI r)), some (.int (nI c)), some (.int v)]) rfl (Nat.le_of_ble_eq_true rfl) ?_
  have f0 : FR 0 (xPA x) (uM7 (uM7 (uM7 (xPA x) (upd (mF x.2.1) 12 0)) (upd (upd (mF x.2.1) 12 0) 11 (-1))) (upd (upd (upd (mF x.2.1) 12 0) 11 (-1)) 13 0)) := ((FR.f (xPA x) 12 0 (by omega)).tr (FR.f _ 11 (-1) (by omega))).tr (FR.f _ 13 0 (by omega))
  have f1 : FR 0 (xPA x) (uM7 (uM7 (uM7 (xPA x) (upd (mF x.2.1) 12 0)) (upd (upd (mF x.2.1) 12 0) 11 (-1))) (upd (upd (upd (mF x.2.1) 12 0) 11 (-1)) 13 1)) := ((FR.f (xPA x) 12 0 (by omega)).tr (FR.f _ 11 (-1) (by omega))).tr (FR.f _ 13 1 (by omega))
  refine pw_aload_n (tk tkX8_updates 0 rfl) rfl ?_
  refine pw_cV0 (ct_X8_putAside x) okX8_putAside (tk tkX8_updates 1 rfl) mkX8_39 imX8_putAside seX8_putAside (hp_ot _ 11) rfl rfl rfl (by decide) (by decide) (Nat.le_of_ble_eq_true rfl) ?_
  refine pw_aload_n (tk tkX8_updates 2 rfl) rfl ?_
  refine pw_iconst (v := 0) (tk tkX8_updates 3 rfl) (by decide) ?_
  refine p8_happened (tk tkX8_updates 4 rfl) fkX8_52 ?_
  refine pw_aload_n (tk tkX8_updates 5 rfl) rfl ?_
  refine pw_iconst (v := (-1)) (tk tkX8_updates 6 rfl) (by decide) ?_
  refine p8_deepest (tk tkX8_updates 7 rfl) fkX8_65 ?_
  refine pw_aload_n (tk tkX8_updates 8 rfl) rfl ?_
  refine pw_aload_n (tk tkX8_updates 9 rfl) rfl ?_
  refine g8_s (tk tkX8_updates 10 rfl) fkX8_7 ?_
  refine pw_iconst (v := 0) (tk tkX8_updates 11 rfl) (by decide) ?_
  refine pw_iload_n (tk tkX8_updates 12 rfl) rfl ?_
  refine pw_iadd (tk tkX8_updates 13 rfl) ?_
  refine al_s_e (e := r) (tk tkX8_updates 14 rfl) (Int32.zero_add _) (by first | decide | omega) ?_
  refine pw_if_ne (tgt := 30) (tk tkX8_updates 15 rfl) (by decide) (fun c23 => ?_) (fun c23 => ?_)
  · refine pw_iconst (v := 0) (tk tkX8_updates 18 rfl) (by decide) ?_
    refine p8_refused (tk tkX8_updates 19 rfl) fkX8_59 ?_
    refine pw_aload_n (tk tkX8_updates 20 rfl) rfl ?_
    refine g8_refused (tk tkX8_updates 21 rfl) fkX8_59 ?_
    refine pw_if_ne (tgt := 70) (tk tkX8_updates 22 rfl) (by decide) (fun c38 => absurd rfl c38) (fun c38 => ?_)
    refine pw_aload_n (tk tkX8_updates 23 rfl) rfl ?_
    refine g8_s (tk tkX8_updates 24 rfl) fkX8_7 ?_
    refine pw_iload_n (tk tkX8_updates 25 rfl) rfl ?_
    refine pw_iload_n (tk tkX8_updates 26 rfl) rfl ?_
    refine pw_cS (ct_X8_of _ r c) okX8_of (tk tkX8_updates 27 rfl) mkX8_49 stX8_of rfl rfl (by decide) (by decide) (Nat.le_of_ble_eq_true rfl) ?_
    refine al_s_e (e := 6 + 3 * r + c) (tk tkX8_updates 28 rfl) rfl (by first | decide | omega) ?_
    refine pw_iload_n (tk tkX8_updates 29 rfl) rfl ?_
    refine pw_icmp_eq (tgt := 66) (tk tkX8_updates 30 rfl) (by decide) (fun c52 => ?_) (fun c52 => ?_)
    · refine pw_iconst (v := 1) (tk tkX8_updates 38 rfl) (by decide) ?_
      refine pw_goto (tgt := 71) (tk tkX8_updates 39 rfl) (by decide) ?_
      refine pw_ireturn (tk tkX8_updates 41 rfl) rfl (by decide) (by first | rfl | exact nar_bI _) ?_
      have eR : updR u (mS x.2.1) r c v = (mS x.2.1, 0, -1, 0) := (if_neg c23).trans (if_pos c52)
      rw [eR]
      exact ⟨_, rfl, f0.fa, fun j _ => by show mS x.2.1 j = upd (mS x.2.1) 98 (mS x.2.1 98 + 0) j; rw [Int32.add_zero]; unfold upd; by_cases k : j = 98 <;> simp [k], rfl, fun _ => ⟨rfl, rfl, rfl⟩⟩
    · refine pw_aload_n (tk tkX8_updates 31 rfl) rfl ?_
      refine pw_iconst (v := 1) (tk tkX8_updates 32 rfl) (by decide) ?_
      refine pw_iload_n (tk tkX8_updates 33 rfl) rfl ?_
      refine pw_iload_n (tk tkX8_updates 34 rfl) rfl ?_
      refine pw_iload_n (tk tkX8_updates 35 rfl) rfl ?_
      refine pw_callV (ct_X8_states (uM7 (uM7 (uM7 (xPA x) (upd (mF x.2.1) 12 0)) (upd (upd (mF x.2.1) 12 0) 11 (-1))) (upd (upd (upd (mF x.2.1) 12 0) 11 (-1)) 13 0)) u hv 1 r c v hr hc) okX8_states (tk tkX8_updates 36 rfl) mkX8_90 imX8_states seX8_states (hp_ot _ 11) rfl rfl rfl (by decide) (by decide) (Nat.le_of_ble_eq_true rfl) (fun r h2 q => ?_) (fun E h2 q => by obtain ⟨y, e1, e2, e3, e4, e5, e6, ho⟩ := q; cases ho)
      have q0 := q
      obtain ⟨y, e1, e2, e3, e4, e5, e6, ho⟩ := q
      cases ho
      have eR : updR u (mS x.2.1) r c v = hapT u 6 (mS (uM7 (uM7 (uM7 (xPA x) (upd (mF x.2.1) 12 0)) (upd (upd (mF x.2.1) 12 0) 11 (-1))) (upd (upd (upd (mF x.2.1) 12 0) 11 (-1)) 13 0)).2.1, 0, -1, 0) 1 r c v 0 := (if_neg c23).trans (if_neg c52)
      refine pw_ifb (tgt := 70) (tk tkX8_updates 37 rfl) (by decide) (fun c63 => ?_) (fun c63 => ?_)
      · refine pw_iconst (v := 0) (tk tkX8_updates 40 rfl) (by decide) ?_
        refine pw_ireturn (tk tkX8_updates 41 rfl) rfl (by decide) (by first | rfl | exact nar_bI _) ?_
        rw [eR]
        rw [c63] at q0
        exact stP.of q0 f0
      · refine pw_iconst (v := 1) (tk tkX8_updates 38 rfl) (by decide) ?_
        refine pw_goto (tgt := 71) (tk tkX8_updates 39 rfl) (by decide) ?_
        refine pw_ireturn (tk tkX8_updates 41 rfl) rfl (by decide) (by first | rfl | exact nar_bI _) ?_
        rw [eR]
        rw [c63] at q0
        exact stP.of q0 f0
  · refine pw_iconst (v := 1) (tk tkX8_updates 16 rfl) (by decide) ?_
    refine pw_goto (tgt := 31) (tk tkX8_updates 17 rfl) (by decide) ?_
    refine p8_refused (tk tkX8_updates 19 rfl) fkX8_59 ?_
    refine pw_aload_n (tk tkX8_updates 20 rfl) rfl ?_
    refine g8_refused (tk tkX8_updates 21 rfl) fkX8_59 ?_
    refine pw_if_ne (tgt := 70) (tk tkX8_updates 22 rfl) (by decide) (fun c38 => ?_) (fun c38 => absurd (show (1 : Int32) = 0 from c38) (by decide))
    refine pw_iconst (v := 0) (tk tkX8_updates 40 rfl) (by decide) ?_
    refine pw_ireturn (tk tkX8_updates 41 rfl) rfl (by decide) (by first | rfl | exact nar_bI _) ?_
    have eR : updR u (mS x.2.1) r c v = (mS x.2.1, 0, -1, 1) := if_pos c23
    rw [eR]
    exact ⟨_, rfl, f1.fa, fun _ _ => rfl, rfl, fun _ => ⟨rfl, rfl, rfl⟩⟩
set_option maxRecDepth 100000 in
set_option maxHeartbeats 4000000 in
theorem ct_X8_removes (x : XW) (u : Nat) (hv : VS u (mS x.2.1)) (r : Nat) (hr : r < 6) : CT MX8_removes 6 0 [.ref 171, .int (nI r)] (hp x) (stP x (remR u (mS x.2.1) r) ((remR u (mS x.2.1) r).2.2.2 ≠ 1)) := by
  refine ct_of (by decide +kernel) (by decide) rfl (k := 0) (ls := [some (.ref 171), some (.int (nI r))]) rfl (Nat.le_of_ble_eq_true rfl) ?_
  refine pw_aload_n (tk tkX8_removes 0 rfl) rfl ?_
  refine pw_cV0 (ct_X8_putAside x) okX8_putAside (tk tkX8_removes 1 rfl) mkX8_39 imX8_putAside seX8_putAside (hp_ot _ 11) rfl rfl rfl (by decide) (by decide) (Nat.le_of_ble_eq_true rfl) ?_
  refine pw_aload_n (tk tkX8_removes 2 rfl) rfl ?_
  refine g8_s (tk tkX8_removes 3 rfl) fkX8_7 ?_
  refine pw_iconst (v := 0) (tk tkX8_removes 4 rfl) (by decide) ?_
  refine pw_iload_n (tk tkX8_removes 5 rfl) rfl ?_
  refine pw_iadd (tk tkX8_removes 6 rfl) ?_
  refine al_s_e (e := r) (tk tkX8_removes 7 rfl) (Int32.zero_add _) (by first | decide | omega) ?_
  refine pw_iconst (v := 1) (tk tkX8_removes 8 rfl) (by decide) ?_
  refine pw_icmp_ne (tgt := 31) (tk tkX8_removes 9 rfl) (by decide) (fun c13 => ?_) (fun c13 => ?_)
  · refine pw_iconst (v := 0) (tk tkX8_removes 19 rfl) (by decide) ?_
    refine pw_ireturn (tk tkX8_removes 20 rfl) rfl (by decide) (by first | rfl | exact nar_bI _) ?_
    have eR : remR u (mS x.2.1) r = (mS x.2.1, 0, -1, 1) := if_neg c13
    rw [eR]
    exact ⟨_, rfl, (FR.rf 0 (xPA x)).fa, fun _ _ => rfl, rfl, fun w => absurd rfl w⟩
  · refine pw_aload_n (tk tkX8_removes 10 rfl) rfl ?_
    refine pw_iconst (v := 2) (tk tkX8_removes 11 rfl) (by decide) ?_
    refine pw_iload_n (tk tkX8_removes 12 rfl) rfl ?_
    refine pw_iconst (v := 0) (tk tkX8_removes 13 rfl) (by decide) ?_
    refine pw_iconst (v := 0) (tk tkX8_removes 14 rfl) (by decide) ?_
    refine pw_callV (ct_X8_states (xPA x) u hv 2 r 0 0 hr (by decide)) okX8_states (tk tkX8_removes 15 rfl) mkX8_90 imX8_states seX8_states (hp_ot _ 11) rfl rfl rfl (by decide) (by decide) (Nat.le_of_ble_eq_true rfl) (fun r h2 q => ?_) (fun E h2 q => by obtain ⟨y, e1, e2, e3, e4, e5, e6, ho⟩ := q; cases ho)
    have q0 := q
    obtain ⟨y, e1, e2, e3, e4, e5, e6, ho⟩ := q
    cases ho
    have eR : remR u (mS x.2.1) r = hapT u 6 (mS (xPA x).2.1, 0, -1, 0) 2 r 0 0 0 := if_pos c13
    refine pw_ifb (tgt := 31) (tk tkX8_removes 16 rfl) (by decide) (fun c24 => ?_) (fun c24 => ?_)
    · refine pw_iconst (v := 0) (tk tkX8_removes 19 rfl) (by decide) ?_
      refine pw_ireturn (tk tkX8_removes 20 rfl) rfl (by decide) (by first | rfl | exact nar_bI _) ?_
      rw [eR]
      rw [c24] at q0
      exact stP.of q0 (FR.rf 0 (xPA x))
    · refine pw_iconst (v := 1) (tk tkX8_removes 17 rfl) (by decide) ?_
      refine pw_goto (tgt := 32) (tk tkX8_removes 18 rfl) (by decide) ?_
      refine pw_ireturn (tk tkX8_removes 20 rfl) rfl (by decide) (by first | rfl | exact nar_bI _) ?_
      rw [eR]
      rw [c24] at q0
      exact stP.of q0 (FR.rf 0 (xPA x))
end
section
/-- the abstract machine: the numbers; how many are recorded and they; kept and slots; the text's length and signs -/
abbrev AM : Type := (Nat → Int32) × (Nat × (Nat → Nat → Int32)) × ((Nat → Bool) × (Nat → Nat → Int32)) × (Nat × (Nat → Int32))
abbrev aS (a : AM) : Nat → Int32 := a.1
abbrev aK (a : AM) : Nat := a.2.1.1
abbrev aH (a : AM) : Nat → Nat → Int32 := a.2.1.2
abbrev aB (a : AM) : Nat → Bool := a.2.2.1.1
abbrev aL (a : AM) : Nat → Nat → Int32 := a.2.2.1.2
abbrev aN (a : AM) : Nat := a.2.2.2.1
abbrev aT (a : AM) : Nat → Int32 := a.2.2.2.2
def aOf (m : MW) : AM := (mS m, ((mF m 4).toNatClampNeg, fun i j => mHi m (132 * i + j)), ((fun i => decide ((mF m 6 >>> (nI i &&& 31)) &&& 1 = 1)), fun i j => mSl m (132 * i + j)), ((mF m 8).toNatClampNeg, mTx m))
def AE (a b : AM) : Prop := E132 (aS a) (aS b) ∧ aK a = aK b ∧ (∀ i, i < aK a → E132 (aH a i) (aH b i)) ∧ (∀ i, i < 2 → aB a i = aB b i) ∧ (∀ i, i < 2 → aB a i = true → E132 (aL a i) (aL b i)) ∧ aN a = aN b ∧ ∀ i, i < aN a → aT a i = aT b i
theorem AE.rf (a : AM) : AE a a := ⟨fun _ _ => rfl, rfl, fun _ _ _ _ => rfl, fun _ _ => rfl, fun _ _ _ _ _ => rfl, rfl, fun _ _ => rfl⟩
def uN (s : Nat → Int32) : Nat := (s 25).toNatClampNeg
def VM (m : MW) : Prop := mF m 4 = nI (aK (aOf m)) ∧ aK (aOf m) ≤ 6 ∧ mF m 8 = nI (aN (aOf m)) ∧ aN (aOf m) ≤ 80 ∧ (∃ k, k < 4 ∧ mF m 6 = nI k) ∧ VS (uN (mS m)) (mS m)
/-- the end of a call of the model: thrown, the answer, the new machine -/
abbrev RS3 : Type := Int32 × Int32 × AM
def MOQ (x : XW) (R : RS3) : Out → Hp → Prop := fun o h2 => ∃ y, h2 = hp y ∧ y.1 = x.1 ∧ y.2.2 = x.2.2 ∧ mF y.2.1 0 = R.1 ∧ o = .inl (some (.int R.2.1)) ∧ VM y.2.1 ∧ AE R.2.2 (aOf y.2.1)
theorem ne_f {b : Bool} (h : b = true) : ¬ b = false := fun e => Bool.noConfusion (h.symm.trans e)
theorem inR_nI {v hi : Int32} {n : Nat} (hM : hi.toInt = n) (h : inR v 0 hi = true) : ∃ r, r ≤ n ∧ v = nI r := by
  unfold inR at h
  rw [Bool.and_eq_true] at h
  exact nI_of2 hM (of_decide_eq_true h.1) (Int32.not_lt.mp (of_decide_eq_true h.2))
theorem inR_row {v : Int32} (h : inR v 0 5 = true) : ∃ r, r < 6 ∧ v = nI r ∧ v.toNatClampNeg = r := by
  obtain ⟨r, h1, h2⟩ := inR_nI (n := 5) (by decide) h
  exact ⟨r, by omega, h2, by rw [h2, nI_clamp (by omega)]⟩
theorem inR_col {v : Int32} (h : inR v 0 2 = true) : ∃ r, r < 3 ∧ v = nI r ∧ v.toNatClampNeg = r := by
  obtain ⟨r, h1, h2⟩ := inR_nI (n := 2) (by decide) h
  exact ⟨r, by omega, h2, by rw [h2, nI_clamp (by omega)]⟩
theorem inR_lt {v w : Int32} {u : Nat} (hw : w = nI u) (hu : u < 2 ^ 30) (h : inR v 0 (w - 1) = true) : ∃ r, r < u ∧ v = nI r ∧ v.toNatClampNeg = r := by
  cases u with
  | zero =>
    unfold inR at h
    rw [Bool.and_eq_true, hw] at h
    exact absurd (of_decide_eq_true h.2) (fun q => (of_decide_eq_true h.1 : ¬ v < 0) (Int32.lt_of_le_of_lt (Int32.not_lt.mp q) (by decide)))
  | succ u =>
    rw [hw, nI_pred] at h
    obtain ⟨r, h1, h2⟩ := inR_nI (n := u) (nI_toInt (by omega)) h
    exact ⟨r, by omega, h2, by rw [h2, nI_clamp (by omega)]⟩
theorem VM.u {m : MW} (h : VM m) : mS m 25 = nI (uN (mS m)) ∧ uN (mS m) ≤ 8 := ⟨h.2.2.2.2.2.2.1, h.2.2.2.2.2.1⟩
theorem VM.l {m : MW} (h : VM m) : ∃ l, l ≤ 16 ∧ mS m 99 = nI l := h.2.2.2.2.2.2.2.2.1
theorem of_ix {a b : Int32} {r c : Nat} (h1 : a = nI r) (h2 : b = nI c) : 6 + 3 * a + b = nI (6 + 3 * r + c) := by
  rw [h1, h2]; simp only [lit_nI, nI_add, pk_mul]
set_option maxRecDepth 100000 in
set_option maxHeartbeats 4000000 in
theorem ct_X8_ofW (h : Hp) (r k : Int32) : CT MX8_of 0 0 [.int r, .int k] h (Det (.inl (some (.int (6 + 3 * r + k)))) h) := by
  refine ct_of (by decide +kernel) (by decide) rfl (k := 0) (ls := [some (.int r), some (.int k)]) rfl (Nat.le_of_ble_eq_true rfl) ?_
  refine pw_bipush (v := 6) (tk tkX8_of 0 rfl) (by decide) ?_
  refine pw_iconst (v := 3) (tk tkX8_of 1 rfl) (by decide) ?_
  refine pw_iload_n (tk tkX8_of 2 rfl) rfl ?_
  refine pw_imul (tk tkX8_of 3 rfl) ?_
  refine pw_iadd (tk tkX8_of 4 rfl) ?_
  refine pw_iload_n (tk tkX8_of 5 rfl) rfl ?_
  refine pw_iadd (tk tkX8_of 6 rfl) ?_
  exact pw_ireturn (tk tkX8_of 7 rfl) rfl (by decide) rfl ⟨rfl, rfl⟩
theorem ct_X8_atW (x : XW) {v : Int32} (r k : Nat) (hv : v = nI r) (hr : 26 + 9 * r + k < 132) : CT MX8_at 0 0 [.ref 171, .int v, .int (nI k)] (hp x) (Det (.inl (some (.int (mS x.2.1 (26 + 9 * r + k))))) (hp x)) := by subst hv; exact ct_X8_at x r k hr
def shasRow (a : AM) (r : Int32) : RS3 := if inR r 0 5 = false then (1, 0, a) else if aS a r.toNatClampNeg = 1 then (0, 1, a) else (0, 0, a)
set_option maxRecDepth 100000 in
set_option maxHeartbeats 4000000 in
theorem ct_X8_hasRow (x : XW) (hx : VM x.2.1) (r : Int32) : CT MX8_hasRow 3 0 [.ref 171, .int r] (hp x) (MOQ x (shasRow (aOf x.2.1) r)) := by
  refine ct_of (by decide +kernel) (by decide) rfl (k := 0) (ls := [some (.ref 171), some (.int r)]) rfl (Nat.le_of_ble_eq_true rfl) ?_
  obtain ⟨hu, hu8⟩ := hx.u
  obtain ⟨l, hl, el⟩ := hx.l
  refine pw_aload_n (tk tkX8_hasRow 0 rfl) rfl ?_
  refine pw_iload_n (tk tkX8_hasRow 1 rfl) rfl ?_
  refine pw_cS (ct_X8_isRow _ _) okX8_isRow (tk tkX8_hasRow 2 rfl) mkX8_106 stX8_isRow rfl rfl (by decide) (by decide) (Nat.le_of_ble_eq_true rfl) ?_
  refine pw_ifb (tgt := 12) (tk tkX8_hasRow 3 rfl) (by decide) (fun c5 => ?_) (fun c5 => ?_)
  · refine pw_iconst (v := 1) (tk tkX8_hasRow 6 rfl) (by decide) ?_
    refine pw_cV (ct_X8_holds x _) okX8_holds (tk tkX8_hasRow 7 rfl) mkX8_97 imX8_holds seX8_holds (hp_ot _ 11) rfl rfl rfl (by decide) (by decide) (Nat.le_of_ble_eq_true rfl) ?_
    refine pw_ifb (tgt := 35) (tk tkX8_hasRow 8 rfl) (by decide) (fun c16 => ?_) (fun c16 => absurd c16 (by decide))
    refine pw_iconst (v := 0) (tk tkX8_hasRow 19 rfl) (by decide) ?_
    refine pw_ireturn (tk tkX8_hasRow 20 rfl) rfl (by decide) (by first | rfl | exact nar_bI _) ?_
    have e : shasRow (aOf x.2.1) r = (1, 0, aOf x.2.1) := (if_pos c5)
    rw [e]
    exact ⟨_, rfl, rfl, rfl, rfl, rfl, hx, AE.rf _⟩
  · refine pw_iconst (v := 0) (tk tkX8_hasRow 4 rfl) (by decide) ?_
    refine pw_goto (tgt := 13) (tk tkX8_hasRow 5 rfl) (by decide) ?_
    refine pw_cV (ct_X8_holds x _) okX8_holds (tk tkX8_hasRow 7 rfl) mkX8_97 imX8_holds seX8_holds (hp_ot _ 11) rfl rfl rfl (by decide) (by decide) (Nat.le_of_ble_eq_true rfl) ?_
    refine pw_ifb (tgt := 35) (tk tkX8_hasRow 8 rfl) (by decide) (fun c16 => absurd c16 (by decide)) (fun c16 => ?_)
    obtain ⟨r1, hr, er, er2⟩ := inR_row c5
    refine pw_aload_n (tk tkX8_hasRow 9 rfl) rfl ?_
    refine g8_s (tk tkX8_hasRow 10 rfl) fkX8_7 ?_
    refine pw_iconst (v := 0) (tk tkX8_hasRow 11 rfl) (by decide) ?_
    refine pw_iload_n (tk tkX8_hasRow 12 rfl) rfl ?_
    refine pw_iadd (tk tkX8_hasRow 13 rfl) ?_
    refine al_s_e (e := r1) (tk tkX8_hasRow 14 rfl) ((Int32.zero_add _).trans er) (by first | decide | omega) ?_
    refine pw_iconst (v := 1) (tk tkX8_hasRow 15 rfl) (by decide) ?_
    refine pw_icmp_ne (tgt := 35) (tk tkX8_hasRow 16 rfl) (by decide) (fun c28 => ?_) (fun c28 => ?_)
    · refine pw_iconst (v := 0) (tk tkX8_hasRow 19 rfl) (by decide) ?_
      refine pw_ireturn (tk tkX8_hasRow 20 rfl) rfl (by decide) (by first | rfl | exact nar_bI _) ?_
      have e : shasRow (aOf x.2.1) r = (0, 0, aOf x.2.1) := (if_neg (ne_f c5)).trans (if_neg (by rw [er2]; exact c28))
      rw [e]
      exact ⟨_, rfl, rfl, rfl, rfl, rfl, hx, AE.rf _⟩
    · refine pw_iconst (v := 1) (tk tkX8_hasRow 17 rfl) (by decide) ?_
      refine pw_goto (tgt := 36) (tk tkX8_hasRow 18 rfl) (by decide) ?_
      refine pw_ireturn (tk tkX8_hasRow 20 rfl) rfl (by decide) (by first | rfl | exact nar_bI _) ?_
      have e : shasRow (aOf x.2.1) r = (0, 1, aOf x.2.1) := (if_neg (ne_f c5)).trans (if_pos (by rw [er2]; exact c28))
      rw [e]
      exact ⟨_, rfl, rfl, rfl, rfl, rfl, hx, AE.rf _⟩
def svalueAt (a : AM) (r c : Int32) : RS3 := if inR r 0 5 = false then (1, 0, a) else if inR c 0 2 = false then (1, 0, a) else if aS a r.toNatClampNeg = 0 then (2, 0, a) else (0, aS a (6 + 3 * r.toNatClampNeg + c.toNatClampNeg), a)
set_option maxRecDepth 100000 in
set_option maxHeartbeats 4000000 in
theorem ct_X8_valueAt (x : XW) (hx : VM x.2.1) (r c : Int32) : CT MX8_valueAt 3 0 [.ref 171, .int r, .int c] (hp x) (MOQ x (svalueAt (aOf x.2.1) r c)) := by
  refine ct_of (by decide +kernel) (by decide) rfl (k := 0) (ls := [some (.ref 171), some (.int r), some (.int c)]) rfl (Nat.le_of_ble_eq_true rfl) ?_
  obtain ⟨hu, hu8⟩ := hx.u
  obtain ⟨l, hl, el⟩ := hx.l
  refine pw_aload_n (tk tkX8_valueAt 0 rfl) rfl ?_
  refine pw_iload_n (tk tkX8_valueAt 1 rfl) rfl ?_
  refine pw_cS (ct_X8_isRow _ _) okX8_isRow (tk tkX8_valueAt 2 rfl) mkX8_106 stX8_isRow rfl rfl (by decide) (by decide) (Nat.le_of_ble_eq_true rfl) ?_
  refine pw_ifb (tgt := 15) (tk tkX8_valueAt 3 rfl) (by decide) (fun c5 => ?_) (fun c5 => ?_)
  · refine pw_iconst (v := 1) (tk tkX8_valueAt 7 rfl) (by decide) ?_
    refine pw_goto (tgt := 35) (tk tkX8_valueAt 8 rfl) (by decide) ?_
    refine pw_cV (ct_X8_holds x _) okX8_holds (tk tkX8_valueAt 19 rfl) mkX8_97 imX8_holds seX8_holds (hp_ot _ 11) rfl rfl rfl (by decide) (by decide) (Nat.le_of_ble_eq_true rfl) ?_
    refine pw_ifb (tgt := 54) (tk tkX8_valueAt 20 rfl) (by decide) (fun c38 => ?_) (fun c38 => absurd c38 (by decide))
    refine pw_iconst (v := 0) (tk tkX8_valueAt 28 rfl) (by decide) ?_
    refine pw_ireturn (tk tkX8_valueAt 29 rfl) rfl (by decide) rfl ?_
    have e : svalueAt (aOf x.2.1) r c = (1, 0, aOf x.2.1) := (if_pos c5)
    rw [e]
    exact ⟨_, rfl, rfl, rfl, rfl, rfl, hx, AE.rf _⟩
  · refine pw_iload_n (tk tkX8_valueAt 4 rfl) rfl ?_
    refine pw_cS (ct_X8_isColumn _ _) okX8_isColumn (tk tkX8_valueAt 5 rfl) mkX8_94 stX8_isColumn rfl rfl (by decide) (by decide) (Nat.le_of_ble_eq_true rfl) ?_
    refine pw_ifnb (tgt := 19) (tk tkX8_valueAt 6 rfl) (by decide) (fun c12 => ?_) (fun c12 => ?_)
    · obtain ⟨r1, hr, er, er2⟩ := inR_row c5
      obtain ⟨c1, hc, ec, ec2⟩ := inR_col c12
      refine pw_aload_n (tk tkX8_valueAt 9 rfl) rfl ?_
      refine g8_s (tk tkX8_valueAt 10 rfl) fkX8_7 ?_
      refine pw_iconst (v := 0) (tk tkX8_valueAt 11 rfl) (by decide) ?_
      refine pw_iload_n (tk tkX8_valueAt 12 rfl) rfl ?_
      refine pw_iadd (tk tkX8_valueAt 13 rfl) ?_
      refine al_s_e (e := r1) (tk tkX8_valueAt 14 rfl) ((Int32.zero_add _).trans er) (by first | decide | omega) ?_
      refine pw_if_ne (tgt := 34) (tk tkX8_valueAt 15 rfl) (by decide) (fun c27 => ?_) (fun c27 => ?_)
      · refine pw_iconst (v := 0) (tk tkX8_valueAt 18 rfl) (by decide) ?_
        refine pw_cV (ct_X8_holds x _) okX8_holds (tk tkX8_valueAt 19 rfl) mkX8_97 imX8_holds seX8_holds (hp_ot _ 11) rfl rfl rfl (by decide) (by decide) (Nat.le_of_ble_eq_true rfl) ?_
        refine pw_ifb (tgt := 54) (tk tkX8_valueAt 20 rfl) (by decide) (fun c38 => absurd c38 (by decide)) (fun c38 => ?_)
        refine pw_aload_n (tk tkX8_valueAt 21 rfl) rfl ?_
        refine g8_s (tk tkX8_valueAt 22 rfl) fkX8_7 ?_
        refine pw_iload_n (tk tkX8_valueAt 23 rfl) rfl ?_
        refine pw_iload_n (tk tkX8_valueAt 24 rfl) rfl ?_
        refine pw_cS (ct_X8_ofW _ _ _) okX8_of (tk tkX8_valueAt 25 rfl) mkX8_49 stX8_of rfl rfl (by decide) (by decide) (Nat.le_of_ble_eq_true rfl) ?_
        refine al_s_e (e := 6 + 3 * r1 + c1) (tk tkX8_valueAt 26 rfl) (of_ix er ec) (by first | decide | omega) ?_
        refine pw_goto (tgt := 55) (tk tkX8_valueAt 27 rfl) (by decide) ?_
        refine pw_ireturn (tk tkX8_valueAt 29 rfl) rfl (by decide) rfl ?_
        have e : svalueAt (aOf x.2.1) r c = (0, mS x.2.1 (6 + 3 * r1 + c1), aOf x.2.1) := (if_neg (ne_f c5)).trans ((if_neg (ne_f c12)).trans ((if_neg (by rw [er2]; exact c27)).trans (by rw [er2, ec2]; rfl)))
        rw [e]
        exact ⟨_, rfl, rfl, rfl, rfl, rfl, hx, AE.rf _⟩
      · refine pw_iconst (v := 2) (tk tkX8_valueAt 16 rfl) (by decide) ?_
        refine pw_goto (tgt := 35) (tk tkX8_valueAt 17 rfl) (by decide) ?_
        refine pw_cV (ct_X8_holds x _) okX8_holds (tk tkX8_valueAt 19 rfl) mkX8_97 imX8_holds seX8_holds (hp_ot _ 11) rfl rfl rfl (by decide) (by decide) (Nat.le_of_ble_eq_true rfl) ?_
        refine pw_ifb (tgt := 54) (tk tkX8_valueAt 20 rfl) (by decide) (fun c38 => ?_) (fun c38 => absurd c38 (by decide))
        refine pw_iconst (v := 0) (tk tkX8_valueAt 28 rfl) (by decide) ?_
        refine pw_ireturn (tk tkX8_valueAt 29 rfl) rfl (by decide) rfl ?_
        have e : svalueAt (aOf x.2.1) r c = (2, 0, aOf x.2.1) := (if_neg (ne_f c5)).trans ((if_neg (ne_f c12)).trans (if_pos (by rw [er2]; exact c27)))
        rw [e]
        exact ⟨_, rfl, rfl, rfl, rfl, rfl, hx, AE.rf _⟩
    · refine pw_iconst (v := 1) (tk tkX8_valueAt 7 rfl) (by decide) ?_
      refine pw_goto (tgt := 35) (tk tkX8_valueAt 8 rfl) (by decide) ?_
      refine pw_cV (ct_X8_holds x _) okX8_holds (tk tkX8_valueAt 19 rfl) mkX8_97 imX8_holds seX8_holds (hp_ot _ 11) rfl rfl rfl (by decide) (by decide) (Nat.le_of_ble_eq_true rfl) ?_
      refine pw_ifb (tgt := 54) (tk tkX8_valueAt 20 rfl) (by decide) (fun c38 => ?_) (fun c38 => absurd c38 (by decide))
      refine pw_iconst (v := 0) (tk tkX8_valueAt 28 rfl) (by decide) ?_
      refine pw_ireturn (tk tkX8_valueAt 29 rfl) rfl (by decide) rfl ?_
      have e : svalueAt (aOf x.2.1) r c = (1, 0, aOf x.2.1) := ((if_neg (ne_f c5)).trans (if_pos c12))
      rw [e]
      exact ⟨_, rfl, rfl, rfl, rfl, rfl, hx, AE.rf _⟩
def sactionOf (a : AM) (r : Int32) : RS3 := if inR r 0 (aS a 25 - 1) = false then (1, 0, a) else (0, rN (aS a) r.toNatClampNeg 3, a)
set_option maxRecDepth 100000 in
set_option maxHeartbeats 4000000 in
theorem ct_X8_actionOf (x : XW) (hx : VM x.2.1) (r : Int32) : CT MX8_actionOf 3 0 [.ref 171, .int r] (hp x) (MOQ x (sactionOf (aOf x.2.1) r)) := by
  refine ct_of (by decide +kernel) (by decide) rfl (k := 0) (ls := [some (.ref 171), some (.int r)]) rfl (Nat.le_of_ble_eq_true rfl) ?_
  obtain ⟨hu, hu8⟩ := hx.u
  obtain ⟨l, hl, el⟩ := hx.l
  refine pw_aload_n (tk tkX8_actionOf 0 rfl) rfl ?_
  refine pw_aload_n (tk tkX8_actionOf 1 rfl) rfl ?_
  refine pw_iload_n (tk tkX8_actionOf 2 rfl) rfl ?_
  refine pw_cV (ct_X8_isRule x _) okX8_isRule (tk tkX8_actionOf 3 rfl) mkX8_103 imX8_isRule seX8_isRule (hp_ot _ 11) rfl rfl rfl (by decide) (by decide) (Nat.le_of_ble_eq_true rfl) ?_
  refine pw_ifb (tgt := 13) (tk tkX8_actionOf 4 rfl) (by decide) (fun c6 => ?_) (fun c6 => ?_)
  · refine pw_iconst (v := 1) (tk tkX8_actionOf 7 rfl) (by decide) ?_
    refine pw_cV (ct_X8_holds x _) okX8_holds (tk tkX8_actionOf 8 rfl) mkX8_97 imX8_holds seX8_holds (hp_ot _ 11) rfl rfl rfl (by decide) (by decide) (Nat.le_of_ble_eq_true rfl) ?_
    refine pw_ifb (tgt := 29) (tk tkX8_actionOf 9 rfl) (by decide) (fun c17 => ?_) (fun c17 => absurd c17 (by decide))
    refine pw_iconst (v := 0) (tk tkX8_actionOf 15 rfl) (by decide) ?_
    refine pw_ireturn (tk tkX8_actionOf 16 rfl) rfl (by decide) rfl ?_
    have e : sactionOf (aOf x.2.1) r = (1, 0, aOf x.2.1) := (if_pos c6)
    rw [e]
    exact ⟨_, rfl, rfl, rfl, rfl, rfl, hx, AE.rf _⟩
  · refine pw_iconst (v := 0) (tk tkX8_actionOf 5 rfl) (by decide) ?_
    refine pw_goto (tgt := 14) (tk tkX8_actionOf 6 rfl) (by decide) ?_
    refine pw_cV (ct_X8_holds x _) okX8_holds (tk tkX8_actionOf 8 rfl) mkX8_97 imX8_holds seX8_holds (hp_ot _ 11) rfl rfl rfl (by decide) (by decide) (Nat.le_of_ble_eq_true rfl) ?_
    refine pw_ifb (tgt := 29) (tk tkX8_actionOf 9 rfl) (by decide) (fun c17 => absurd c17 (by decide)) (fun c17 => ?_)
    obtain ⟨r1, hr, er, er2⟩ := inR_lt hu (by omega) c6
    refine pw_aload_n (tk tkX8_actionOf 10 rfl) rfl ?_
    refine pw_iload_n (tk tkX8_actionOf 11 rfl) rfl ?_
    refine pw_iconst (v := 3) (tk tkX8_actionOf 12 rfl) (by decide) ?_
    refine pw_cV (ct_X8_atW _ r1 3 er (by omega)) okX8_at (tk tkX8_actionOf 13 rfl) mkX8_45 imX8_at seX8_at (hp_ot _ 11) rfl rfl rfl (by decide) (by decide) (Nat.le_of_ble_eq_true rfl) ?_
    refine pw_goto (tgt := 30) (tk tkX8_actionOf 14 rfl) (by decide) ?_
    refine pw_ireturn (tk tkX8_actionOf 16 rfl) rfl (by decide) rfl ?_
    have e : sactionOf (aOf x.2.1) r = (0, mS x.2.1 (26 + 9 * r1 + 3), aOf x.2.1) := (if_neg (ne_f c6)).trans (by rw [er2]; rfl)
    rw [e]
    exact ⟨_, rfl, rfl, rfl, rfl, rfl, hx, AE.rf _⟩
def sactsOf (a : AM) (r : Int32) : RS3 := if inR r 0 (aS a 25 - 1) = false then (1, 0, a) else (0, rN (aS a) r.toNatClampNeg 8, a)
set_option maxRecDepth 100000 in
set_option maxHeartbeats 4000000 in
theorem ct_X8_actsOf (x : XW) (hx : VM x.2.1) (r : Int32) : CT MX8_actsOf 3 0 [.ref 171, .int r] (hp x) (MOQ x (sactsOf (aOf x.2.1) r)) := by
  refine ct_of (by decide +kernel) (by decide) rfl (k := 0) (ls := [some (.ref 171), some (.int r)]) rfl (Nat.le_of_ble_eq_true rfl) ?_
  obtain ⟨hu, hu8⟩ := hx.u
  obtain ⟨l, hl, el⟩ := hx.l
  refine pw_aload_n (tk tkX8_actsOf 0 rfl) rfl ?_
  refine pw_aload_n (tk tkX8_actsOf 1 rfl) rfl ?_
  refine pw_iload_n (tk tkX8_actsOf 2 rfl) rfl ?_
  refine pw_cV (ct_X8_isRule x _) okX8_isRule (tk tkX8_actsOf 3 rfl) mkX8_103 imX8_isRule seX8_isRule (hp_ot _ 11) rfl rfl rfl (by decide) (by decide) (Nat.le_of_ble_eq_true rfl) ?_
  refine pw_ifb (tgt := 13) (tk tkX8_actsOf 4 rfl) (by decide) (fun c6 => ?_) (fun c6 => ?_)
  · refine pw_iconst (v := 1) (tk tkX8_actsOf 7 rfl) (by decide) ?_
    refine pw_cV (ct_X8_holds x _) okX8_holds (tk tkX8_actsOf 8 rfl) mkX8_97 imX8_holds seX8_holds (hp_ot _ 11) rfl rfl rfl (by decide) (by decide) (Nat.le_of_ble_eq_true rfl) ?_
    refine pw_ifb (tgt := 30) (tk tkX8_actsOf 9 rfl) (by decide) (fun c17 => ?_) (fun c17 => absurd c17 (by decide))
    refine pw_iconst (v := 0) (tk tkX8_actsOf 15 rfl) (by decide) ?_
    refine pw_ireturn (tk tkX8_actsOf 16 rfl) rfl (by decide) rfl ?_
    have e : sactsOf (aOf x.2.1) r = (1, 0, aOf x.2.1) := (if_pos c6)
    rw [e]
    exact ⟨_, rfl, rfl, rfl, rfl, rfl, hx, AE.rf _⟩
  · refine pw_iconst (v := 0) (tk tkX8_actsOf 5 rfl) (by decide) ?_
    refine pw_goto (tgt := 14) (tk tkX8_actsOf 6 rfl) (by decide) ?_
    refine pw_cV (ct_X8_holds x _) okX8_holds (tk tkX8_actsOf 8 rfl) mkX8_97 imX8_holds seX8_holds (hp_ot _ 11) rfl rfl rfl (by decide) (by decide) (Nat.le_of_ble_eq_true rfl) ?_
    refine pw_ifb (tgt := 30) (tk tkX8_actsOf 9 rfl) (by decide) (fun c17 => absurd c17 (by decide)) (fun c17 => ?_)
    obtain ⟨r1, hr, er, er2⟩ := inR_lt hu (by omega) c6
    refine pw_aload_n (tk tkX8_actsOf 10 rfl) rfl ?_
    refine pw_iload_n (tk tkX8_actsOf 11 rfl) rfl ?_
    refine pw_bipush (v := 8) (tk tkX8_actsOf 12 rfl) (by decide) ?_
    refine pw_cV (ct_X8_atW _ r1 8 er (by omega)) okX8_at (tk tkX8_actsOf 13 rfl) mkX8_45 imX8_at seX8_at (hp_ot _ 11) rfl rfl rfl (by decide) (by decide) (Nat.le_of_ble_eq_true rfl) ?_
    refine pw_goto (tgt := 31) (tk tkX8_actsOf 14 rfl) (by decide) ?_
    refine pw_ireturn (tk tkX8_actsOf 16 rfl) rfl (by decide) rfl ?_
    have e : sactsOf (aOf x.2.1) r = (0, mS x.2.1 (26 + 9 * r1 + 8), aOf x.2.1) := (if_neg (ne_f c6)).trans (by rw [er2]; rfl)
    rw [e]
    exact ⟨_, rfl, rfl, rfl, rfl, rfl, hx, AE.rf _⟩
def sisMuted (a : AM) (r : Int32) : RS3 := if inR r 0 (aS a 25 - 1) = false then (1, 0, a) else if rN (aS a) r.toNatClampNeg 7 = 1 then (0, 1, a) else (0, 0, a)
set_option maxRecDepth 100000 in
set_option maxHeartbeats 4000000 in
theorem ct_X8_isMuted (x : XW) (hx : VM x.2.1) (r : Int32) : CT MX8_isMuted 3 0 [.ref 171, .int r] (hp x) (MOQ x (sisMuted (aOf x.2.1) r)) := by
  refine ct_of (by decide +kernel) (by decide) rfl (k := 0) (ls := [some (.ref 171), some (.int r)]) rfl (Nat.le_of_ble_eq_true rfl) ?_
  obtain ⟨hu, hu8⟩ := hx.u
  obtain ⟨l, hl, el⟩ := hx.l
  refine pw_aload_n (tk tkX8_isMuted 0 rfl) rfl ?_
  refine pw_aload_n (tk tkX8_isMuted 1 rfl) rfl ?_
  refine pw_iload_n (tk tkX8_isMuted 2 rfl) rfl ?_
  refine pw_cV (ct_X8_isRule x _) okX8_isRule (tk tkX8_isMuted 3 rfl) mkX8_103 imX8_isRule seX8_isRule (hp_ot _ 11) rfl rfl rfl (by decide) (by decide) (Nat.le_of_ble_eq_true rfl) ?_
  refine pw_ifb (tgt := 13) (tk tkX8_isMuted 4 rfl) (by decide) (fun c6 => ?_) (fun c6 => ?_)
  · refine pw_iconst (v := 1) (tk tkX8_isMuted 7 rfl) (by decide) ?_
    refine pw_cV (ct_X8_holds x _) okX8_holds (tk tkX8_isMuted 8 rfl) mkX8_97 imX8_holds seX8_holds (hp_ot _ 11) rfl rfl rfl (by decide) (by decide) (Nat.le_of_ble_eq_true rfl) ?_
    refine pw_ifb (tgt := 35) (tk tkX8_isMuted 9 rfl) (by decide) (fun c17 => ?_) (fun c17 => absurd c17 (by decide))
    refine pw_iconst (v := 0) (tk tkX8_isMuted 18 rfl) (by decide) ?_
    refine pw_ireturn (tk tkX8_isMuted 19 rfl) rfl (by decide) (by first | rfl | exact nar_bI _) ?_
    have e : sisMuted (aOf x.2.1) r = (1, 0, aOf x.2.1) := (if_pos c6)
    rw [e]
    exact ⟨_, rfl, rfl, rfl, rfl, rfl, hx, AE.rf _⟩
  · refine pw_iconst (v := 0) (tk tkX8_isMuted 5 rfl) (by decide) ?_
    refine pw_goto (tgt := 14) (tk tkX8_isMuted 6 rfl) (by decide) ?_
    refine pw_cV (ct_X8_holds x _) okX8_holds (tk tkX8_isMuted 8 rfl) mkX8_97 imX8_holds seX8_holds (hp_ot _ 11) rfl rfl rfl (by decide) (by decide) (Nat.le_of_ble_eq_true rfl) ?_
    refine pw_ifb (tgt := 35) (tk tkX8_isMuted 9 rfl) (by decide) (fun c17 => absurd c17 (by decide)) (fun c17 => ?_)
    obtain ⟨r1, hr, er, er2⟩ := inR_lt hu (by omega) c6
    refine pw_aload_n (tk tkX8_isMuted 10 rfl) rfl ?_
    refine pw_iload_n (tk tkX8_isMuted 11 rfl) rfl ?_
    refine pw_bipush (v := 7) (tk tkX8_isMuted 12 rfl) (by decide) ?_
    refine pw_cV (ct_X8_atW _ r1 7 er (by omega)) okX8_at (tk tkX8_isMuted 13 rfl) mkX8_45 imX8_at seX8_at (hp_ot _ 11) rfl rfl rfl (by decide) (by decide) (Nat.le_of_ble_eq_true rfl) ?_
    refine pw_iconst (v := 1) (tk tkX8_isMuted 14 rfl) (by decide) ?_
    refine pw_icmp_ne (tgt := 35) (tk tkX8_isMuted 15 rfl) (by decide) (fun c28 => ?_) (fun c28 => ?_)
    · refine pw_iconst (v := 0) (tk tkX8_isMuted 18 rfl) (by decide) ?_
      refine pw_ireturn (tk tkX8_isMuted 19 rfl) rfl (by decide) (by first | rfl | exact nar_bI _) ?_
      have e : sisMuted (aOf x.2.1) r = (0, 0, aOf x.2.1) := (if_neg (ne_f c6)).trans (if_neg (by rw [er2]; exact c28))
      rw [e]
      exact ⟨_, rfl, rfl, rfl, rfl, rfl, hx, AE.rf _⟩
    · refine pw_iconst (v := 1) (tk tkX8_isMuted 16 rfl) (by decide) ?_
      refine pw_goto (tgt := 36) (tk tkX8_isMuted 17 rfl) (by decide) ?_
      refine pw_ireturn (tk tkX8_isMuted 19 rfl) rfl (by decide) (by first | rfl | exact nar_bI _) ?_
      have e : sisMuted (aOf x.2.1) r = (0, 1, aOf x.2.1) := (if_neg (ne_f c6)).trans (if_pos (by rw [er2]; exact c28))
      rw [e]
      exact ⟨_, rfl, rfl, rfl, rfl, rfl, hx, AE.rf _⟩
def sloggedRule (a : AM) (r : Int32) : RS3 := if inR r 0 (aS a 99 - 1) = false then (1, 0, a) else (0, aS a (100 + r.toNatClampNeg), a)
set_option maxRecDepth 100000 in
set_option maxHeartbeats 4000000 in
theorem ct_X8_loggedRule (x : XW) (hx : VM x.2.1) (r : Int32) : CT MX8_loggedRule 3 0 [.ref 171, .int r] (hp x) (MOQ x (sloggedRule (aOf x.2.1) r)) := by
  refine ct_of (by decide +kernel) (by decide) rfl (k := 0) (ls := [some (.ref 171), some (.int r)]) rfl (Nat.le_of_ble_eq_true rfl) ?_
  obtain ⟨hu, hu8⟩ := hx.u
  obtain ⟨l, hl, el⟩ := hx.l
  refine pw_aload_n (tk tkX8_loggedRule 0 rfl) rfl ?_
  refine pw_iload_n (tk tkX8_loggedRule 1 rfl) rfl ?_
  refine pw_iconst (v := 0) (tk tkX8_loggedRule 2 rfl) (by decide) ?_
  refine pw_aload_n (tk tkX8_loggedRule 3 rfl) rfl ?_
  refine g8_s (tk tkX8_loggedRule 4 rfl) fkX8_7 ?_
  refine pw_bipush (v := 99) (tk tkX8_loggedRule 5 rfl) (by decide) ?_
  refine al_s_e (e := 99) (tk tkX8_loggedRule 6 rfl) (by first | rfl | simp only [lit_nI, nI_add, pk_mul]) (by first | decide | omega) ?_
  refine pw_iconst (v := 1) (tk tkX8_loggedRule 7 rfl) (by decide) ?_
  refine pw_isub (tk tkX8_loggedRule 8 rfl) ?_
  refine pw_cS (ct_X8_in _ _ _ _) okX8_in (tk tkX8_loggedRule 9 rfl) mkX8_32 stX8_in rfl rfl (by decide) (by decide) (Nat.le_of_ble_eq_true rfl) ?_
  refine pw_ifb (tgt := 22) (tk tkX8_loggedRule 10 rfl) (by decide) (fun c15 => ?_) (fun c15 => ?_)
  · refine pw_iconst (v := 1) (tk tkX8_loggedRule 13 rfl) (by decide) ?_
    refine pw_cV (ct_X8_holds x _) okX8_holds (tk tkX8_loggedRule 14 rfl) mkX8_97 imX8_holds seX8_holds (hp_ot _ 11) rfl rfl rfl (by decide) (by decide) (Nat.le_of_ble_eq_true rfl) ?_
    refine pw_ifb (tgt := 41) (tk tkX8_loggedRule 15 rfl) (by decide) (fun c26 => ?_) (fun c26 => absurd c26 (by decide))
    refine pw_iconst (v := 0) (tk tkX8_loggedRule 23 rfl) (by decide) ?_
    refine pw_ireturn (tk tkX8_loggedRule 24 rfl) rfl (by decide) rfl ?_
    have e : sloggedRule (aOf x.2.1) r = (1, 0, aOf x.2.1) := (if_pos c15)
    rw [e]
    exact ⟨_, rfl, rfl, rfl, rfl, rfl, hx, AE.rf _⟩
  · refine pw_iconst (v := 0) (tk tkX8_loggedRule 11 rfl) (by decide) ?_
    refine pw_goto (tgt := 23) (tk tkX8_loggedRule 12 rfl) (by decide) ?_
    refine pw_cV (ct_X8_holds x _) okX8_holds (tk tkX8_loggedRule 14 rfl) mkX8_97 imX8_holds seX8_holds (hp_ot _ 11) rfl rfl rfl (by decide) (by decide) (Nat.le_of_ble_eq_true rfl) ?_
    refine pw_ifb (tgt := 41) (tk tkX8_loggedRule 15 rfl) (by decide) (fun c26 => absurd c26 (by decide)) (fun c26 => ?_)
    obtain ⟨r1, hr, er, er2⟩ := inR_lt el (by omega) c15
    refine pw_aload_n (tk tkX8_loggedRule 16 rfl) rfl ?_
    refine g8_s (tk tkX8_loggedRule 17 rfl) fkX8_7 ?_
    refine pw_bipush (v := 100) (tk tkX8_loggedRule 18 rfl) (by decide) ?_
    refine pw_iload_n (tk tkX8_loggedRule 19 rfl) rfl ?_
    refine pw_iadd (tk tkX8_loggedRule 20 rfl) ?_
    refine al_s_e (e := 100 + r1) (tk tkX8_loggedRule 21 rfl) (by rw [er]; simp only [lit_nI, nI_add]) (by first | decide | omega) ?_
    refine pw_goto (tgt := 42) (tk tkX8_loggedRule 22 rfl) (by decide) ?_
    refine pw_ireturn (tk tkX8_loggedRule 24 rfl) rfl (by decide) rfl ?_
    have e : sloggedRule (aOf x.2.1) r = (0, mS x.2.1 (100 + r1), aOf x.2.1) := (if_neg (ne_f c15)).trans (by rw [er2]; rfl)
    rw [e]
    exact ⟨_, rfl, rfl, rfl, rfl, rfl, hx, AE.rf _⟩
def sloggedDepth (a : AM) (r : Int32) : RS3 := if inR r 0 (aS a 99 - 1) = false then (1, 0, a) else (0, aS a (116 + r.toNatClampNeg), a)
set_option maxRecDepth 100000 in
set_option maxHeartbeats 4000000 in
theorem ct_X8_loggedDepth (x : XW) (hx : VM x.2.1) (r : Int32) : CT MX8_loggedDepth 3 0 [.ref 171, .int r] (hp x) (MOQ x (sloggedDepth (aOf x.2.1) r)) := by
  refine ct_of (by decide +kernel) (by decide) rfl (k := 0) (ls := [some (.ref 171), some (.int r)]) rfl (Nat.le_of_ble_eq_true rfl) ?_
  obtain ⟨hu, hu8⟩ := hx.u
  obtain ⟨l, hl, el⟩ := hx.l
  refine pw_aload_n (tk tkX8_loggedDepth 0 rfl) rfl ?_
  refine pw_iload_n (tk tkX8_loggedDepth 1 rfl) rfl ?_
  refine pw_iconst (v := 0) (tk tkX8_loggedDepth 2 rfl) (by decide) ?_
  refine pw_aload_n (tk tkX8_loggedDepth 3 rfl) rfl ?_
  refine g8_s (tk tkX8_loggedDepth 4 rfl) fkX8_7 ?_
  refine pw_bipush (v := 99) (tk tkX8_loggedDepth 5 rfl) (by decide) ?_
  refine al_s_e (e := 99) (tk tkX8_loggedDepth 6 rfl) (by first | rfl | simp only [lit_nI, nI_add, pk_mul]) (by first | decide | omega) ?_
  refine pw_iconst (v := 1) (tk tkX8_loggedDepth 7 rfl) (by decide) ?_
  refine pw_isub (tk tkX8_loggedDepth 8 rfl) ?_
  refine pw_cS (ct_X8_in _ _ _ _) okX8_in (tk tkX8_loggedDepth 9 rfl) mkX8_32 stX8_in rfl rfl (by decide) (by decide) (Nat.le_of_ble_eq_true rfl) ?_
  refine pw_ifb (tgt := 22) (tk tkX8_loggedDepth 10 rfl) (by decide) (fun c15 => ?_) (fun c15 => ?_)
  · refine pw_iconst (v := 1) (tk tkX8_loggedDepth 13 rfl) (by decide) ?_
    refine pw_cV (ct_X8_holds x _) okX8_holds (tk tkX8_loggedDepth 14 rfl) mkX8_97 imX8_holds seX8_holds (hp_ot _ 11) rfl rfl rfl (by decide) (by decide) (Nat.le_of_ble_eq_true rfl) ?_
    refine pw_ifb (tgt := 41) (tk tkX8_loggedDepth 15 rfl) (by decide) (fun c26 => ?_) (fun c26 => absurd c26 (by decide))
    refine pw_iconst (v := 0) (tk tkX8_loggedDepth 23 rfl) (by decide) ?_
    refine pw_ireturn (tk tkX8_loggedDepth 24 rfl) rfl (by decide) rfl ?_
    have e : sloggedDepth (aOf x.2.1) r = (1, 0, aOf x.2.1) := (if_pos c15)
    rw [e]
    exact ⟨_, rfl, rfl, rfl, rfl, rfl, hx, AE.rf _⟩
  · refine pw_iconst (v := 0) (tk tkX8_loggedDepth 11 rfl) (by decide) ?_
    refine pw_goto (tgt := 23) (tk tkX8_loggedDepth 12 rfl) (by decide) ?_
    refine pw_cV (ct_X8_holds x _) okX8_holds (tk tkX8_loggedDepth 14 rfl) mkX8_97 imX8_holds seX8_holds (hp_ot _ 11) rfl rfl rfl (by decide) (by decide) (Nat.le_of_ble_eq_true rfl) ?_
    refine pw_ifb (tgt := 41) (tk tkX8_loggedDepth 15 rfl) (by decide) (fun c26 => absurd c26 (by decide)) (fun c26 => ?_)
    obtain ⟨r1, hr, er, er2⟩ := inR_lt el (by omega) c15
    refine pw_aload_n (tk tkX8_loggedDepth 16 rfl) rfl ?_
    refine g8_s (tk tkX8_loggedDepth 17 rfl) fkX8_7 ?_
    refine pw_bipush (v := 116) (tk tkX8_loggedDepth 18 rfl) (by decide) ?_
    refine pw_iload_n (tk tkX8_loggedDepth 19 rfl) rfl ?_
    refine pw_iadd (tk tkX8_loggedDepth 20 rfl) ?_
    refine al_s_e (e := 116 + r1) (tk tkX8_loggedDepth 21 rfl) (by rw [er]; simp only [lit_nI, nI_add]) (by first | decide | omega) ?_
    refine pw_goto (tgt := 42) (tk tkX8_loggedDepth 22 rfl) (by decide) ?_
    refine pw_ireturn (tk tkX8_loggedDepth 24 rfl) rfl (by decide) rfl ?_
    have e : sloggedDepth (aOf x.2.1) r = (0, mS x.2.1 (116 + r1), aOf x.2.1) := (if_neg (ne_f c15)).trans (by rw [er2]; rfl)
    rw [e]
    exact ⟨_, rfl, rfl, rfl, rfl, rfl, hx, AE.rf _⟩
def sruleCount (a : AM)  : RS3 := (0, aS a 25, a)
set_option maxRecDepth 100000 in
set_option maxHeartbeats 4000000 in
theorem ct_X8_ruleCount (x : XW) (hx : VM x.2.1)  : CT MX8_ruleCount 3 0 [.ref 171] (hp x) (MOQ x (sruleCount (aOf x.2.1) )) := by
  refine ct_of (by decide +kernel) (by decide) rfl (k := 0) (ls := [some (.ref 171)]) rfl (Nat.le_of_ble_eq_true rfl) ?_
  obtain ⟨hu, hu8⟩ := hx.u
  obtain ⟨l, hl, el⟩ := hx.l
  refine pw_aload_n (tk tkX8_ruleCount 0 rfl) rfl ?_
  refine pw_iconst (v := 0) (tk tkX8_ruleCount 1 rfl) (by decide) ?_
  refine p8_thrown (tk tkX8_ruleCount 2 rfl) fkX8_28 ?_
  refine pw_aload_n (tk tkX8_ruleCount 3 rfl) rfl ?_
  refine g8_s (tk tkX8_ruleCount 4 rfl) fkX8_7 ?_
  refine pw_bipush (v := 25) (tk tkX8_ruleCount 5 rfl) (by decide) ?_
  refine al_s_e (e := 25) (tk tkX8_ruleCount 6 rfl) (by first | rfl | simp only [lit_nI, nI_add, pk_mul]) (by first | decide | omega) ?_
  exact pw_ireturn (tk tkX8_ruleCount 7 rfl) rfl (by decide) rfl ⟨_, rfl, rfl, rfl, rfl, rfl, hx, AE.rf _⟩
def seventCount (a : AM)  : RS3 := (0, aS a 98, a)
set_option maxRecDepth 100000 in
set_option maxHeartbeats 4000000 in
theorem ct_X8_eventCount (x : XW) (hx : VM x.2.1)  : CT MX8_eventCount 3 0 [.ref 171] (hp x) (MOQ x (seventCount (aOf x.2.1) )) := by
  refine ct_of (by decide +kernel) (by decide) rfl (k := 0) (ls := [some (.ref 171)]) rfl (Nat.le_of_ble_eq_true rfl) ?_
  obtain ⟨hu, hu8⟩ := hx.u
  obtain ⟨l, hl, el⟩ := hx.l
  refine pw_aload_n (tk tkX8_eventCount 0 rfl) rfl ?_
  refine pw_iconst (v := 0) (tk tkX8_eventCount 1 rfl) (by decide) ?_
  refine p8_thrown (tk tkX8_eventCount 2 rfl) fkX8_28 ?_
  refine pw_aload_n (tk tkX8_eventCount 3 rfl) rfl ?_
  refine g8_s (tk tkX8_eventCount 4 rfl) fkX8_7 ?_
  refine pw_bipush (v := 98) (tk tkX8_eventCount 5 rfl) (by decide) ?_
  refine al_s_e (e := 98) (tk tkX8_eventCount 6 rfl) (by first | rfl | simp only [lit_nI, nI_add, pk_mul]) (by first | decide | omega) ?_
  exact pw_ireturn (tk tkX8_eventCount 7 rfl) rfl (by decide) rfl ⟨_, rfl, rfl, rfl, rfl, rfl, hx, AE.rf _⟩
def slogSize (a : AM)  : RS3 := (0, aS a 99, a)
set_option maxRecDepth 100000 in
set_option maxHeartbeats 4000000 in
theorem ct_X8_logSize (x : XW) (hx : VM x.2.1)  : CT MX8_logSize 3 0 [.ref 171] (hp x) (MOQ x (slogSize (aOf x.2.1) )) := by
  refine ct_of (by decide +kernel) (by decide) rfl (k := 0) (ls := [some (.ref 171)]) rfl (Nat.le_of_ble_eq_true rfl) ?_
  obtain ⟨hu, hu8⟩ := hx.u
  obtain ⟨l, hl, el⟩ := hx.l
  refine pw_aload_n (tk tkX8_logSize 0 rfl) rfl ?_
  refine pw_iconst (v := 0) (tk tkX8_logSize 1 rfl) (by decide) ?_
  refine p8_thrown (tk tkX8_logSize 2 rfl) fkX8_28 ?_
  refine pw_aload_n (tk tkX8_logSize 3 rfl) rfl ?_
  refine g8_s (tk tkX8_logSize 4 rfl) fkX8_7 ?_
  refine pw_bipush (v := 99) (tk tkX8_logSize 5 rfl) (by decide) ?_
  refine al_s_e (e := 99) (tk tkX8_logSize 6 rfl) (by first | rfl | simp only [lit_nI, nI_add, pk_mul]) (by first | decide | omega) ?_
  exact pw_ireturn (tk tkX8_logSize 7 rfl) rfl (by decide) rfl ⟨_, rfl, rfl, rfl, rfl, rfl, hx, AE.rf _⟩
def srowCount (a : AM)  : RS3 := (0, smN (aS a) 6, a)
set_option maxRecDepth 100000 in
set_option maxHeartbeats 4000000 in
theorem ct_X8_rowCount (x : XW) (hx : VM x.2.1)  : CT MX8_rowCount 3 0 [.ref 171] (hp x) (MOQ x (srowCount (aOf x.2.1) )) := by
  refine ct_of (by decide +kernel) (by decide) rfl (k := 0) (ls := [some (.ref 171)]) rfl (Nat.le_of_ble_eq_true rfl) ?_
  obtain ⟨hu, hu8⟩ := hx.u
  obtain ⟨l, hl, el⟩ := hx.l
  refine pw_aload_n (tk tkX8_rowCount 0 rfl) rfl ?_
  refine pw_iconst (v := 0) (tk tkX8_rowCount 1 rfl) (by decide) ?_
  refine p8_thrown (tk tkX8_rowCount 2 rfl) fkX8_28 ?_
  refine pw_aload_n (tk tkX8_rowCount 3 rfl) rfl ?_
  refine pw_cV (ct_X8_rowsNow _) okX8_rowsNow (tk tkX8_rowCount 4 rfl) mkX8_121 imX8_rowsNow seX8_rowsNow (hp_ot _ 11) rfl rfl rfl (by decide) (by decide) (Nat.le_of_ble_eq_true rfl) ?_
  exact pw_ireturn (tk tkX8_rowCount 5 rfl) rfl (by decide) rfl ⟨_, rfl, rfl, rfl, rfl, rfl, hx, AE.rf _⟩
def stextLength (a : AM)  : RS3 := (0, nI (aN a), a)
set_option maxRecDepth 100000 in
set_option maxHeartbeats 4000000 in
theorem ct_X8_textLength (x : XW) (hx : VM x.2.1)  : CT MX8_textLength 3 0 [.ref 171] (hp x) (MOQ x (stextLength (aOf x.2.1) )) := by
  refine ct_of (by decide +kernel) (by decide) rfl (k := 0) (ls := [some (.ref 171)]) rfl (Nat.le_of_ble_eq_true rfl) ?_
  obtain ⟨hu, hu8⟩ := hx.u
  obtain ⟨l, hl, el⟩ := hx.l
  refine pw_aload_n (tk tkX8_textLength 0 rfl) rfl ?_
  refine pw_iconst (v := 0) (tk tkX8_textLength 1 rfl) (by decide) ?_
  refine p8_thrown (tk tkX8_textLength 2 rfl) fkX8_28 ?_
  refine pw_aload_n (tk tkX8_textLength 3 rfl) rfl ?_
  refine g8_length (tk tkX8_textLength 4 rfl) fkX8_141 ?_
  exact pw_ireturn (tk tkX8_textLength 5 rfl) rfl (by decide) rfl ⟨_, rfl, rfl, rfl, rfl, congrArg (fun z => Sum.inl (some (Value.int z))) hx.2.2.1, hx, AE.rf _⟩
def sundoCount (a : AM)  : RS3 := (0, nI (aK a), a)
set_option maxRecDepth 100000 in
set_option maxHeartbeats 4000000 in
theorem ct_X8_undoCount (x : XW) (hx : VM x.2.1)  : CT MX8_undoCount 3 0 [.ref 171] (hp x) (MOQ x (sundoCount (aOf x.2.1) )) := by
  refine ct_of (by decide +kernel) (by decide) rfl (k := 0) (ls := [some (.ref 171)]) rfl (Nat.le_of_ble_eq_true rfl) ?_
  obtain ⟨hu, hu8⟩ := hx.u
  obtain ⟨l, hl, el⟩ := hx.l
  refine pw_aload_n (tk tkX8_undoCount 0 rfl) rfl ?_
  refine pw_iconst (v := 0) (tk tkX8_undoCount 1 rfl) (by decide) ?_
  refine p8_thrown (tk tkX8_undoCount 2 rfl) fkX8_28 ?_
  refine pw_aload_n (tk tkX8_undoCount 3 rfl) rfl ?_
  refine g8_known (tk tkX8_undoCount 4 rfl) fkX8_36 ?_
  exact pw_ireturn (tk tkX8_undoCount 5 rfl) rfl (by decide) rfl ⟨_, rfl, rfl, rfl, rfl, congrArg (fun z => Sum.inl (some (Value.int z))) hx.1, hx, AE.rf _⟩
end
section
def recH (a : AM) (s0 : Nat → Int32) : Nat × (Nat → Nat → Int32) := if aK a = 6 then (6, fun i => if i = 5 then s0 else aH a (i + 1)) else (aK a + 1, fun i => if i = aK a then s0 else aH a i)
/-- a world that stands as x does, but for s and aside and the statement's numbers; aside holds x's s -/
def Lk (x y : XW) : Prop := y.1 = x.1 ∧ y.2.2 = x.2.2 ∧ E132 (mA y.2.1) (mS x.2.1) ∧ mHi y.2.1 = mHi x.2.1 ∧ mSl y.2.1 = mSl x.2.1 ∧ mTx y.2.1 = mTx x.2.1 ∧ mF y.2.1 0 = 0 ∧ mF y.2.1 4 = mF x.2.1 4 ∧ mF y.2.1 6 = mF x.2.1 6 ∧ mF y.2.1 8 = mF x.2.1 8
theorem recX {x y : XW} (hx : VM x.2.1) (h : Lk x y) (t : Nat → Int32) (ht : VS (uN t) t) : let z := uM1 (xRecA y (aK (aOf x.2.1))) t; z.1 = x.1 ∧ z.2.2 = x.2.2 ∧ mF z.2.1 0 = 0 ∧ VM z.2.1 ∧ AE (t, recH (aOf x.2.1) (mS x.2.1), (aOf x.2.1).2.2) (aOf z.2.1) := by
  obtain ⟨h1, h2, h3, h4, h5, h6, h7, h8, h9, h10⟩ := h
  obtain ⟨v1, v2, v3, v4, v5, v6⟩ := hx
  obtain ⟨kn, hkn⟩ : ∃ kn, kn = aK (aOf x.2.1) := ⟨_, rfl⟩
  rw [← hkn]
  rw [← hkn] at v1 v2
  have key : ∀ (z : XW) (K : Nat), z.1 = x.1 → z.2.2 = x.2.2 → mF z.2.1 0 = 0 → mF z.2.1 4 = nI K → K ≤ 6 → mF z.2.1 6 = mF x.2.1 6 → mF z.2.1 8 = mF x.2.1 8 → mSl z.2.1 = mSl x.2.1 → mTx z.2.1 = mTx x.2.1 → mS z.2.1 = t → (recH (aOf x.2.1) (mS x.2.1)).1 = K → (∀ i j, i < K → j < 132 → (recH (aOf x.2.1) (mS x.2.1)).2 i j = mHi z.2.1 (132 * i + j)) → z.1 = x.1 ∧ z.2.2 = x.2.2 ∧ mF z.2.1 0 = 0 ∧ VM z.2.1 ∧ AE (t, recH (aOf x.2.1) (mS x.2.1), (aOf x.2.1).2.2) (aOf z.2.1) := by
    intro z K a1 a2 a3 a4 a5 a6 a7 a8 a9 a10 a11 a12
    have eK : aK (aOf z.2.1) = K := by show (mF z.2.1 4).toNatClampNeg = K; rw [a4, nI_clamp (by omega)]
    have eN : aN (aOf z.2.1) = aN (aOf x.2.1) := by show (mF z.2.1 8).toNatClampNeg = (mF x.2.1 8).toNatClampNeg; rw [a7]
    refine ⟨a1, a2, a3, ⟨by rw [eK]; exact a4, by rw [eK]; exact a5, by rw [eN, a7]; exact v3, by rw [eN]; exact v4, by rw [a6]; exact v5, by rw [a10]; exact ht⟩, ?_, a11.trans eK.symm, ?_, ?_, ?_, eN.symm, ?_⟩
    · intro j _; show t j = mS z.2.1 j; rw [a10]
    · intro i hi j hj
      rw [show aK (t, recH (aOf x.2.1) (mS x.2.1), (aOf x.2.1).2.2) = K from a11] at hi
      exact a12 i j hi hj
    · intro i _; show decide ((mF x.2.1 6 >>> (nI i &&& 31)) &&& 1 = 1) = decide ((mF z.2.1 6 >>> (nI i &&& 31)) &&& 1 = 1); rw [a6]
    · intro i _ _ j _; show mSl x.2.1 _ = mSl z.2.1 _; rw [a8]
    · intro i _; show mTx x.2.1 i = mTx z.2.1 i; rw [a9]
  by_cases e6 : kn = 6
  · rw [show xRecA y kn = xRecB (xSh y) 5 from if_pos e6]
    have er : recH (aOf x.2.1) (mS x.2.1) = (6, fun i => if i = 5 then mS x.2.1 else aH (aOf x.2.1) (i + 1)) := if_pos (hkn.symm.trans e6)
    refine key _ 6 h1 h2 h7 rfl (by decide) h9 h10 h5 h6 rfl (by rw [er]) (fun i j hi hj => ?_)
    rw [er]
    show (if i = 5 then mS x.2.1 else aH (aOf x.2.1) (i + 1)) j = puN (132 * 5) 132 (mA y.2.1) (shK 660 (mHi y.2.1)) (132 * i + j)
    unfold puN
    by_cases e5 : i = 5
    · rw [if_pos e5, if_pos (by omega), show 132 * i + j - 132 * 5 = j by omega]; exact (h3 j hj).symm
    · rw [if_neg e5, if_neg (by omega)]
      unfold shK
      rw [if_pos (by omega), h4]
      show mHi x.2.1 (132 * (i + 1) + j) = _
      rw [show 132 * (i + 1) + j = 132 * i + j + 132 by omega]
  · rw [show xRecA y kn = xRecB y kn from if_neg e6]
    have er : recH (aOf x.2.1) (mS x.2.1) = (kn + 1, fun i => if i = kn then mS x.2.1 else aH (aOf x.2.1) i) := by rw [hkn]; exact if_neg (fun q => e6 (hkn.trans q))
    refine key _ (kn + 1) h1 h2 h7 rfl (by omega) h9 h10 h5 h6 rfl (by rw [er]) (fun i j hi hj => ?_)
    rw [er]
    show (if i = kn then mS x.2.1 else aH (aOf x.2.1) i) j = puN (132 * kn) 132 (mA y.2.1) (mHi y.2.1) (132 * i + j)
    unfold puN
    by_cases e5 : i = kn
    · rw [if_pos e5, if_pos (by omega), show 132 * i + j - 132 * kn = j by omega]; exact (h3 j hj).symm
    · rw [if_neg e5, if_neg (by omega), h4]; rfl
theorem xRec_eq (x : XW) (k : Nat) : xRec (xThr x 0) k = uM1 (xRec (xThr x 0) k) (mS x.2.1) := by
  unfold xRec xRecA
  split <;> rfl
/-- the end of a call that records and sets s to t -/
theorem MOQ.rc {x : XW} {R : RS3} (hx : VM x.2.1) (t : Nat → Int32) (v : Int32) (ht : VS (uN t) t) (e : R = (0, v, (t, recH (aOf x.2.1) (mS x.2.1), (aOf x.2.1).2.2))) : MOQ x R (.inl (some (.int v))) (hp (uM1 (xRec (xThr x 0) (aK (aOf x.2.1))) t)) := by
  obtain ⟨a, b, c, d, f⟩ := recX (y := xPA (xThr x 0)) hx ⟨rfl, rfl, cpN_E _ _, rfl, rfl, rfl, rfl, rfl, rfl, rfl⟩ t ht
  rw [e]
  exact ⟨_, rfl, a, b, c, rfl, d, f⟩
theorem uN_of {s t : Nat → Int32} (h : t 25 = s 25) : uN t = uN s := by unfold uN; rw [h]
def ssetDepth (a : AM) (v : Int32) : RS3 := if inR v 0 5 = false then (1, 0, a) else (0, aS a 24, (upd (aS a) 24 v, recH a (aS a), a.2.2))
set_option maxRecDepth 100000 in
set_option maxHeartbeats 4000000 in
theorem ct_X8_setDepth (x : XW) (hx : VM x.2.1) (v : Int32) : CT MX8_setDepth 3 0 [.ref 171, .int v] (hp x) (MOQ x (ssetDepth (aOf x.2.1) v)) := by
  refine ct_of (by decide +kernel) (by decide) rfl (k := 1) (ls := [some (.ref 171), some (.int v), none]) rfl (Nat.le_of_ble_eq_true rfl) ?_
  obtain ⟨hu, hu8⟩ := hx.u
  obtain ⟨l, hl, el⟩ := hx.l
  have hv : VS (uN (mS x.2.1)) (mS x.2.1) := hx.2.2.2.2.2
  have hvd : inR v 0 5 = true → VS (uN (upd (mS x.2.1) 24 v)) (upd (mS x.2.1) 24 v) := by
    intro h
    obtain ⟨r, hr, er, _⟩ := inR_row h
    rw [uN_of (upd_nt _ _ (by omega))]
    obtain ⟨b1, b2, b3, b4, b5, b6⟩ := hv
    exact ⟨b1, (upd_nt _ _ (by omega)).trans b2, ⟨r, by omega, (upd_at _ _ _).trans er⟩, (by rw [upd_nt _ _ (by omega)]; exact b4), fun j hj => by rw [upd_nt _ _ (by omega)]; exact b5 j hj, fun i hi => by have q := b6 i hi; unfold rN at q ⊢; rw [upd_nt _ _ (by omega), upd_nt _ _ (by omega), upd_nt _ _ (by omega), upd_nt _ _ (by omega), upd_nt _ _ (by omega)]; exact q⟩
  refine pw_aload_n (tk tkX8_setDepth 0 rfl) rfl ?_
  refine pw_iload_n (tk tkX8_setDepth 1 rfl) rfl ?_
  refine pw_iconst (v := 0) (tk tkX8_setDepth 2 rfl) (by decide) ?_
  refine pw_iconst (v := 5) (tk tkX8_setDepth 3 rfl) (by decide) ?_
  refine pw_cS (ct_X8_in _ _ _ _) okX8_in (tk tkX8_setDepth 4 rfl) mkX8_32 stX8_in rfl rfl (by decide) (by decide) (Nat.le_of_ble_eq_true rfl) ?_
  refine pw_ifb (tgt := 14) (tk tkX8_setDepth 5 rfl) (by decide) (fun c7 => ?_) (fun c7 => ?_)
  · refine pw_iconst (v := 1) (tk tkX8_setDepth 8 rfl) (by decide) ?_
    refine pw_cV (ct_X8_holds x _) okX8_holds (tk tkX8_setDepth 9 rfl) mkX8_97 imX8_holds seX8_holds (hp_ot _ 11) rfl rfl rfl (by decide) (by decide) (Nat.le_of_ble_eq_true rfl) ?_
    refine pw_ifnb (tgt := 23) (tk tkX8_setDepth 10 rfl) (by decide) (fun c18 => absurd c18 (by decide)) (fun c18 => ?_)
    refine pw_iconst (v := 0) (tk tkX8_setDepth 11 rfl) (by decide) ?_
    refine pw_ireturn (tk tkX8_setDepth 12 rfl) rfl (by decide) rfl ?_
    have e : ssetDepth (aOf x.2.1) v = (1, 0, aOf x.2.1) := (if_pos c7)
    rw [e]
    exact ⟨_, rfl, rfl, rfl, rfl, rfl, hx, AE.rf _⟩
  · refine pw_iconst (v := 0) (tk tkX8_setDepth 6 rfl) (by decide) ?_
    refine pw_goto (tgt := 15) (tk tkX8_setDepth 7 rfl) (by decide) ?_
    refine pw_cV (ct_X8_holds x _) okX8_holds (tk tkX8_setDepth 9 rfl) mkX8_97 imX8_holds seX8_holds (hp_ot _ 11) rfl rfl rfl (by decide) (by decide) (Nat.le_of_ble_eq_true rfl) ?_
    refine pw_ifnb (tgt := 23) (tk tkX8_setDepth 10 rfl) (by decide) (fun c18 => ?_) (fun c18 => absurd c18 (by decide))
    refine pw_aload_n (tk tkX8_setDepth 13 rfl) rfl ?_
    refine pw_cV0 (ct_X8_record (xThr x 0) (aK (aOf x.2.1)) hx.1 hx.2.1) okX8_record (tk tkX8_setDepth 14 rfl) mkX8_100 imX8_record seX8_record (hp_ot _ 11) rfl rfl rfl (by decide) (by decide) (Nat.le_of_ble_eq_true rfl) ?_
    rw [xRec_eq x]
    refine pw_aload_n (tk tkX8_setDepth 15 rfl) rfl ?_
    refine g8_s (tk tkX8_setDepth 16 rfl) fkX8_7 ?_
    refine pw_bipush (v := 24) (tk tkX8_setDepth 17 rfl) (by decide) ?_
    refine al_s_e (e := 24) (tk tkX8_setDepth 18 rfl) (by first | rfl | simp only [lit_nI, nI_add, pk_mul]) (by first | decide | omega) ?_
    refine pw_ist2 (tk tkX8_setDepth 19 rfl) rfl (by decide) ?_
    refine pw_aload_n (tk tkX8_setDepth 20 rfl) rfl ?_
    refine g8_s (tk tkX8_setDepth 21 rfl) fkX8_7 ?_
    refine pw_bipush (v := 24) (tk tkX8_setDepth 22 rfl) (by decide) ?_
    refine pw_iload_n (tk tkX8_setDepth 23 rfl) rfl ?_
    refine as_s_e (e := 24) (tk tkX8_setDepth 24 rfl) (by first | rfl | simp only [lit_nI, nI_add, pk_mul]) (by first | decide | omega) ?_
    refine pw_iload_n (tk tkX8_setDepth 25 rfl) rfl ?_
    refine pw_ireturn (tk tkX8_setDepth 26 rfl) rfl (by decide) rfl ?_
    exact MOQ.rc hx (upd (mS x.2.1) 24 v) _ (hvd c7) (if_neg (ne_f c7))
def sturnMute (a : AM) (r : Int32) : RS3 := if inR r 0 (aS a 25 - 1) = false then (1, 0, a) else (0, (if 1 - rN (aS a) r.toNatClampNeg 7 = 1 then 1 else 0), (upd (aS a) (26 + 9 * r.toNatClampNeg + 7) (1 - rN (aS a) r.toNatClampNeg 7), recH a (aS a), a.2.2))
set_option maxRecDepth 100000 in
set_option maxHeartbeats 4000000 in
theorem ct_X8_turnMute (x : XW) (hx : VM x.2.1) (r : Int32) : CT MX8_turnMute 3 0 [.ref 171, .int r] (hp x) (MOQ x (sturnMute (aOf x.2.1) r)) := by
  refine ct_of (by decide +kernel) (by decide) rfl (k := 1) (ls := [some (.ref 171), some (.int r), none]) rfl (Nat.le_of_ble_eq_true rfl) ?_
  obtain ⟨hu, hu8⟩ := hx.u
  obtain ⟨l, hl, el⟩ := hx.l
  have hv : VS (uN (mS x.2.1)) (mS x.2.1) := hx.2.2.2.2.2
  have hvd : ∀ r1, r1 < uN (mS x.2.1) → VS (uN (upd (mS x.2.1) (26 + 9 * r1 + 7) (1 - mS x.2.1 (26 + 9 * r1 + 7)))) (upd (mS x.2.1) (26 + 9 * r1 + 7) (1 - mS x.2.1 (26 + 9 * r1 + 7))) := by
    intro r1 h
    rw [uN_of (upd_nt _ _ (by omega))]
    obtain ⟨b1, b2, b3, b4, b5, b6⟩ := hv
    refine ⟨b1, (upd_nt _ _ (by omega)).trans b2, (by rw [upd_nt _ _ (by omega)]; exact b3), (by rw [upd_nt _ _ (by omega)]; exact b4), fun j hj => by rw [upd_nt _ _ (by omega)]; exact b5 j hj, fun i hi => ?_⟩
    obtain ⟨q1, q2, q3, q4, q5⟩ := b6 i hi
    unfold rN at *
    rw [upd_nt _ _ (by omega), upd_nt _ _ (by omega), upd_nt _ _ (by omega), upd_nt _ _ (show 26 + 9 * i + 3 ≠ _ by omega)]
    refine ⟨q1, q2, q3, ?_, q5⟩
    unfold upd
    by_cases e : 26 + 9 * i + 7 = 26 + 9 * r1 + 7
    · rw [if_pos e, ← e]
      rcases q4 with q | q <;> rw [q] <;> decide
    · rw [if_neg e]; exact q4
  refine pw_aload_n (tk tkX8_turnMute 0 rfl) rfl ?_
  refine pw_aload_n (tk tkX8_turnMute 1 rfl) rfl ?_
  refine pw_iload_n (tk tkX8_turnMute 2 rfl) rfl ?_
  refine pw_cV (ct_X8_isRule x _) okX8_isRule (tk tkX8_turnMute 3 rfl) mkX8_103 imX8_isRule seX8_isRule (hp_ot _ 11) rfl rfl rfl (by decide) (by decide) (Nat.le_of_ble_eq_true rfl) ?_
  refine pw_ifb (tgt := 13) (tk tkX8_turnMute 4 rfl) (by decide) (fun c6 => ?_) (fun c6 => ?_)
  · refine pw_iconst (v := 1) (tk tkX8_turnMute 7 rfl) (by decide) ?_
    refine pw_cV (ct_X8_holds x _) okX8_holds (tk tkX8_turnMute 8 rfl) mkX8_97 imX8_holds seX8_holds (hp_ot _ 11) rfl rfl rfl (by decide) (by decide) (Nat.le_of_ble_eq_true rfl) ?_
    refine pw_ifnb (tgt := 22) (tk tkX8_turnMute 9 rfl) (by decide) (fun c17 => absurd c17 (by decide)) (fun c17 => ?_)
    refine pw_iconst (v := 0) (tk tkX8_turnMute 10 rfl) (by decide) ?_
    refine pw_ireturn (tk tkX8_turnMute 11 rfl) rfl (by decide) (by first | rfl | exact nar_bI _) ?_
    have e : sturnMute (aOf x.2.1) r = (1, 0, aOf x.2.1) := (if_pos c6)
    rw [e]
    exact ⟨_, rfl, rfl, rfl, rfl, rfl, hx, AE.rf _⟩
  · refine pw_iconst (v := 0) (tk tkX8_turnMute 5 rfl) (by decide) ?_
    refine pw_goto (tgt := 14) (tk tkX8_turnMute 6 rfl) (by decide) ?_
    refine pw_cV (ct_X8_holds x _) okX8_holds (tk tkX8_turnMute 8 rfl) mkX8_97 imX8_holds seX8_holds (hp_ot _ 11) rfl rfl rfl (by decide) (by decide) (Nat.le_of_ble_eq_true rfl) ?_
    refine pw_ifnb (tgt := 22) (tk tkX8_turnMute 9 rfl) (by decide) (fun c17 => ?_) (fun c17 => absurd c17 (by decide))
    refine pw_aload_n (tk tkX8_turnMute 12 rfl) rfl ?_
    obtain ⟨r1, hr, er, er2⟩ := inR_lt hu (by omega) c6
    refine pw_cV0 (ct_X8_record (xThr x 0) (aK (aOf x.2.1)) hx.1 hx.2.1) okX8_record (tk tkX8_turnMute 13 rfl) mkX8_100 imX8_record seX8_record (hp_ot _ 11) rfl rfl rfl (by decide) (by decide) (Nat.le_of_ble_eq_true rfl) ?_
    rw [xRec_eq x]
    refine pw_bipush (v := 26) (tk tkX8_turnMute 14 rfl) (by decide) ?_
    refine pw_bipush (v := 9) (tk tkX8_turnMute 15 rfl) (by decide) ?_
    refine pw_iload_n (tk tkX8_turnMute 16 rfl) rfl ?_
    refine pw_imul (tk tkX8_turnMute 17 rfl) ?_
    refine pw_iadd (tk tkX8_turnMute 18 rfl) ?_
    refine pw_bipush (v := 7) (tk tkX8_turnMute 19 rfl) (by decide) ?_
    refine pw_iadd (tk tkX8_turnMute 20 rfl) ?_
    refine pw_ist2 (tk tkX8_turnMute 21 rfl) rfl (by decide) ?_
    refine pw_aload_n (tk tkX8_turnMute 22 rfl) rfl ?_
    refine g8_s (tk tkX8_turnMute 23 rfl) fkX8_7 ?_
    refine pw_iload_n (tk tkX8_turnMute 24 rfl) rfl ?_
    refine pw_iconst (v := 1) (tk tkX8_turnMute 25 rfl) (by decide) ?_
    refine pw_aload_n (tk tkX8_turnMute 26 rfl) rfl ?_
    refine g8_s (tk tkX8_turnMute 27 rfl) fkX8_7 ?_
    refine pw_iload_n (tk tkX8_turnMute 28 rfl) rfl ?_
    refine al_s_e (e := 26 + 9 * r1 + 7) (tk tkX8_turnMute 29 rfl) (by rw [er]; simp only [lit_nI, nI_add, pk_mul]) (by first | decide | omega) ?_
    refine pw_isub (tk tkX8_turnMute 30 rfl) ?_
    refine as_s_e (e := 26 + 9 * r1 + 7) (tk tkX8_turnMute 31 rfl) (by rw [er]; simp only [lit_nI, nI_add, pk_mul]) (by first | decide | omega) ?_
    refine pw_aload_n (tk tkX8_turnMute 32 rfl) rfl ?_
    refine g8_s (tk tkX8_turnMute 33 rfl) fkX8_7 ?_
    refine pw_iload_n (tk tkX8_turnMute 34 rfl) rfl ?_
    refine al_s_e (e := 26 + 9 * r1 + 7) (tk tkX8_turnMute 35 rfl) (by rw [er]; simp only [lit_nI, nI_add, pk_mul]) (by first | decide | omega) ?_
    refine pw_iconst (v := 1) (tk tkX8_turnMute 36 rfl) (by decide) ?_
    refine pw_icmp_ne (tgt := 65) (tk tkX8_turnMute 37 rfl) (by decide) (fun c58 => ?_) (fun c58 => ?_)
    · refine pw_iconst (v := 0) (tk tkX8_turnMute 40 rfl) (by decide) ?_
      refine pw_ireturn (tk tkX8_turnMute 41 rfl) rfl (by decide) (by first | rfl | exact nar_bI _) ?_
      have h : ¬ 1 - mS x.2.1 (26 + 9 * r1 + 7) = 1 := fun q => c58 ((upd_at (mS x.2.1) (26 + 9 * r1 + 7) (1 - mS x.2.1 (26 + 9 * r1 + 7))).trans q)
      exact MOQ.rc hx (upd (mS x.2.1) (26 + 9 * r1 + 7) (1 - mS x.2.1 (26 + 9 * r1 + 7))) _ (hvd r1 hr) ((if_neg (ne_f c6)).trans (by rw [er2]; show ((0 : Int32), (if 1 - mS x.2.1 (26 + 9 * r1 + 7) = 1 then (1 : Int32) else 0), (_ : AM)) = _; rw [if_neg h]; rfl))
    · refine pw_iconst (v := 1) (tk tkX8_turnMute 38 rfl) (by decide) ?_
      refine pw_goto (tgt := 66) (tk tkX8_turnMute 39 rfl) (by decide) ?_
      refine pw_ireturn (tk tkX8_turnMute 41 rfl) rfl (by decide) (by first | rfl | exact nar_bI _) ?_
      have h : 1 - mS x.2.1 (26 + 9 * r1 + 7) = 1 := (upd_at (mS x.2.1) (26 + 9 * r1 + 7) (1 - mS x.2.1 (26 + 9 * r1 + 7))).symm.trans c58
      exact MOQ.rc hx (upd (mS x.2.1) (26 + 9 * r1 + 7) (1 - mS x.2.1 (26 + 9 * r1 + 7))) _ (hvd r1 hr) ((if_neg (ne_f c6)).trans (by rw [er2]; show ((0 : Int32), (if 1 - mS x.2.1 (26 + 9 * r1 + 7) = 1 then (1 : Int32) else 0), (_ : AM)) = _; rw [if_pos h]; rfl))
def ssetAction (a : AM) (r k ro c m : Int32) : RS3 := if inR r 0 (aS a 25 - 1) = false then (1, 0, a) else if inR k 0 3 = false then (2, 0, a) else if inR ro 0 5 = false then (2, 0, a) else if inR c 0 2 = false then (2, 0, a) else if inR m (-999) 999 = false then (2, 0, a)
  else (0, rN (aS a) r.toNatClampNeg 3, (upd (upd (upd (upd (aS a) (26 + 9 * r.toNatClampNeg + 3) k) (26 + 9 * r.toNatClampNeg + 4) ro) (26 + 9 * r.toNatClampNeg + 5) c) (26 + 9 * r.toNatClampNeg + 6) m, recH a (aS a), a.2.2))
set_option maxRecDepth 100000 in
set_option maxHeartbeats 4000000 in
theorem ct_X8_setAction (x : XW) (hx : VM x.2.1) (r k ro c m : Int32) : CT MX8_setAction 3 0 [.ref 171, .int r, .int k, .int ro, .int c, .int m] (hp x) (MOQ x (ssetAction (aOf x.2.1) r k ro c m)) := by
  refine ct_of (by decide +kernel) (by decide) rfl (k := 2) (ls := [some (.ref 171), some (.int r), some (.int k), some (.int ro), some (.int c), some (.int m), none, none]) rfl (Nat.le_of_ble_eq_true rfl) ?_
  obtain ⟨hu, hu8⟩ := hx.u
  obtain ⟨l, hl, el⟩ := hx.l
  have hv : VS (uN (mS x.2.1)) (mS x.2.1) := hx.2.2.2.2.2
  have hvd : ∀ r1, r1 < uN (mS x.2.1) → inR k 0 3 = true → inR ro 0 5 = true → inR c 0 2 = true → VS (uN (upd (upd (upd (upd (mS x.2.1) (26 + 9 * r1 + 3) k) (26 + 9 * r1 + 4) ro) (26 + 9 * r1 + 5) c) (26 + 9 * r1 + 6) m)) (upd (upd (upd (upd (mS x.2.1) (26 + 9 * r1 + 3) k) (26 + 9 * r1 + 4) ro) (26 + 9 * r1 + 5) c) (26 + 9 * r1 + 6) m) := by
    intro r1 h h3 h4 h5
    obtain ⟨k1, hk1, ek1⟩ := inR_nI (n := 3) (by decide) h3
    obtain ⟨o1, ho1, eo1, _⟩ := inR_row h4
    obtain ⟨c1, hc1, ec1, _⟩ := inR_col h5
    have g : ∀ j, j < 26 ∨ 98 ≤ j → upd (upd (upd (upd (mS x.2.1) (26 + 9 * r1 + 3) k) (26 + 9 * r1 + 4) ro) (26 + 9 * r1 + 5) c) (26 + 9 * r1 + 6) m j = mS x.2.1 j := fun j hj => by rw [upd_nt _ _ (by omega), upd_nt _ _ (by omega), upd_nt _ _ (by omega), upd_nt _ _ (by omega)]
    rw [uN_of (g 25 (by omega))]
    obtain ⟨b1, b2, b3, b4, b5, b6⟩ := hv
    refine ⟨b1, (g 25 (by omega)).trans b2, (by rw [g 24 (by omega)]; exact b3), (by rw [g 99 (by omega)]; exact b4), fun j hj => by rw [g j (by omega)]; exact b5 j hj, fun i hi => ?_⟩
    obtain ⟨q1, q2, q3, q4, q5⟩ := b6 i hi
    by_cases e : i = r1
    · subst e
      unfold rN at *
      rw [show upd (upd (upd (upd (mS x.2.1) (26 + 9 * i + 3) k) (26 + 9 * i + 4) ro) (26 + 9 * i + 5) c) (26 + 9 * i + 6) m (26 + 9 * i + 1) = mS x.2.1 (26 + 9 * i + 1) from by rw [upd_nt _ _ (by omega), upd_nt _ _ (by omega), upd_nt _ _ (by omega), upd_nt _ _ (by omega)],
        show upd (upd (upd (upd (mS x.2.1) (26 + 9 * i + 3) k) (26 + 9 * i + 4) ro) (26 + 9 * i + 5) c) (26 + 9 * i + 6) m (26 + 9 * i + 7) = mS x.2.1 (26 + 9 * i + 7) from by rw [upd_nt _ _ (by omega), upd_nt _ _ (by omega), upd_nt _ _ (by omega), upd_nt _ _ (by omega)],
        show upd (upd (upd (upd (mS x.2.1) (26 + 9 * i + 3) k) (26 + 9 * i + 4) ro) (26 + 9 * i + 5) c) (26 + 9 * i + 6) m (26 + 9 * i + 4) = ro from by rw [upd_nt _ _ (by omega), upd_nt _ _ (by omega), upd_at],
        show upd (upd (upd (upd (mS x.2.1) (26 + 9 * i + 3) k) (26 + 9 * i + 4) ro) (26 + 9 * i + 5) c) (26 + 9 * i + 6) m (26 + 9 * i + 5) = c from by rw [upd_nt _ _ (by omega), upd_at],
        show upd (upd (upd (upd (mS x.2.1) (26 + 9 * i + 3) k) (26 + 9 * i + 4) ro) (26 + 9 * i + 5) c) (26 + 9 * i + 6) m (26 + 9 * i + 3) = k from by rw [upd_nt _ _ (by omega), upd_nt _ _ (by omega), upd_nt _ _ (by omega), upd_at]]
      refine ⟨q1, ⟨o1, ho1, eo1⟩, ⟨c1, hc1, ec1⟩, q4, ?_⟩
      rw [ek1]
      match k1, hk1 with
      | 0, _ => exact .inl rfl
      | 1, _ => exact .inr (.inl rfl)
      | 2, _ => exact .inr (.inr (.inl rfl))
      | 3, _ => exact .inr (.inr (.inr rfl))
      | k1 + 4, h => exact absurd h (by omega)
    · have g2 : ∀ w, w < 9 → rN (upd (upd (upd (upd (mS x.2.1) (26 + 9 * r1 + 3) k) (26 + 9 * r1 + 4) ro) (26 + 9 * r1 + 5) c) (26 + 9 * r1 + 6) m) i w = rN (mS x.2.1) i w := fun w hw => by unfold rN; rw [upd_nt _ _ (by omega), upd_nt _ _ (by omega), upd_nt _ _ (by omega), upd_nt _ _ (by omega)]
      rw [g2 1 (by omega), g2 4 (by omega), g2 5 (by omega), g2 7 (by omega), g2 3 (by omega)]
      exact ⟨q1, q2, q3, q4, q5⟩
  refine pw_aload_n (tk tkX8_setAction 0 rfl) rfl ?_
  refine pw_aload_n (tk tkX8_setAction 1 rfl) rfl ?_
  refine pw_iload_n (tk tkX8_setAction 2 rfl) rfl ?_
  refine pw_cV (ct_X8_isRule x _) okX8_isRule (tk tkX8_setAction 3 rfl) mkX8_103 imX8_isRule seX8_isRule (hp_ot _ 11) rfl rfl rfl (by decide) (by decide) (Nat.le_of_ble_eq_true rfl) ?_
  refine pw_ifnb (tgt := 13) (tk tkX8_setAction 4 rfl) (by decide) (fun c6 => ?_) (fun c6 => ?_)
  · refine pw_iload_n (tk tkX8_setAction 7 rfl) rfl ?_
    refine pw_iconst (v := 0) (tk tkX8_setAction 8 rfl) (by decide) ?_
    refine pw_iconst (v := 3) (tk tkX8_setAction 9 rfl) (by decide) ?_
    refine pw_cS (ct_X8_in _ _ _ _) okX8_in (tk tkX8_setAction 10 rfl) mkX8_32 stX8_in rfl rfl (by decide) (by decide) (Nat.le_of_ble_eq_true rfl) ?_
    refine pw_ifb (tgt := 55) (tk tkX8_setAction 11 rfl) (by decide) (fun c19 => ?_) (fun c19 => ?_)
    · refine pw_iconst (v := 2) (tk tkX8_setAction 25 rfl) (by decide) ?_
      refine pw_cV (ct_X8_holds x _) okX8_holds (tk tkX8_setAction 26 rfl) mkX8_97 imX8_holds seX8_holds (hp_ot _ 11) rfl rfl rfl (by decide) (by decide) (Nat.le_of_ble_eq_true rfl) ?_
      refine pw_ifnb (tgt := 64) (tk tkX8_setAction 27 rfl) (by decide) (fun c59 => absurd c59 (by decide)) (fun c59 => ?_)
      refine pw_iconst (v := 0) (tk tkX8_setAction 28 rfl) (by decide) ?_
      refine pw_ireturn (tk tkX8_setAction 29 rfl) rfl (by decide) rfl ?_
      have e : ssetAction (aOf x.2.1) r k ro c m = (2, 0, aOf x.2.1) := ((if_neg (ne_f c6)).trans (if_pos c19))
      rw [e]
      exact ⟨_, rfl, rfl, rfl, rfl, rfl, hx, AE.rf _⟩
    · refine pw_iload_n (tk tkX8_setAction 12 rfl) rfl ?_
      refine pw_cS (ct_X8_isRow _ _) okX8_isRow (tk tkX8_setAction 13 rfl) mkX8_106 stX8_isRow rfl rfl (by decide) (by decide) (Nat.le_of_ble_eq_true rfl) ?_
      refine pw_ifb (tgt := 55) (tk tkX8_setAction 14 rfl) (by decide) (fun c26 => ?_) (fun c26 => ?_)
      · refine pw_iconst (v := 2) (tk tkX8_setAction 25 rfl) (by decide) ?_
        refine pw_cV (ct_X8_holds x _) okX8_holds (tk tkX8_setAction 26 rfl) mkX8_97 imX8_holds seX8_holds (hp_ot _ 11) rfl rfl rfl (by decide) (by decide) (Nat.le_of_ble_eq_true rfl) ?_
        refine pw_ifnb (tgt := 64) (tk tkX8_setAction 27 rfl) (by decide) (fun c59 => absurd c59 (by decide)) (fun c59 => ?_)
        refine pw_iconst (v := 0) (tk tkX8_setAction 28 rfl) (by decide) ?_
        refine pw_ireturn (tk tkX8_setAction 29 rfl) rfl (by decide) rfl ?_
        have e : ssetAction (aOf x.2.1) r k ro c m = (2, 0, aOf x.2.1) := ((if_neg (ne_f c6)).trans ((if_neg (ne_f c19)).trans (if_pos c26)))
        rw [e]
        exact ⟨_, rfl, rfl, rfl, rfl, rfl, hx, AE.rf _⟩
      · refine pw_iload (tk tkX8_setAction 15 rfl) rfl ?_
        refine pw_cS (ct_X8_isColumn _ _) okX8_isColumn (tk tkX8_setAction 16 rfl) mkX8_94 stX8_isColumn rfl rfl (by decide) (by decide) (Nat.le_of_ble_eq_true rfl) ?_
        refine pw_ifb (tgt := 55) (tk tkX8_setAction 17 rfl) (by decide) (fun c34 => ?_) (fun c34 => ?_)
        · refine pw_iconst (v := 2) (tk tkX8_setAction 25 rfl) (by decide) ?_
          refine pw_cV (ct_X8_holds x _) okX8_holds (tk tkX8_setAction 26 rfl) mkX8_97 imX8_holds seX8_holds (hp_ot _ 11) rfl rfl rfl (by decide) (by decide) (Nat.le_of_ble_eq_true rfl) ?_
          refine pw_ifnb (tgt := 64) (tk tkX8_setAction 27 rfl) (by decide) (fun c59 => absurd c59 (by decide)) (fun c59 => ?_)
          refine pw_iconst (v := 0) (tk tkX8_setAction 28 rfl) (by decide) ?_
          refine pw_ireturn (tk tkX8_setAction 29 rfl) rfl (by decide) rfl ?_
          have e : ssetAction (aOf x.2.1) r k ro c m = (2, 0, aOf x.2.1) := ((if_neg (ne_f c6)).trans ((if_neg (ne_f c19)).trans ((if_neg (ne_f c26)).trans (if_pos c34))))
          rw [e]
          exact ⟨_, rfl, rfl, rfl, rfl, rfl, hx, AE.rf _⟩
        · refine pw_iload (tk tkX8_setAction 18 rfl) rfl ?_
          refine pw_sipush (v := (-999)) (tk tkX8_setAction 19 rfl) (by decide) ?_
          refine pw_sipush (v := 999) (tk tkX8_setAction 20 rfl) (by decide) ?_
          refine pw_cS (ct_X8_in _ _ _ _) okX8_in (tk tkX8_setAction 21 rfl) mkX8_32 stX8_in rfl rfl (by decide) (by decide) (Nat.le_of_ble_eq_true rfl) ?_
          refine pw_ifb (tgt := 55) (tk tkX8_setAction 22 rfl) (by decide) (fun c48 => ?_) (fun c48 => ?_)
          · refine pw_iconst (v := 2) (tk tkX8_setAction 25 rfl) (by decide) ?_
            refine pw_cV (ct_X8_holds x _) okX8_holds (tk tkX8_setAction 26 rfl) mkX8_97 imX8_holds seX8_holds (hp_ot _ 11) rfl rfl rfl (by decide) (by decide) (Nat.le_of_ble_eq_true rfl) ?_
            refine pw_ifnb (tgt := 64) (tk tkX8_setAction 27 rfl) (by decide) (fun c59 => absurd c59 (by decide)) (fun c59 => ?_)
            refine pw_iconst (v := 0) (tk tkX8_setAction 28 rfl) (by decide) ?_
            refine pw_ireturn (tk tkX8_setAction 29 rfl) rfl (by decide) rfl ?_
            have e : ssetAction (aOf x.2.1) r k ro c m = (2, 0, aOf x.2.1) := ((if_neg (ne_f c6)).trans ((if_neg (ne_f c19)).trans ((if_neg (ne_f c26)).trans ((if_neg (ne_f c34)).trans (if_pos c48)))))
            rw [e]
            exact ⟨_, rfl, rfl, rfl, rfl, rfl, hx, AE.rf _⟩
          · refine pw_iconst (v := 0) (tk tkX8_setAction 23 rfl) (by decide) ?_
            refine pw_goto (tgt := 56) (tk tkX8_setAction 24 rfl) (by decide) ?_
            refine pw_cV (ct_X8_holds x _) okX8_holds (tk tkX8_setAction 26 rfl) mkX8_97 imX8_holds seX8_holds (hp_ot _ 11) rfl rfl rfl (by decide) (by decide) (Nat.le_of_ble_eq_true rfl) ?_
            refine pw_ifnb (tgt := 64) (tk tkX8_setAction 27 rfl) (by decide) (fun c59 => ?_) (fun c59 => absurd c59 (by decide))
            refine pw_aload_n (tk tkX8_setAction 30 rfl) rfl ?_
            obtain ⟨r1, hr, er, er2⟩ := inR_lt hu (by omega) c6
            refine pw_cV0 (ct_X8_record (xThr x 0) (aK (aOf x.2.1)) hx.1 hx.2.1) okX8_record (tk tkX8_setAction 31 rfl) mkX8_100 imX8_record seX8_record (hp_ot _ 11) rfl rfl rfl (by decide) (by decide) (Nat.le_of_ble_eq_true rfl) ?_
            rw [xRec_eq x]
            refine pw_bipush (v := 26) (tk tkX8_setAction 32 rfl) (by decide) ?_
            refine pw_bipush (v := 9) (tk tkX8_setAction 33 rfl) (by decide) ?_
            refine pw_iload_n (tk tkX8_setAction 34 rfl) rfl ?_
            refine pw_imul (tk tkX8_setAction 35 rfl) ?_
            refine pw_iadd (tk tkX8_setAction 36 rfl) ?_
            refine pw_ist6 (tk tkX8_setAction 37 rfl) rfl (by decide) ?_
            refine pw_aload_n (tk tkX8_setAction 38 rfl) rfl ?_
            refine g8_s (tk tkX8_setAction 39 rfl) fkX8_7 ?_
            refine pw_iload (tk tkX8_setAction 40 rfl) rfl ?_
            refine pw_iconst (v := 3) (tk tkX8_setAction 41 rfl) (by decide) ?_
            refine pw_iadd (tk tkX8_setAction 42 rfl) ?_
            refine al_s_e (e := 26 + 9 * r1 + 3) (tk tkX8_setAction 43 rfl) (by rw [er]; simp only [lit_nI, nI_add, pk_mul]) (by first | decide | omega) ?_
            refine pw_ist7 (tk tkX8_setAction 44 rfl) rfl (by decide) ?_
            refine pw_aload_n (tk tkX8_setAction 45 rfl) rfl ?_
            refine g8_s (tk tkX8_setAction 46 rfl) fkX8_7 ?_
            refine pw_iload (tk tkX8_setAction 47 rfl) rfl ?_
            refine pw_iconst (v := 3) (tk tkX8_setAction 48 rfl) (by decide) ?_
            refine pw_iadd (tk tkX8_setAction 49 rfl) ?_
            refine pw_iload_n (tk tkX8_setAction 50 rfl) rfl ?_
            refine as_s_e (e := 26 + 9 * r1 + 3) (tk tkX8_setAction 51 rfl) (by rw [er]; simp only [lit_nI, nI_add, pk_mul]) (by first | decide | omega) ?_
            refine pw_aload_n (tk tkX8_setAction 52 rfl) rfl ?_
            refine g8_s (tk tkX8_setAction 53 rfl) fkX8_7 ?_
            refine pw_iload (tk tkX8_setAction 54 rfl) rfl ?_
            refine pw_iconst (v := 4) (tk tkX8_setAction 55 rfl) (by decide) ?_
            refine pw_iadd (tk tkX8_setAction 56 rfl) ?_
            refine pw_iload_n (tk tkX8_setAction 57 rfl) rfl ?_
            refine as_s_e (e := 26 + 9 * r1 + 4) (tk tkX8_setAction 58 rfl) (by rw [er]; simp only [lit_nI, nI_add, pk_mul]) (by first | decide | omega) ?_
            refine pw_aload_n (tk tkX8_setAction 59 rfl) rfl ?_
            refine g8_s (tk tkX8_setAction 60 rfl) fkX8_7 ?_
            refine pw_iload (tk tkX8_setAction 61 rfl) rfl ?_
            refine pw_iconst (v := 5) (tk tkX8_setAction 62 rfl) (by decide) ?_
            refine pw_iadd (tk tkX8_setAction 63 rfl) ?_
            refine pw_iload (tk tkX8_setAction 64 rfl) rfl ?_
            refine as_s_e (e := 26 + 9 * r1 + 5) (tk tkX8_setAction 65 rfl) (by rw [er]; simp only [lit_nI, nI_add, pk_mul]) (by first | decide | omega) ?_
            refine pw_aload_n (tk tkX8_setAction 66 rfl) rfl ?_
            refine g8_s (tk tkX8_setAction 67 rfl) fkX8_7 ?_
            refine pw_iload (tk tkX8_setAction 68 rfl) rfl ?_
            refine pw_bipush (v := 6) (tk tkX8_setAction 69 rfl) (by decide) ?_
            refine pw_iadd (tk tkX8_setAction 70 rfl) ?_
            refine pw_iload (tk tkX8_setAction 71 rfl) rfl ?_
            refine as_s_e (e := 26 + 9 * r1 + 6) (tk tkX8_setAction 72 rfl) (by rw [er]; simp only [lit_nI, nI_add, pk_mul]) (by first | decide | omega) ?_
            refine pw_iload (tk tkX8_setAction 73 rfl) rfl ?_
            refine pw_ireturn (tk tkX8_setAction 74 rfl) rfl (by decide) rfl ?_
            exact MOQ.rc hx (upd (upd (upd (upd (mS x.2.1) (26 + 9 * r1 + 3) k) (26 + 9 * r1 + 4) ro) (26 + 9 * r1 + 5) c) (26 + 9 * r1 + 6) m) _ (hvd r1 hr c19 c26 c34) (((if_neg (ne_f c6)).trans ((if_neg (ne_f c19)).trans ((if_neg (ne_f c26)).trans ((if_neg (ne_f c34)).trans ((if_neg (ne_f c48)).trans (by rw [er2]; rfl)))))))
  · refine pw_iconst (v := 1) (tk tkX8_setAction 5 rfl) (by decide) ?_
    refine pw_goto (tgt := 56) (tk tkX8_setAction 6 rfl) (by decide) ?_
    refine pw_cV (ct_X8_holds x _) okX8_holds (tk tkX8_setAction 26 rfl) mkX8_97 imX8_holds seX8_holds (hp_ot _ 11) rfl rfl rfl (by decide) (by decide) (Nat.le_of_ble_eq_true rfl) ?_
    refine pw_ifnb (tgt := 64) (tk tkX8_setAction 27 rfl) (by decide) (fun c59 => absurd c59 (by decide)) (fun c59 => ?_)
    refine pw_iconst (v := 0) (tk tkX8_setAction 28 rfl) (by decide) ?_
    refine pw_ireturn (tk tkX8_setAction 29 rfl) rfl (by decide) rfl ?_
    have e : ssetAction (aOf x.2.1) r k ro c m = (1, 0, aOf x.2.1) := (if_pos c6)
    rw [e]
    exact ⟨_, rfl, rfl, rfl, rfl, rfl, hx, AE.rf _⟩
end
section
def zrN (k p : Nat) (f : Nat → Int32) : Nat → Int32 := fun j => if p ≤ j ∧ j < p + k then 0 else f j
theorem zrN_0 (p : Nat) (f : Nat → Int32) : zrN 0 p f = f := by funext j; unfold zrN; rw [if_neg (by omega)]
theorem zrN_s (k p : Nat) (f : Nat → Int32) : upd (zrN k p f) (p + k) 0 = zrN (k + 1) p f := by
  funext j
  unfold zrN upd
  by_cases e : j = p + k
  · subst e; rw [if_pos rfl, if_pos (by omega)]
  · rw [if_neg e]
    dsimp only
    by_cases e2 : p ≤ j ∧ j < p + k
    · rw [if_pos e2, if_pos (by omega)]
    · rw [if_neg e2, if_neg (by omega)]
def newR (s : Nat → Int32) (u : Nat) (e c l : Int32) : Nat → Int32 := upd (upd (upd (upd (zrN 9 (26 + 9 * u) s) (26 + 9 * u) e) (26 + 9 * u + 1) c) (26 + 9 * u + 2) l) 25 (nI (u + 1))
theorem newR_nt (s : Nat → Int32) (u : Nat) (e c l : Int32) {j : Nat} (h : j ≠ 25) (h2 : j < 26 + 9 * u ∨ 26 + 9 * u + 9 ≤ j) : newR s u e c l j = s j := by
  unfold newR; rw [upd_nt _ _ h, upd_nt _ _ (by omega), upd_nt _ _ (by omega), upd_nt _ _ (by omega)]; unfold zrN; rw [if_neg (by omega)]
theorem newR_z (s : Nat → Int32) (u : Nat) (e c l : Int32) {k : Nat} (h : 3 ≤ k) (h9 : k < 9) : newR s u e c l (26 + 9 * u + k) = 0 := by
  unfold newR; rw [upd_nt _ _ (by omega), upd_nt _ _ (by omega), upd_nt _ _ (by omega), upd_nt _ _ (by omega)]; unfold zrN; rw [if_pos (by omega)]
theorem newR_VS {s : Nat → Int32} {u : Nat} (h : VS u s) (e c l : Int32) (h8 : u < 8) (hc : inR c 0 2 = true) : VS (uN (newR s u e c l)) (newR s u e c l) := by
  have e25 : newR s u e c l 25 = nI (u + 1) := upd_at _ _ _
  have eu : uN (newR s u e c l) = u + 1 := by unfold uN; rw [e25, nI_clamp (by omega)]
  obtain ⟨c1, hc1, ec1, _⟩ := inR_col hc
  rw [eu]
  obtain ⟨b1, b2, b3, b4, b5, b6⟩ := h
  refine ⟨by omega, e25, (by rw [newR_nt _ _ _ _ _ (by omega) (by omega)]; exact b3), (by rw [newR_nt _ _ _ _ _ (by omega) (by omega)]; exact b4), fun j hj => by rw [newR_nt _ _ _ _ _ (by omega) (by omega)]; exact b5 j hj, fun i hi => ?_⟩
  by_cases q : i = u
  · subst q
    unfold rN
    rw [newR_z s i e c l (k := 4) (by omega) (by omega), newR_z s i e c l (k := 5) (by omega) (by omega), newR_z s i e c l (k := 7) (by omega) (by omega), newR_z s i e c l (k := 3) (by omega) (by omega)]
    refine ⟨⟨c1, hc1, ?_⟩, ⟨0, by omega, rfl⟩, ⟨0, by omega, rfl⟩, .inl rfl, .inl rfl⟩
    unfold newR
    rw [upd_nt _ _ (by omega), upd_nt _ _ (by omega), upd_at]
    exact ec1
  · have g : ∀ w, w < 9 → rN (newR s u e c l) i w = rN s i w := fun w hw => newR_nt _ _ _ _ _ (by omega) (by omega)
    rw [g 1 (by omega), g 4 (by omega), g 5 (by omega), g 7 (by omega), g 3 (by omega)]
    exact b6 i (by omega)
theorem VS.E {u : Nat} {s t : Nat → Int32} (h : VS u s) (e : E132 s t) : VS u t := by
  obtain ⟨b1, b2, b3, b4, b5, b6⟩ := h
  refine ⟨b1, by rw [← e 25 (by omega)]; exact b2, (by rw [← e 24 (by omega)]; exact b3), (by rw [← e 99 (by omega)]; exact b4), fun j hj => by rw [← e j (by omega)]; exact b5 j hj, fun i hi => ?_⟩
  have g : ∀ w, w < 9 → rN t i w = rN s i w := fun w hw => (e _ (by omega)).symm
  rw [g 1 (by omega), g 4 (by omega), g 5 (by omega), g 7 (by omega), g 3 (by omega)]
  exact b6 i hi
theorem uN_E {s t : Nat → Int32} (e : E132 s t) : uN t = uN s := by unfold uN; rw [e 25 (by omega)]
theorem VS.EE {s t : Nat → Int32} (h : VS (uN s) s) (e : E132 s t) : VS (uN t) t := by rw [uN_E e]; exact h.E e
/-- what is recorded and saved is as the numbers are -/
def VA (a : AM) : Prop := (∀ i, i < aK a → VS (uN (aH a i)) (aH a i)) ∧ ∀ i, i < 2 → aB a i = true → VS (uN (aL a i)) (aL a i)
def saddRule (a : AM) (e c l : Int32) : RS3 := if inR e 0 2 = false then (1, 0, a) else if inR c 0 2 = false then (1, 0, a) else if inR l 0 999 = false then (1, 0, a) else if aS a 25 = 8 then (2, 0, a) else (0, nI (uN (aS a)), (newR (aS a) (uN (aS a)) e c l, recH a (aS a), a.2.2))
set_option maxRecDepth 100000 in
set_option maxHeartbeats 4000000 in
theorem ct_X8_addRule (x : XW) (hx : VM x.2.1) (e c l : Int32) : CT MX8_addRule 3 0 [.ref 171, .int e, .int c, .int l] (hp x) (MOQ x (saddRule (aOf x.2.1) e c l)) := by
  refine ct_of (by decide +kernel) (by decide) rfl (k := 2) (ls := [some (.ref 171), some (.int e), some (.int c), some (.int l), none, none]) rfl (Nat.le_of_ble_eq_true rfl) ?_
  obtain ⟨hu, hu8⟩ := hx.u
  obtain ⟨l99, hl, el⟩ := hx.l
  have hv : VS (uN (mS x.2.1)) (mS x.2.1) := hx.2.2.2.2.2
  obtain ⟨u, eu⟩ : ∃ u, u = uN (mS x.2.1) := ⟨_, rfl⟩
  rw [← eu] at hu hu8 hv
  have J129 : ∀ f3, f3 = (upd (upd (upd (zrN 9 (26 + 9 * u) (mS x.2.1)) (26 + 9 * u) e) (26 + 9 * u + 1) c) (26 + 9 * u + 2) l) → u < 8 → inR c 0 2 = true → saddRule (aOf x.2.1) e c l = (0, nI u, (newR (mS x.2.1) u e c l, recH (aOf x.2.1) (mS x.2.1), (aOf x.2.1).2.2)) → PW MX8_addRule 3 0 129 [some (.ref 171), some (.int e), some (.int c), some (.int l), some (.int (nI (26 + 9 * u))), some (.int (nI 9))] [] (hp (uM1 (xRec (xThr x 0) (aK (aOf x.2.1))) f3)) (MOQ x (saddRule (aOf x.2.1) e c l)) := by
    intro f3 hf h8 hc2 he
    have e25 : f3 25 = nI u := by rw [hf, upd_nt _ _ (by omega), upd_nt _ _ (by omega), upd_nt _ _ (by omega)]; unfold zrN; rw [if_neg (by omega)]; exact hu
    refine pw_aload_n (tk tkX8_addRule 73 rfl) rfl ?_
    refine g8_s (tk tkX8_addRule 74 rfl) fkX8_7 ?_
    refine pw_bipush (v := 25) (tk tkX8_addRule 75 rfl) (by decide) ?_
    refine pw_dup2 (tk tkX8_addRule 76 rfl) rfl rfl ?_
    refine al_s_e (e := 25) (tk tkX8_addRule 77 rfl) rfl (by first | decide | omega) ?_
    refine pw_iconst (v := 1) (tk tkX8_addRule 78 rfl) (by decide) ?_
    refine pw_iadd (tk tkX8_addRule 79 rfl) ?_
    rw [show mS (uM1 (xRec (xThr x 0) (aK (aOf x.2.1))) f3).2.1 25 + 1 = nI (u + 1) from by rw [← nI_1 u]; exact congrArg (· + 1) e25]
    refine as_s_e (e := 25) (tk tkX8_addRule 80 rfl) rfl (by first | decide | omega) ?_
    refine pw_aload_n (tk tkX8_addRule 81 rfl) rfl ?_
    refine g8_s (tk tkX8_addRule 82 rfl) fkX8_7 ?_
    refine pw_bipush (v := 25) (tk tkX8_addRule 83 rfl) (by decide) ?_
    refine al_s_e (e := 25) (tk tkX8_addRule 84 rfl) rfl (by first | decide | omega) ?_
    refine pw_iconst (v := 1) (tk tkX8_addRule 85 rfl) (by decide) ?_
    refine pw_isub (tk tkX8_addRule 86 rfl) ?_
    refine pw_ireturn (tk tkX8_addRule 87 rfl) rfl (by decide) rfl ?_
    have e9 : (nI (u + 1)) - 1 = nI u := nI_pred u
    have q := MOQ.rc hx (newR (mS x.2.1) u e c l) (nI u) (newR_VS hv e c l h8 hc2) he
    rw [← e9] at q
    subst hf
    exact q
  have L : ∀ k i, i + k = 9 → ∀ (y : XW) (hy : y = uM1 (xRec (xThr x 0) (aK (aOf x.2.1))) (zrN i (26 + 9 * u) (mS x.2.1))) (h8 : u < 8) (hc2 : inR c 0 2 = true) (he : saddRule (aOf x.2.1) e c l = (0, nI u, (newR (mS x.2.1) u e c l, recH (aOf x.2.1) (mS x.2.1), (aOf x.2.1).2.2))), PW MX8_addRule 3 0 75 [some (.ref 171), some (.int e), some (.int c), some (.int l), some (.int (nI (26 + 9 * u))), some (.int (nI i))] [] (hp y) (MOQ x (saddRule (aOf x.2.1) e c l)) := by
    intro k
    induction k with
    | zero =>
      intro i hi y hy h8 hc2 he
      have ei : i = 9 := by omega
      rw [ei]
      refine pw_iload (tk tkX8_addRule 40 rfl) rfl ?_
      refine pw_bipush (v := 9) (tk tkX8_addRule 41 rfl) (by decide) ?_
      refine pw_icmp_ge (tgt := 99) (tk tkX8_addRule 42 rfl) (by decide) (fun c79 => ?_) (fun c79 => absurd (Int32.le_refl _) c79)
      rw [ei] at hy
      subst hy
      refine pw_aload_n (tk tkX8_addRule 52 rfl) rfl ?_
      refine g8_s (tk tkX8_addRule 53 rfl) fkX8_7 ?_
      refine pw_iload (tk tkX8_addRule 54 rfl) rfl ?_
      refine pw_iconst (v := 0) (tk tkX8_addRule 55 rfl) (by decide) ?_
      refine pw_iadd (tk tkX8_addRule 56 rfl) ?_
      refine pw_iload_n (tk tkX8_addRule 57 rfl) rfl ?_
      refine as_s_e (e := 26 + 9 * u) (tk tkX8_addRule 58 rfl) (Int32.add_zero _) (by first | decide | omega) ?_
      refine pw_aload_n (tk tkX8_addRule 59 rfl) rfl ?_
      refine g8_s (tk tkX8_addRule 60 rfl) fkX8_7 ?_
      refine pw_iload (tk tkX8_addRule 61 rfl) rfl ?_
      refine pw_iconst (v := 1) (tk tkX8_addRule 62 rfl) (by decide) ?_
      refine pw_iadd (tk tkX8_addRule 63 rfl) ?_
      refine pw_iload_n (tk tkX8_addRule 64 rfl) rfl ?_
      refine as_s_e (e := 26 + 9 * u + 1) (tk tkX8_addRule 65 rfl) (by simp only [lit_nI, nI_add]) (by first | decide | omega) ?_
      refine pw_aload_n (tk tkX8_addRule 66 rfl) rfl ?_
      refine g8_s (tk tkX8_addRule 67 rfl) fkX8_7 ?_
      refine pw_iload (tk tkX8_addRule 68 rfl) rfl ?_
      refine pw_iconst (v := 2) (tk tkX8_addRule 69 rfl) (by decide) ?_
      refine pw_iadd (tk tkX8_addRule 70 rfl) ?_
      refine pw_iload_n (tk tkX8_addRule 71 rfl) rfl ?_
      refine as_s_e (e := 26 + 9 * u + 2) (tk tkX8_addRule 72 rfl) (by simp only [lit_nI, nI_add]) (by first | decide | omega) ?_
      exact J129 _ rfl h8 hc2 he
    | succ k ih =>
      intro i hi y hy h8 hc2 he
      refine pw_iload (tk tkX8_addRule 40 rfl) rfl ?_
      refine pw_bipush (v := 9) (tk tkX8_addRule 41 rfl) (by decide) ?_
      refine pw_icmp_ge (tgt := 99) (tk tkX8_addRule 42 rfl) (by decide) (fun c79 => absurd c79 (nI_ge (b := 9) (by omega) (by decide))) (fun c79 => ?_)
      refine pw_aload_n (tk tkX8_addRule 43 rfl) rfl ?_
      refine g8_s (tk tkX8_addRule 44 rfl) fkX8_7 ?_
      refine pw_iload (tk tkX8_addRule 45 rfl) rfl ?_
      refine pw_iload (tk tkX8_addRule 46 rfl) rfl ?_
      refine pw_iadd (tk tkX8_addRule 47 rfl) ?_
      refine pw_iconst (v := 0) (tk tkX8_addRule 48 rfl) (by decide) ?_
      refine as_s_e (e := 26 + 9 * u + i) (tk tkX8_addRule 49 rfl) (by simp only [nI_add]) (by first | decide | omega) ?_
      refine pw_inc5 (tk tkX8_addRule 50 rfl) rfl (by decide) (nI_1 i) ?_
      refine pw_goto (tgt := 75) (tk tkX8_addRule 51 rfl) (by decide) ?_
      refine ih (i + 1) (by omega) _ ?_ h8 hc2 he
      rw [hy]
      show uM1 (xRec (xThr x 0) (aK (aOf x.2.1))) (upd (zrN i (26 + 9 * u) (mS x.2.1)) (26 + 9 * u + i) 0) = _
      rw [zrN_s]
  refine pw_aload_n (tk tkX8_addRule 0 rfl) rfl ?_
  refine pw_iload_n (tk tkX8_addRule 1 rfl) rfl ?_
  refine pw_iconst (v := 0) (tk tkX8_addRule 2 rfl) (by decide) ?_
  refine pw_iconst (v := 2) (tk tkX8_addRule 3 rfl) (by decide) ?_
  refine pw_cS (ct_X8_in _ _ _ _) okX8_in (tk tkX8_addRule 4 rfl) mkX8_32 stX8_in rfl rfl (by decide) (by decide) (Nat.le_of_ble_eq_true rfl) ?_
  refine pw_ifb (tgt := 24) (tk tkX8_addRule 5 rfl) (by decide) (fun c7 => ?_) (fun c7 => ?_)
  · refine pw_iconst (v := 1) (tk tkX8_addRule 12 rfl) (by decide) ?_
    refine pw_goto (tgt := 45) (tk tkX8_addRule 13 rfl) (by decide) ?_
    refine pw_cV (ct_X8_holds x _) okX8_holds (tk tkX8_addRule 23 rfl) mkX8_97 imX8_holds seX8_holds (hp_ot _ 11) rfl rfl rfl (by decide) (by decide) (Nat.le_of_ble_eq_true rfl) ?_
    refine pw_ifnb (tgt := 53) (tk tkX8_addRule 24 rfl) (by decide) (fun c48 => absurd c48 (by decide)) (fun c48 => ?_)
    refine pw_iconst (v := 0) (tk tkX8_addRule 25 rfl) (by decide) ?_
    refine pw_ireturn (tk tkX8_addRule 26 rfl) rfl (by decide) rfl ?_
    have e : saddRule (aOf x.2.1) e c l = (1, 0, aOf x.2.1) := (if_pos c7)
    rw [e]
    exact ⟨_, rfl, rfl, rfl, rfl, rfl, hx, AE.rf _⟩
  · refine pw_iload_n (tk tkX8_addRule 6 rfl) rfl ?_
    refine pw_cS (ct_X8_isColumn _ _) okX8_isColumn (tk tkX8_addRule 7 rfl) mkX8_94 stX8_isColumn rfl rfl (by decide) (by decide) (Nat.le_of_ble_eq_true rfl) ?_
    refine pw_ifb (tgt := 24) (tk tkX8_addRule 8 rfl) (by decide) (fun c14 => ?_) (fun c14 => ?_)
    · refine pw_iconst (v := 1) (tk tkX8_addRule 12 rfl) (by decide) ?_
      refine pw_goto (tgt := 45) (tk tkX8_addRule 13 rfl) (by decide) ?_
      refine pw_cV (ct_X8_holds x _) okX8_holds (tk tkX8_addRule 23 rfl) mkX8_97 imX8_holds seX8_holds (hp_ot _ 11) rfl rfl rfl (by decide) (by decide) (Nat.le_of_ble_eq_true rfl) ?_
      refine pw_ifnb (tgt := 53) (tk tkX8_addRule 24 rfl) (by decide) (fun c48 => absurd c48 (by decide)) (fun c48 => ?_)
      refine pw_iconst (v := 0) (tk tkX8_addRule 25 rfl) (by decide) ?_
      refine pw_ireturn (tk tkX8_addRule 26 rfl) rfl (by decide) rfl ?_
      have e : saddRule (aOf x.2.1) e c l = (1, 0, aOf x.2.1) := ((if_neg (ne_f c7)).trans (if_pos c14))
      rw [e]
      exact ⟨_, rfl, rfl, rfl, rfl, rfl, hx, AE.rf _⟩
    · refine pw_iload_n (tk tkX8_addRule 9 rfl) rfl ?_
      refine pw_cS (ct_X8_isValue _ _) okX8_isValue (tk tkX8_addRule 10 rfl) mkX8_76 stX8_isValue rfl rfl (by decide) (by decide) (Nat.le_of_ble_eq_true rfl) ?_
      refine pw_ifnb (tgt := 28) (tk tkX8_addRule 11 rfl) (by decide) (fun c21 => ?_) (fun c21 => ?_)
      · refine pw_aload_n (tk tkX8_addRule 14 rfl) rfl ?_
        refine g8_s (tk tkX8_addRule 15 rfl) fkX8_7 ?_
        refine pw_bipush (v := 25) (tk tkX8_addRule 16 rfl) (by decide) ?_
        refine al_s_e (e := 25) (tk tkX8_addRule 17 rfl) (by first | rfl | simp only [lit_nI, nI_add, pk_mul]) (by first | decide | omega) ?_
        refine pw_bipush (v := 8) (tk tkX8_addRule 18 rfl) (by decide) ?_
        refine pw_icmp_ne (tgt := 44) (tk tkX8_addRule 19 rfl) (by decide) (fun c37 => ?_) (fun c37 => ?_)
        · refine pw_iconst (v := 0) (tk tkX8_addRule 22 rfl) (by decide) ?_
          refine pw_cV (ct_X8_holds x _) okX8_holds (tk tkX8_addRule 23 rfl) mkX8_97 imX8_holds seX8_holds (hp_ot _ 11) rfl rfl rfl (by decide) (by decide) (Nat.le_of_ble_eq_true rfl) ?_
          refine pw_ifnb (tgt := 53) (tk tkX8_addRule 24 rfl) (by decide) (fun c48 => ?_) (fun c48 => absurd c48 (by decide))
          refine pw_aload_n (tk tkX8_addRule 27 rfl) rfl ?_
          refine pw_cV0 (ct_X8_record (xThr x 0) (aK (aOf x.2.1)) hx.1 hx.2.1) okX8_record (tk tkX8_addRule 28 rfl) mkX8_100 imX8_record seX8_record (hp_ot _ 11) rfl rfl rfl (by decide) (by decide) (Nat.le_of_ble_eq_true rfl) ?_
          rw [xRec_eq x]
          refine pw_bipush (v := 26) (tk tkX8_addRule 29 rfl) (by decide) ?_
          refine pw_bipush (v := 9) (tk tkX8_addRule 30 rfl) (by decide) ?_
          refine pw_aload_n (tk tkX8_addRule 31 rfl) rfl ?_
          refine g8_s (tk tkX8_addRule 32 rfl) fkX8_7 ?_
          refine pw_bipush (v := 25) (tk tkX8_addRule 33 rfl) (by decide) ?_
          refine al_s_e (e := 25) (tk tkX8_addRule 34 rfl) (by first | rfl | simp only [lit_nI, nI_add, pk_mul]) (by first | decide | omega) ?_
          refine pw_imul (tk tkX8_addRule 35 rfl) ?_
          refine pw_iadd (tk tkX8_addRule 36 rfl) ?_
          rw [show 26 + 9 * mS (uM1 (xRec (xThr x 0) (aK (aOf x.2.1))) (mS x.2.1)).2.1 25 = nI (26 + 9 * u) from by rw [show mS (uM1 (xRec (xThr x 0) (aK (aOf x.2.1))) (mS x.2.1)).2.1 25 = nI u from hu]; simp only [lit_nI, nI_add, pk_mul]]
          refine pw_ist4 (tk tkX8_addRule 37 rfl) rfl (by decide) ?_
          refine pw_iconst (v := 0) (tk tkX8_addRule 38 rfl) (by decide) ?_
          refine pw_ist5 (tk tkX8_addRule 39 rfl) rfl (by decide) ?_
          have h8 : u < 8 := by have : u ≠ 8 := fun q => c37 (by rw [hu, q]; rfl); omega
          exact L 9 0 (by omega) _ (by rw [zrN_0]) h8 c14 (((if_neg (ne_f c7)).trans ((if_neg (ne_f c14)).trans ((if_neg (ne_f c21)).trans ((if_neg c37).trans (by rw [← show u = uN (aS (aOf x.2.1)) from eu]; rfl))))))
        · refine pw_iconst (v := 2) (tk tkX8_addRule 20 rfl) (by decide) ?_
          refine pw_goto (tgt := 45) (tk tkX8_addRule 21 rfl) (by decide) ?_
          refine pw_cV (ct_X8_holds x _) okX8_holds (tk tkX8_addRule 23 rfl) mkX8_97 imX8_holds seX8_holds (hp_ot _ 11) rfl rfl rfl (by decide) (by decide) (Nat.le_of_ble_eq_true rfl) ?_
          refine pw_ifnb (tgt := 53) (tk tkX8_addRule 24 rfl) (by decide) (fun c48 => absurd c48 (by decide)) (fun c48 => ?_)
          refine pw_iconst (v := 0) (tk tkX8_addRule 25 rfl) (by decide) ?_
          refine pw_ireturn (tk tkX8_addRule 26 rfl) rfl (by decide) rfl ?_
          have e : saddRule (aOf x.2.1) e c l = (2, 0, aOf x.2.1) := ((if_neg (ne_f c7)).trans ((if_neg (ne_f c14)).trans ((if_neg (ne_f c21)).trans (if_pos c37))))
          rw [e]
          exact ⟨_, rfl, rfl, rfl, rfl, rfl, hx, AE.rf _⟩
      · refine pw_iconst (v := 1) (tk tkX8_addRule 12 rfl) (by decide) ?_
        refine pw_goto (tgt := 45) (tk tkX8_addRule 13 rfl) (by decide) ?_
        refine pw_cV (ct_X8_holds x _) okX8_holds (tk tkX8_addRule 23 rfl) mkX8_97 imX8_holds seX8_holds (hp_ot _ 11) rfl rfl rfl (by decide) (by decide) (Nat.le_of_ble_eq_true rfl) ?_
        refine pw_ifnb (tgt := 53) (tk tkX8_addRule 24 rfl) (by decide) (fun c48 => absurd c48 (by decide)) (fun c48 => ?_)
        refine pw_iconst (v := 0) (tk tkX8_addRule 25 rfl) (by decide) ?_
        refine pw_ireturn (tk tkX8_addRule 26 rfl) rfl (by decide) rfl ?_
        have e : saddRule (aOf x.2.1) e c l = (1, 0, aOf x.2.1) := ((if_neg (ne_f c7)).trans ((if_neg (ne_f c14)).trans (if_pos c21)))
        rw [e]
        exact ⟨_, rfl, rfl, rfl, rfl, rfl, hx, AE.rf _⟩
def sundo (a : AM) : RS3 := if aK a = 0 then (1, 0, a) else (0, nI (aK a - 1), (aH a (aK a - 1), (aK a - 1, aH a), a.2.2))
set_option maxRecDepth 100000 in
set_option maxHeartbeats 4000000 in
theorem ct_X8_undo (x : XW) (hx : VM x.2.1) (hA : VA (aOf x.2.1)) : CT MX8_undo 3 0 [.ref 171] (hp x) (MOQ x (sundo (aOf x.2.1) )) := by
  refine ct_of (by decide +kernel) (by decide) rfl (k := 1) (ls := [some (.ref 171), none]) rfl (Nat.le_of_ble_eq_true rfl) ?_
  obtain ⟨hu, hu8⟩ := hx.u
  obtain ⟨l99, hl, el⟩ := hx.l
  have hv : VS (uN (mS x.2.1)) (mS x.2.1) := hx.2.2.2.2.2
  obtain ⟨kn, ek⟩ : ∃ kn, kn = aK (aOf x.2.1) := ⟨_, rfl⟩
  have h4 : mF x.2.1 4 = nI kn := by rw [ek]; exact hx.1
  have h6 : kn ≤ 6 := by rw [ek]; exact hx.2.1
  have L : ∀ k i, i + k = 132 → ∀ (y : XW) (hy : y = uM1 (uM7 (xThr x 0) (upd (mF (xThr x 0).2.1) 4 (nI (kn - 1)))) (cpN i (fun j => mHi x.2.1 (132 * (kn - 1) + j)) (mS x.2.1))) (h0 : 0 < kn), PW MX8_undo 3 0 33 [some (.ref 171), some (.int (nI i))] [] (hp y) (MOQ x (sundo (aOf x.2.1))) := by
    intro k
    induction k with
    | zero =>
      intro i hi y hy h0
      have ei : i = 132 := by omega
      rw [ei]
      refine pw_iload_n (tk tkX8_undo 19 rfl) rfl ?_
      refine pw_sipush (v := 132) (tk tkX8_undo 20 rfl) (by decide) ?_
      refine pw_icmp_ge (tgt := 67) (tk tkX8_undo 21 rfl) (by decide) (fun c37 => ?_) (fun c37 => absurd (Int32.le_refl _) c37)
      rw [ei] at hy
      subst hy
      refine pw_aload_n (tk tkX8_undo 37 rfl) rfl ?_
      refine g8_known (tk tkX8_undo 38 rfl) fkX8_36 ?_
      refine pw_ireturn (tk tkX8_undo 39 rfl) rfl (by decide) rfl ?_
      have es : sundo (aOf x.2.1) = (0, nI (kn - 1), (aH (aOf x.2.1) (kn - 1), (kn - 1, aH (aOf x.2.1)), (aOf x.2.1).2.2)) := by rw [ek]; exact if_neg (by omega)
      rw [es]
      have hE : E132 (aH (aOf x.2.1) (kn - 1)) (cpN 132 (fun j => mHi x.2.1 (132 * (kn - 1) + j)) (mS x.2.1)) := fun j hj => (if_pos hj).symm
      have hK : (nI (kn - 1)).toNatClampNeg = kn - 1 := nI_clamp (by omega)
      have hV := VS.EE (hA.1 (kn - 1) (by omega)) hE
      obtain ⟨v1, v2, v3, v4, v5, v6⟩ := hx
      refine ⟨_, rfl, rfl, rfl, rfl, rfl, ⟨(congrArg nI hK).symm, ?_, v3, v4, v5, hV⟩, hE, hK.symm, fun _ _ _ _ => rfl, fun _ _ => rfl, fun _ _ _ _ _ => rfl, rfl, fun _ _ => rfl⟩
      show (nI (kn - 1)).toNatClampNeg ≤ 6
      rw [hK]; omega
    | succ k ih =>
      intro i hi y hy h0
      refine pw_iload_n (tk tkX8_undo 19 rfl) rfl ?_
      refine pw_sipush (v := 132) (tk tkX8_undo 20 rfl) (by decide) ?_
      refine pw_icmp_ge (tgt := 67) (tk tkX8_undo 21 rfl) (by decide) (fun c37 => absurd c37 (nI_ge (b := 132) (by omega) (by decide))) (fun c37 => ?_)
      refine pw_aload_n (tk tkX8_undo 22 rfl) rfl ?_
      refine g8_s (tk tkX8_undo 23 rfl) fkX8_7 ?_
      refine pw_iload_n (tk tkX8_undo 24 rfl) rfl ?_
      refine pw_aload_n (tk tkX8_undo 25 rfl) rfl ?_
      refine g8_history (tk tkX8_undo 26 rfl) fkX8_16 ?_
      refine pw_sipush (v := 132) (tk tkX8_undo 27 rfl) (by decide) ?_
      refine pw_aload_n (tk tkX8_undo 28 rfl) rfl ?_
      refine g8_known (tk tkX8_undo 29 rfl) fkX8_36 ?_
      refine pw_imul (tk tkX8_undo 30 rfl) ?_
      refine pw_iload_n (tk tkX8_undo 31 rfl) rfl ?_
      refine pw_iadd (tk tkX8_undo 32 rfl) ?_
      refine al_mhist_e (e := 132 * (kn - 1) + i) (tk tkX8_undo 33 rfl) (by subst hy; show 132 * nI (kn - 1) + nI i = _; simp only [lit_nI, nI_add, pk_mul]) (by first | decide | omega) ?_
      refine as_s_e (e := i) (tk tkX8_undo 34 rfl) rfl (by first | decide | omega) ?_
      refine pw_inc1 (tk tkX8_undo 35 rfl) rfl (by decide) (nI_1 i) ?_
      refine pw_goto (tgt := 33) (tk tkX8_undo 36 rfl) (by decide) ?_
      refine ih (i + 1) (by omega) _ ?_ h0
      rw [hy]
      show uM1 (uM7 (xThr x 0) (upd (mF (xThr x 0).2.1) 4 (nI (kn - 1)))) (upd (cpN i (fun j => mHi x.2.1 (132 * (kn - 1) + j)) (mS x.2.1)) i ((fun j => mHi x.2.1 (132 * (kn - 1) + j)) i)) = _
      rw [cpN_s]
  refine pw_aload_n (tk tkX8_undo 0 rfl) rfl ?_
  refine pw_aload_n (tk tkX8_undo 1 rfl) rfl ?_
  refine g8_known (tk tkX8_undo 2 rfl) fkX8_36 ?_
  refine pw_if_le (tgt := 12) (tk tkX8_undo 3 rfl) (by decide) (fun c5 => ?_) (fun c5 => ?_)
  · refine pw_iconst (v := 1) (tk tkX8_undo 6 rfl) (by decide) ?_
    refine pw_cV (ct_X8_holds x _) okX8_holds (tk tkX8_undo 7 rfl) mkX8_97 imX8_holds seX8_holds (hp_ot _ 11) rfl rfl rfl (by decide) (by decide) (Nat.le_of_ble_eq_true rfl) ?_
    refine pw_ifnb (tgt := 21) (tk tkX8_undo 8 rfl) (by decide) (fun c16 => absurd c16 (by decide)) (fun c16 => ?_)
    refine pw_iconst (v := 0) (tk tkX8_undo 9 rfl) (by decide) ?_
    refine pw_ireturn (tk tkX8_undo 10 rfl) rfl (by decide) rfl ?_
    have k0 : kn = 0 := by have q : nI kn ≤ nI 0 := by rw [← h4]; exact c5
                           have := (nI_leI (by omega) (by omega)).mp q; omega
    have e : sundo (aOf x.2.1) = (1, 0, aOf x.2.1) := if_pos (ek.symm.trans k0)
    rw [e]
    exact ⟨_, rfl, rfl, rfl, rfl, rfl, hx, AE.rf _⟩
  · refine pw_iconst (v := 0) (tk tkX8_undo 4 rfl) (by decide) ?_
    refine pw_goto (tgt := 13) (tk tkX8_undo 5 rfl) (by decide) ?_
    refine pw_cV (ct_X8_holds x _) okX8_holds (tk tkX8_undo 7 rfl) mkX8_97 imX8_holds seX8_holds (hp_ot _ 11) rfl rfl rfl (by decide) (by decide) (Nat.le_of_ble_eq_true rfl) ?_
    refine pw_ifnb (tgt := 21) (tk tkX8_undo 8 rfl) (by decide) (fun c16 => ?_) (fun c16 => absurd c16 (by decide))
    refine pw_aload_n (tk tkX8_undo 11 rfl) rfl ?_
    refine pw_dup (tk tkX8_undo 12 rfl) rfl ?_
    refine g8_known (tk tkX8_undo 13 rfl) fkX8_36 ?_
    refine pw_iconst (v := 1) (tk tkX8_undo 14 rfl) (by decide) ?_
    refine pw_isub (tk tkX8_undo 15 rfl) ?_
    rw [show mF (xThr x 0).2.1 4 = nI kn from h4, show nI kn - 1 = nI (kn - 1) from pk_sub (a := kn) (b := 1) (by have : kn ≠ 0 := fun q => c5 (by rw [h4, q]; exact Int32.le_refl _); omega)]
    refine p8_known (tk tkX8_undo 16 rfl) fkX8_36 ?_
    refine pw_iconst (v := 0) (tk tkX8_undo 17 rfl) (by decide) ?_
    refine pw_ist1 (tk tkX8_undo 18 rfl) rfl (by decide) ?_
    exact L 132 0 (by omega) _ (by rw [cpN_0]; rfl) (by have : kn ≠ 0 := fun q => c5 (by rw [h4, q]; exact Int32.le_refl _); omega)
theorem xRec_sl (x : XW) (k : Nat) : mSl (xRec (xThr x 0) k).2.1 = mSl x.2.1 := by
  unfold xRec xRecA
  split <;> rfl
def sloadState (a : AM) (r : Int32) : RS3 := if inR r 0 1 = false then (1, 0, a) else if aB a r.toNatClampNeg = false then (2, 0, a) else (0, smN (aL a r.toNatClampNeg) 6, (aL a r.toNatClampNeg, recH a (aS a), a.2.2))
theorem inR_two {v : Int32} (h : inR v 0 1 = true) : ∃ r, r < 2 ∧ v = nI r ∧ v.toNatClampNeg = r := by
  obtain ⟨r, h1, h2⟩ := inR_nI (n := 1) (by decide) h
  exact ⟨r, by omega, h2, by rw [h2, nI_clamp (by omega)]⟩
theorem bit01 : ∀ (k : Fin 4) (r : Fin 2), (nI k.val >>> (nI r.val &&& 31)) &&& 1 = 0 ∨ (nI k.val >>> (nI r.val &&& 31)) &&& 1 = 1 := by decide +kernel
set_option maxRecDepth 100000 in
set_option maxHeartbeats 4000000 in
theorem ct_X8_loadState (x : XW) (hx : VM x.2.1) (hA : VA (aOf x.2.1)) (r : Int32) : CT MX8_loadState 3 0 [.ref 171, .int r] (hp x) (MOQ x (sloadState (aOf x.2.1) r)) := by
  refine ct_of (by decide +kernel) (by decide) rfl (k := 1) (ls := [some (.ref 171), some (.int r), none]) rfl (Nat.le_of_ble_eq_true rfl) ?_
  obtain ⟨hu, hu8⟩ := hx.u
  obtain ⟨l99, hl, el⟩ := hx.l
  have hv : VS (uN (mS x.2.1)) (mS x.2.1) := hx.2.2.2.2.2
  obtain ⟨k6, hk6, ek6⟩ := hx.2.2.2.2.1
  have L : ∀ k i, i + k = 132 → ∀ (y : XW) (r1 : Nat) (hy : y = uM1 (xRec (xThr x 0) (aK (aOf x.2.1))) (cpN i (aL (aOf x.2.1) r1) (mS x.2.1))) (hr : r1 < 2) (er : r = nI r1) (hb : aB (aOf x.2.1) r1 = true) (he : sloadState (aOf x.2.1) r = (0, smN (aL (aOf x.2.1) r1) 6, (aL (aOf x.2.1) r1, recH (aOf x.2.1) (mS x.2.1), (aOf x.2.1).2.2))), PW MX8_loadState 3 0 44 [some (.ref 171), some (.int r), some (.int (nI i))] [] (hp y) (MOQ x (sloadState (aOf x.2.1) r)) := by
    intro k
    induction k with
    | zero =>
      intro i hi y r1 hy hr er hb he
      have ei : i = 132 := by omega
      rw [ei]
      refine pw_iload_n (tk tkX8_loadState 26 rfl) rfl ?_
      refine pw_sipush (v := 132) (tk tkX8_loadState 27 rfl) (by decide) ?_
      refine pw_icmp_ge (tgt := 75) (tk tkX8_loadState 28 rfl) (by decide) (fun c48 => ?_) (fun c48 => absurd (Int32.le_refl _) c48)
      rw [ei] at hy
      subst hy
      refine pw_aload_n (tk tkX8_loadState 43 rfl) rfl ?_
      refine pw_cV (ct_X8_rowsNow _) okX8_rowsNow (tk tkX8_loadState 44 rfl) mkX8_121 imX8_rowsNow seX8_rowsNow (hp_ot _ 11) rfl rfl rfl (by decide) (by decide) (Nat.le_of_ble_eq_true rfl) ?_
      refine pw_ireturn (tk tkX8_loadState 45 rfl) rfl (by decide) rfl ?_
      have hE : E132 (aL (aOf x.2.1) r1) (cpN 132 (aL (aOf x.2.1) r1) (mS x.2.1)) := fun j hj => (if_pos hj).symm
      have esm : smN (cpN 132 (aL (aOf x.2.1) r1) (mS x.2.1)) 6 = smN (aL (aOf x.2.1) r1) 6 := rfl
      obtain ⟨a, b, c, d, f⟩ := recX (y := xPA (xThr x 0)) hx ⟨rfl, rfl, cpN_E _ _, rfl, rfl, rfl, rfl, rfl, rfl, rfl⟩ _ (VS.EE (hA.2 r1 hr hb) hE)
      rw [he]
      refine ⟨_, rfl, a, b, c, rfl, d, ?_⟩
      exact ⟨fun j hj => (hE j hj).trans (f.1 j hj), f.2⟩
    | succ k ih =>
      intro i hi y r1 hy hr er hb he
      refine pw_iload_n (tk tkX8_loadState 26 rfl) rfl ?_
      refine pw_sipush (v := 132) (tk tkX8_loadState 27 rfl) (by decide) ?_
      refine pw_icmp_ge (tgt := 75) (tk tkX8_loadState 28 rfl) (by decide) (fun c48 => absurd c48 (nI_ge (b := 132) (by omega) (by decide))) (fun c48 => ?_)
      refine pw_aload_n (tk tkX8_loadState 29 rfl) rfl ?_
      refine g8_s (tk tkX8_loadState 30 rfl) fkX8_7 ?_
      refine pw_iload_n (tk tkX8_loadState 31 rfl) rfl ?_
      refine pw_aload_n (tk tkX8_loadState 32 rfl) rfl ?_
      refine g8_slots (tk tkX8_loadState 33 rfl) fkX8_19 ?_
      refine pw_sipush (v := 132) (tk tkX8_loadState 34 rfl) (by decide) ?_
      refine pw_iload_n (tk tkX8_loadState 35 rfl) rfl ?_
      refine pw_imul (tk tkX8_loadState 36 rfl) ?_
      refine pw_iload_n (tk tkX8_loadState 37 rfl) rfl ?_
      refine pw_iadd (tk tkX8_loadState 38 rfl) ?_
      refine al_mslots_e (e := 132 * r1 + i) (tk tkX8_loadState 39 rfl) (by rw [er]; simp only [lit_nI, nI_add, pk_mul]) (by first | decide | omega) ?_
      refine as_s_e (e := i) (tk tkX8_loadState 40 rfl) rfl (by first | decide | omega) ?_
      refine pw_inc2 (tk tkX8_loadState 41 rfl) rfl (by decide) (nI_1 i) ?_
      refine pw_goto (tgt := 44) (tk tkX8_loadState 42 rfl) (by decide) ?_
      refine ih (i + 1) (by omega) _ r1 ?_ hr er hb he
      rw [hy]
      show uM1 (xRec (xThr x 0) (aK (aOf x.2.1))) (upd (cpN i (aL (aOf x.2.1) r1) (mS x.2.1)) i (mSl (xRec (xThr x 0) (aK (aOf x.2.1))).2.1 (132 * r1 + i))) = _
      rw [show mSl (xRec (xThr x 0) (aK (aOf x.2.1))).2.1 (132 * r1 + i) = aL (aOf x.2.1) r1 i from by rw [xRec_sl]; rfl, cpN_s]
  refine pw_aload_n (tk tkX8_loadState 0 rfl) rfl ?_
  refine pw_iload_n (tk tkX8_loadState 1 rfl) rfl ?_
  refine pw_iconst (v := 0) (tk tkX8_loadState 2 rfl) (by decide) ?_
  refine pw_iconst (v := 1) (tk tkX8_loadState 3 rfl) (by decide) ?_
  refine pw_cS (ct_X8_in _ _ _ _) okX8_in (tk tkX8_loadState 4 rfl) mkX8_32 stX8_in rfl rfl (by decide) (by decide) (Nat.le_of_ble_eq_true rfl) ?_
  refine pw_ifnb (tgt := 14) (tk tkX8_loadState 5 rfl) (by decide) (fun c7 => ?_) (fun c7 => ?_)
  · obtain ⟨r1, hr, er, er2⟩ := inR_two c7
    refine pw_aload_n (tk tkX8_loadState 8 rfl) rfl ?_
    refine g8_kept (tk tkX8_loadState 9 rfl) fkX8_185 ?_
    refine pw_iload_n (tk tkX8_loadState 10 rfl) rfl ?_
    refine pw_ishr (tk tkX8_loadState 11 rfl) ?_
    refine pw_iconst (v := 1) (tk tkX8_loadState 12 rfl) (by decide) ?_
    refine pw_iand (tk tkX8_loadState 13 rfl) ?_
    refine pw_if_ne (tgt := 29) (tk tkX8_loadState 14 rfl) (by decide) (fun c22 => ?_) (fun c22 => ?_)
    · refine pw_iconst (v := 0) (tk tkX8_loadState 17 rfl) (by decide) ?_
      refine pw_cV (ct_X8_holds x _) okX8_holds (tk tkX8_loadState 18 rfl) mkX8_97 imX8_holds seX8_holds (hp_ot _ 11) rfl rfl rfl (by decide) (by decide) (Nat.le_of_ble_eq_true rfl) ?_
      refine pw_ifnb (tgt := 38) (tk tkX8_loadState 19 rfl) (by decide) (fun c33 => ?_) (fun c33 => absurd c33 (by decide))
      refine pw_aload_n (tk tkX8_loadState 22 rfl) rfl ?_
      refine pw_cV0 (ct_X8_record (xThr x 0) (aK (aOf x.2.1)) hx.1 hx.2.1) okX8_record (tk tkX8_loadState 23 rfl) mkX8_100 imX8_record seX8_record (hp_ot _ 11) rfl rfl rfl (by decide) (by decide) (Nat.le_of_ble_eq_true rfl) ?_
      rw [xRec_eq x]
      refine pw_iconst (v := 0) (tk tkX8_loadState 24 rfl) (by decide) ?_
      refine pw_ist2 (tk tkX8_loadState 25 rfl) rfl (by decide) ?_
      have hb : aB (aOf x.2.1) r1 = true := decide_eq_true (by rw [er] at c22; rw [ek6] at c22 ⊢; rcases bit01 ⟨k6, hk6⟩ ⟨r1, hr⟩ with w | w; exact absurd w c22; exact w)
      exact L 132 0 (by omega) _ r1 (by rw [cpN_0]) hr er hb ((if_neg (ne_f c7)).trans ((if_neg (by rw [er2]; exact ne_f hb)).trans (by rw [er2]; rfl)))
    · refine pw_iconst (v := 2) (tk tkX8_loadState 15 rfl) (by decide) ?_
      refine pw_goto (tgt := 30) (tk tkX8_loadState 16 rfl) (by decide) ?_
      refine pw_cV (ct_X8_holds x _) okX8_holds (tk tkX8_loadState 18 rfl) mkX8_97 imX8_holds seX8_holds (hp_ot _ 11) rfl rfl rfl (by decide) (by decide) (Nat.le_of_ble_eq_true rfl) ?_
      refine pw_ifnb (tgt := 38) (tk tkX8_loadState 19 rfl) (by decide) (fun c33 => absurd c33 (by decide)) (fun c33 => ?_)
      refine pw_iconst (v := 0) (tk tkX8_loadState 20 rfl) (by decide) ?_
      refine pw_ireturn (tk tkX8_loadState 21 rfl) rfl (by decide) rfl ?_
      have e : sloadState (aOf x.2.1) r = (2, 0, aOf x.2.1) := (if_neg (ne_f c7)).trans (if_pos (by rw [er2]; rw [er] at c22; exact decide_eq_false (fun q => by rw [show mF x.2.1 6 >>> (nI r1 &&& 31) &&& 1 = 0 from c22] at q; exact absurd q (by decide))))
      rw [e]
      exact ⟨_, rfl, rfl, rfl, rfl, rfl, hx, AE.rf _⟩
  · refine pw_iconst (v := 1) (tk tkX8_loadState 6 rfl) (by decide) ?_
    refine pw_goto (tgt := 30) (tk tkX8_loadState 7 rfl) (by decide) ?_
    refine pw_cV (ct_X8_holds x _) okX8_holds (tk tkX8_loadState 18 rfl) mkX8_97 imX8_holds seX8_holds (hp_ot _ 11) rfl rfl rfl (by decide) (by decide) (Nat.le_of_ble_eq_true rfl) ?_
    refine pw_ifnb (tgt := 38) (tk tkX8_loadState 19 rfl) (by decide) (fun c33 => absurd c33 (by decide)) (fun c33 => ?_)
    refine pw_iconst (v := 0) (tk tkX8_loadState 20 rfl) (by decide) ?_
    refine pw_ireturn (tk tkX8_loadState 21 rfl) rfl (by decide) rfl ?_
    have e : sloadState (aOf x.2.1) r = (1, 0, aOf x.2.1) := if_pos c7
    rw [e]
    exact ⟨_, rfl, rfl, rfl, rfl, rfl, hx, AE.rf _⟩
def ssaveState (a : AM) (r : Int32) : RS3 := if inR r 0 1 = false then (1, 0, a) else (0, smN (aS a) 6, (aS a, a.2.1, ((fun i => if i = r.toNatClampNeg then true else aB a i), fun i => if i = r.toNatClampNeg then aS a else aL a i), a.2.2.2))
theorem bit02 : ∀ (k : Fin 4) (r : Fin 2), ∃ k2 : Fin 4, (nI k.val ||| ((1 : Int32) <<< (nI r.val &&& 31)) = nI k2.val) ∧ ∀ i : Fin 2, decide ((nI k2.val >>> (nI i.val &&& 31)) &&& 1 = 1) = if i.val = r.val then true else decide ((nI k.val >>> (nI i.val &&& 31)) &&& 1 = 1) := by decide +kernel
theorem VM.of {m m2 : MW} (h : VM m) (h4 : mF m2 4 = mF m 4) (h8 : mF m2 8 = mF m 8) (h6 : ∃ k, k < 4 ∧ mF m2 6 = nI k) (hs : VS (uN (mS m2)) (mS m2)) : VM m2 := by
  have e4 : aK (aOf m2) = aK (aOf m) := congrArg Int32.toNatClampNeg h4
  have e8 : aN (aOf m2) = aN (aOf m) := congrArg Int32.toNatClampNeg h8
  exact ⟨by rw [e4, h4]; exact h.1, by rw [e4]; exact h.2.1, by rw [e8, h8]; exact h.2.2.1, by rw [e8]; exact h.2.2.2.1, h6, hs⟩
theorem save_end {x : XW} (hx : VM x.2.1) {R : RS3} (r1 : Nat) (hr : r1 < 2) (k2 : Nat) (h4 : k2 < 4) (hb : ∀ i, i < 2 → decide ((nI k2 >>> (nI i &&& 31)) &&& 1 = 1) = if i = r1 then true else aB (aOf x.2.1) i)
    (he : R = (0, smN (mS x.2.1) 6, (mS x.2.1, (aOf x.2.1).2.1, ((fun i => if i = r1 then true else aB (aOf x.2.1) i), fun i => if i = r1 then mS x.2.1 else aL (aOf x.2.1) i), (aOf x.2.1).2.2.2))) (f : Nat → Int32) (hf : f = puN (132 * r1) 132 (mS x.2.1) (mSl x.2.1)) :
    MOQ x R (.inl (some (.int (smN (mS x.2.1) 6)))) (hp (uM7 (uM4 (xThr x 0) f) (upd (mF (xThr x 0).2.1) 6 (nI k2)))) := by
  rw [he]
  refine ⟨_, rfl, rfl, rfl, rfl, rfl, VM.of hx rfl rfl ⟨k2, h4, rfl⟩ hx.2.2.2.2.2, fun _ _ => rfl, rfl, fun _ _ _ _ => rfl, fun i hi => (hb i hi).symm, fun i hi hb j hj => ?_, rfl, fun _ _ => rfl⟩
  show (if i = r1 then mS x.2.1 else aL (aOf x.2.1) i) j = f (132 * i + j)
  rw [hf]
  unfold puN
  by_cases e5 : i = r1
  · rw [if_pos e5, if_pos (by omega), show 132 * i + j - 132 * r1 = j by omega]
  · rw [if_neg e5, if_neg (by omega)]; rfl
set_option maxRecDepth 100000 in
set_option maxHeartbeats 4000000 in
theorem ct_X8_saveState (x : XW) (hx : VM x.2.1) (r : Int32) : CT MX8_saveState 3 0 [.ref 171, .int r] (hp x) (MOQ x (ssaveState (aOf x.2.1) r)) := by
  refine ct_of (by decide +kernel) (by decide) rfl (k := 1) (ls := [some (.ref 171), some (.int r), none]) rfl (Nat.le_of_ble_eq_true rfl) ?_
  obtain ⟨hu, hu8⟩ := hx.u
  obtain ⟨l99, hl, el⟩ := hx.l
  have hv : VS (uN (mS x.2.1)) (mS x.2.1) := hx.2.2.2.2.2
  obtain ⟨k6, hk6, ek6⟩ := hx.2.2.2.2.1
  have L : ∀ k i, i + k = 132 → ∀ (y : XW) (r1 : Nat) (hy : y = uM4 (xThr x 0) (puN (132 * r1) i (mS x.2.1) (mSl x.2.1))) (hr : r1 < 2) (er : r = nI r1) (he : ssaveState (aOf x.2.1) r = (0, smN (mS x.2.1) 6, (mS x.2.1, (aOf x.2.1).2.1, ((fun i => if i = r1 then true else aB (aOf x.2.1) i), fun i => if i = r1 then mS x.2.1 else aL (aOf x.2.1) i), (aOf x.2.1).2.2.2))), PW MX8_saveState 3 0 25 [some (.ref 171), some (.int r), some (.int (nI i))] [] (hp y) (MOQ x (ssaveState (aOf x.2.1) r)) := by
    intro k
    induction k with
    | zero =>
      intro i hi y r1 hy hr er he
      have ei : i = 132 := by omega
      rw [ei]
      refine pw_iload_n (tk tkX8_saveState 15 rfl) rfl ?_
      refine pw_sipush (v := 132) (tk tkX8_saveState 16 rfl) (by decide) ?_
      refine pw_icmp_ge (tgt := 56) (tk tkX8_saveState 17 rfl) (by decide) (fun c29 => ?_) (fun c29 => absurd (Int32.le_refl _) c29)
      rw [ei] at hy
      subst hy
      obtain ⟨k2, hk2, hk3⟩ := bit02 ⟨k6, hk6⟩ ⟨r1, hr⟩
      refine pw_aload_n (tk tkX8_saveState 32 rfl) rfl ?_
      refine pw_dup (tk tkX8_saveState 33 rfl) rfl ?_
      refine g8_kept (tk tkX8_saveState 34 rfl) fkX8_185 ?_
      refine pw_iconst (v := 1) (tk tkX8_saveState 35 rfl) (by decide) ?_
      refine pw_iload_n (tk tkX8_saveState 36 rfl) rfl ?_
      refine pw_ishl (tk tkX8_saveState 37 rfl) ?_
      refine pw_ior (tk tkX8_saveState 38 rfl) ?_
      rw [show r &&& 31 = nI r1 &&& 31 from by rw [er]]
      rw [show mF (uM4 (xThr x 0) (puN (132 * r1) 132 (mS x.2.1) (mSl x.2.1))).2.1 6 ||| ((1 : Int32) <<< (nI r1 &&& 31)) = nI k2.val from (congrArg (· ||| ((1 : Int32) <<< (nI r1 &&& 31))) ek6).trans hk2]
      refine p8_kept (tk tkX8_saveState 39 rfl) fkX8_185 ?_
      refine pw_aload_n (tk tkX8_saveState 40 rfl) rfl ?_
      refine pw_cV (ct_X8_rowsNow _) okX8_rowsNow (tk tkX8_saveState 41 rfl) mkX8_121 imX8_rowsNow seX8_rowsNow (hp_ot _ 11) rfl rfl rfl (by decide) (by decide) (Nat.le_of_ble_eq_true rfl) ?_
      refine pw_ireturn (tk tkX8_saveState 42 rfl) rfl (by decide) rfl ?_
      exact save_end hx r1 hr k2.val k2.isLt (fun i hi => (hk3 ⟨i, hi⟩).trans (by rw [← ek6]; rfl)) he _ rfl
    | succ k ih =>
      intro i hi y r1 hy hr er he
      refine pw_iload_n (tk tkX8_saveState 15 rfl) rfl ?_
      refine pw_sipush (v := 132) (tk tkX8_saveState 16 rfl) (by decide) ?_
      refine pw_icmp_ge (tgt := 56) (tk tkX8_saveState 17 rfl) (by decide) (fun c29 => absurd c29 (nI_ge (b := 132) (by omega) (by decide))) (fun c29 => ?_)
      refine pw_aload_n (tk tkX8_saveState 18 rfl) rfl ?_
      refine g8_slots (tk tkX8_saveState 19 rfl) fkX8_19 ?_
      refine pw_sipush (v := 132) (tk tkX8_saveState 20 rfl) (by decide) ?_
      refine pw_iload_n (tk tkX8_saveState 21 rfl) rfl ?_
      refine pw_imul (tk tkX8_saveState 22 rfl) ?_
      refine pw_iload_n (tk tkX8_saveState 23 rfl) rfl ?_
      refine pw_iadd (tk tkX8_saveState 24 rfl) ?_
      refine pw_aload_n (tk tkX8_saveState 25 rfl) rfl ?_
      refine g8_s (tk tkX8_saveState 26 rfl) fkX8_7 ?_
      refine pw_iload_n (tk tkX8_saveState 27 rfl) rfl ?_
      refine al_s_e (e := i) (tk tkX8_saveState 28 rfl) rfl (by first | decide | omega) ?_
      refine as_mslots_e (e := 132 * r1 + i) (tk tkX8_saveState 29 rfl) (by rw [er]; simp only [lit_nI, nI_add, pk_mul]) (by first | decide | omega) ?_
      refine pw_inc2 (tk tkX8_saveState 30 rfl) rfl (by decide) (nI_1 i) ?_
      refine pw_goto (tgt := 25) (tk tkX8_saveState 31 rfl) (by decide) ?_
      refine ih (i + 1) (by omega) _ r1 ?_ hr er he
      rw [hy]
      show uM4 (xThr x 0) (upd (puN (132 * r1) i (mS x.2.1) (mSl x.2.1)) (132 * r1 + i) (mS x.2.1 i)) = _
      rw [puN_s]
  refine pw_aload_n (tk tkX8_saveState 0 rfl) rfl ?_
  refine pw_iload_n (tk tkX8_saveState 1 rfl) rfl ?_
  refine pw_iconst (v := 0) (tk tkX8_saveState 2 rfl) (by decide) ?_
  refine pw_iconst (v := 1) (tk tkX8_saveState 3 rfl) (by decide) ?_
  refine pw_cS (ct_X8_in _ _ _ _) okX8_in (tk tkX8_saveState 4 rfl) mkX8_32 stX8_in rfl rfl (by decide) (by decide) (Nat.le_of_ble_eq_true rfl) ?_
  refine pw_ifb (tgt := 14) (tk tkX8_saveState 5 rfl) (by decide) (fun c7 => ?_) (fun c7 => ?_)
  · refine pw_iconst (v := 1) (tk tkX8_saveState 8 rfl) (by decide) ?_
    refine pw_cV (ct_X8_holds x _) okX8_holds (tk tkX8_saveState 9 rfl) mkX8_97 imX8_holds seX8_holds (hp_ot _ 11) rfl rfl rfl (by decide) (by decide) (Nat.le_of_ble_eq_true rfl) ?_
    refine pw_ifnb (tgt := 23) (tk tkX8_saveState 10 rfl) (by decide) (fun c18 => absurd c18 (by decide)) (fun c18 => ?_)
    refine pw_iconst (v := 0) (tk tkX8_saveState 11 rfl) (by decide) ?_
    refine pw_ireturn (tk tkX8_saveState 12 rfl) rfl (by decide) rfl ?_
    have e : ssaveState (aOf x.2.1) r = (1, 0, aOf x.2.1) := (if_pos c7)
    rw [e]
    exact ⟨_, rfl, rfl, rfl, rfl, rfl, hx, AE.rf _⟩
  · refine pw_iconst (v := 0) (tk tkX8_saveState 6 rfl) (by decide) ?_
    refine pw_goto (tgt := 15) (tk tkX8_saveState 7 rfl) (by decide) ?_
    refine pw_cV (ct_X8_holds x _) okX8_holds (tk tkX8_saveState 9 rfl) mkX8_97 imX8_holds seX8_holds (hp_ot _ 11) rfl rfl rfl (by decide) (by decide) (Nat.le_of_ble_eq_true rfl) ?_
    refine pw_ifnb (tgt := 23) (tk tkX8_saveState 10 rfl) (by decide) (fun c18 => ?_) (fun c18 => absurd c18 (by decide))
    refine pw_iconst (v := 0) (tk tkX8_saveState 13 rfl) (by decide) ?_
    refine pw_ist2 (tk tkX8_saveState 14 rfl) rfl (by decide) ?_
    obtain ⟨r1, hr, er, er2⟩ := inR_two c7
    exact L 132 0 (by omega) _ r1 (by rw [puN_0]; rfl) hr er ((if_neg (ne_f c7)).trans (by rw [er2]; rfl))
def sclearText (a : AM) : RS3 := (0, nI (aN a), (aS a, a.2.1, a.2.2.1, (0, aT a)))
set_option maxRecDepth 100000 in
set_option maxHeartbeats 4000000 in
theorem ct_X8_clearText (x : XW) (hx : VM x.2.1)  : CT MX8_clearText 3 0 [.ref 171] (hp x) (MOQ x (sclearText (aOf x.2.1) )) := by
  refine ct_of (by decide +kernel) (by decide) rfl (k := 1) (ls := [some (.ref 171), none]) rfl (Nat.le_of_ble_eq_true rfl) ?_
  obtain ⟨hu, hu8⟩ := hx.u
  obtain ⟨l99, hl, el⟩ := hx.l
  have hv : VS (uN (mS x.2.1)) (mS x.2.1) := hx.2.2.2.2.2
  refine pw_aload_n (tk tkX8_clearText 0 rfl) rfl ?_
  refine pw_iconst (v := 0) (tk tkX8_clearText 1 rfl) (by decide) ?_
  refine p8_thrown (tk tkX8_clearText 2 rfl) fkX8_28 ?_
  refine pw_aload_n (tk tkX8_clearText 3 rfl) rfl ?_
  refine g8_length (tk tkX8_clearText 4 rfl) fkX8_141 ?_
  refine pw_ist1 (tk tkX8_clearText 5 rfl) rfl (by decide) ?_
  refine pw_aload_n (tk tkX8_clearText 6 rfl) rfl ?_
  refine pw_iconst (v := 0) (tk tkX8_clearText 7 rfl) (by decide) ?_
  refine p8_length (tk tkX8_clearText 8 rfl) fkX8_141 ?_
  refine pw_iload_n (tk tkX8_clearText 9 rfl) rfl ?_
  refine pw_ireturn (tk tkX8_clearText 10 rfl) rfl (by decide) rfl ?_
  obtain ⟨v1, v2, v3, v4, v5, v6⟩ := hx
  exact ⟨_, rfl, rfl, rfl, rfl, congrArg (fun z => Sum.inl (some (Value.int z))) v3, ⟨v1, v2, rfl, Nat.zero_le _, v5, v6⟩, fun _ _ => rfl, rfl, fun _ _ _ _ => rfl, fun _ _ => rfl, fun _ _ _ _ _ => rfl, rfl, fun _ _ => rfl⟩
end
section
theorem VS.un {u : Nat} {t : Nat → Int32} (h : VS u t) : uN t = u := by unfold uN; rw [h.2.1, nI_clamp (by have := h.1; omega)]
theorem VS_98 {u : Nat} {s : Nat → Int32} (h : VS u s) (v : Int32) : VS u (upd s 98 v) :=
  h.of (fun j a b _ => upd_nt _ _ (by omega)) (by rw [upd_nt _ _ (by omega)]; exact h.2.2.2.1) (fun j hj => by rw [upd_nt _ _ (by omega)]; exact h.2.2.2.2.1 j hj)
theorem fin_VS {u : Nat} {s : Nat → Int32} {R : TT} (h : VS u s) (hR : VS u R.1) : VS u (fin R s) := by
  unfold fin; split
  · exact VS_98 hR _
  · exact h
theorem hap_VS {u : Nat} {s : Nat → Int32} (h : VS u s) (f : Nat) (a b : Int32) (c0 : Int32) (ev : Int32) {r c : Nat} (v : Int32) (d : Nat) (hr : r < 6) (hc : c < 3) : VS u (hapT u f (s, a, b, c0) ev r c v d).1 :=
  (hapT_KV u s f (s, a, b, c0) ev r c v d hr hc ⟨h, SR.rf s⟩).1
theorem insR_VS {u : Nat} {s : Nat → Int32} (h : VS u s) {r : Nat} (a b c : Int32) (hr : r < 6) : VS u (insR u s r a b c).1 := by
  unfold insR; split
  · exact h
  · exact hap_VS (VS_val (VS_val (VS_val h a (by omega) (by omega)) b (by omega) (by omega)) c (by omega) (by omega)) 6 _ _ _ 0 0 0 hr (by decide)
theorem updR_VS {u : Nat} {s : Nat → Int32} (h : VS u s) {r c : Nat} (v : Int32) (hr : r < 6) (hc : c < 3) : VS u (updR u s r c v).1 := by
  unfold updR; split
  · exact h
  · split
    · exact h
    · exact hap_VS h 6 _ _ _ 1 v 0 hr hc
theorem remR_VS {u : Nat} {s : Nat → Int32} (h : VS u s) {r : Nat} (hr : r < 6) : VS u (remR u s r).1 := by
  unfold remR; split
  · exact hap_VS h 6 _ _ _ 2 0 0 hr (by decide)
  · exact h
theorem E132.sy {f g : Nat → Int32} (h : E132 f g) : E132 g f := fun j hj => (h j hj).symm
theorem E132.tr {f g w : Nat → Int32} (h : E132 f g) (k : E132 g w) : E132 f w := fun j hj => (h j hj).trans (k j hj)
theorem xRecA_F (y : XW) (k : Nat) : mF (xRecA y k).2.1 12 = mF y.2.1 12 := by
  unfold xRecA; split <;> rfl
theorem xRecA_S (y : XW) (k : Nat) : xRecA y k = uM1 (xRecA y k) (mS y.2.1) := by
  unfold xRecA; split <;> rfl
theorem FA.lk {x y : XW} (fa : FA x y) : Lk x (xThr y 0) := by
  obtain ⟨a1, a2, a3, a4, a5, a6, a7⟩ := fa
  exact ⟨a1, a2, a3, a4, a5, a6, rfl, a7 4 (by decide) (by decide) (by decide) (by decide), a7 6 (by decide) (by decide) (by decide) (by decide), a7 8 (by decide) (by decide) (by decide) (by decide)⟩
theorem FA.vm {x y : XW} (hx : VM x.2.1) (fa : FA x y) (es : E132 (mS y.2.1) (mS x.2.1)) : VM y.2.1 ∧ AE (aOf x.2.1) (aOf y.2.1) := by
  obtain ⟨a1, a2, a3, a4, a5, a6, a7⟩ := fa
  have f4 := a7 4 (by decide) (by decide) (by decide) (by decide)
  have f6 := a7 6 (by decide) (by decide) (by decide) (by decide)
  have f8 := a7 8 (by decide) (by decide) (by decide) (by decide)
  refine ⟨VM.of hx f4 f8 (by rw [f6]; exact hx.2.2.2.2.1) (VS.EE hx.2.2.2.2.2 es.sy), es.sy, (congrArg Int32.toNatClampNeg f4).symm, ?_, ?_, ?_, (congrArg Int32.toNatClampNeg f8).symm, ?_⟩
  · intro i _ j _; show mHi x.2.1 _ = mHi y.2.1 _; rw [a4]
  · intro i _; show decide ((mF x.2.1 6 >>> (nI i &&& 31)) &&& 1 = 1) = decide ((mF y.2.1 6 >>> (nI i &&& 31)) &&& 1 = 1); rw [f6]
  · intro i _ _ j _; show mSl x.2.1 _ = mSl y.2.1 _; rw [a5]
  · intro i _; show mTx x.2.1 i = mTx y.2.1 i; rw [a6]
theorem VM.thr {x : XW} (h : VM x.2.1) (v : Int32) : VM (xThr x v).2.1 := VM.of h rfl rfl h.2.2.2.2.1 h.2.2.2.2.2
theorem MOQ.stm {x y : XW} (hx : VM x.2.1) (fa : FA x y) {R : TT} (es : E132 (mS y.2.1) (fin R (mS x.2.1))) (hR : VS (uN (mS x.2.1)) R.1) {v : Int32} (ev : v = R.2.1) {R3 : RS3} (he : R3 = (0, R.2.1, (fin R (mS x.2.1), recH (aOf x.2.1) (mS x.2.1), (aOf x.2.1).2.2))) : MOQ x R3 (.inl (some (.int v))) (hp (xRecA (xThr y 0) (aK (aOf x.2.1)))) := by
  have h1 : VS (uN (mS x.2.1)) (fin R (mS x.2.1)) := fin_VS hx.2.2.2.2.2 hR
  have h2 : VS (uN (mS y.2.1)) (mS y.2.1) := by
    have q := h1.E es.sy
    rw [q.un]; exact q
  obtain ⟨a, b, c, d, f⟩ := recX hx fa.lk (mS y.2.1) h2
  rw [he, ev, show xRecA (xThr y 0) (aK (aOf x.2.1)) = uM1 (xRecA (xThr y 0) (aK (aOf x.2.1))) (mS y.2.1) from xRecA_S (xThr y 0) _]
  exact ⟨_, rfl, a, b, c, rfl, d, es.sy.tr f.1, f.2⟩
theorem MOQ.stf {x y : XW} (hx : VM x.2.1) (fa : FA x y) (es : E132 (mS y.2.1) (mS x.2.1)) (code : Int32) {R3 : RS3} (he : R3 = (code, 0, aOf x.2.1)) : MOQ x R3 (.inl (some (.int 0))) (hp (xThr y code)) := by
  obtain ⟨a, b⟩ := fa.vm hx es
  rw [he]
  exact ⟨_, rfl, fa.1, fa.2.1, rfl, rfl, a.thr code, b⟩
theorem ct_X8_insertsW (x : XW) (u : Nat) (hv : VS u (mS x.2.1)) (r : Nat) {w : Int32} (er : w = nI r) (a b c : Int32) (hr : r < 6) : CT MX8_inserts 6 0 [.ref 171, .int w, .int a, .int b, .int c] (hp x) (stP x (insR u (mS x.2.1) r a b c) ((insR u (mS x.2.1) r a b c).2.2.2 ≠ 1)) := by subst er; exact ct_X8_inserts x u hv r a b c hr
theorem ct_X8_updatesW (x : XW) (u : Nat) (hv : VS u (mS x.2.1)) (r c : Nat) {w z : Int32} (er : w = nI r) (ec : z = nI c) (v : Int32) (hr : r < 6) (hc : c < 3) : CT MX8_updates 6 0 [.ref 171, .int w, .int z, .int v] (hp x) (stP x (updR u (mS x.2.1) r c v) True) := by subst er; subst ec; exact ct_X8_updates x u hv r c v hr hc
theorem ct_X8_removesW (x : XW) (u : Nat) (hv : VS u (mS x.2.1)) (r : Nat) {w : Int32} (er : w = nI r) (hr : r < 6) : CT MX8_removes 6 0 [.ref 171, .int w] (hp x) (stP x (remR u (mS x.2.1) r) ((remR u (mS x.2.1) r).2.2.2 ≠ 1)) := by subst er; exact ct_X8_removes x u hv r hr
/-- the answer of a statement -/
def stA (a : AM) (R : TT) (bad : Int32) : RS3 := if decide (R.2.2.2 = 0) = false then (bad, 0, a) else (0, R.2.1, (fin R (aS a), recH a (aS a), a.2.2))
theorem stA_bad {a : AM} {R : TT} (b : Int32) (h : decide (R.2.2.2 = 0) = false) : stA a R b = (b, 0, a) := if_pos h
theorem stA_ok {a : AM} {R : TT} (b : Int32) (h : decide (R.2.2.2 = 0) = true) : stA a R b = (0, R.2.1, (fin R (aS a), recH a (aS a), a.2.2)) := if_neg (ne_f h)
def sinsert (a : AM) (r p q w : Int32) : RS3 := if inR r 0 5 = false then (1, 0, a) else if inR p 0 999 = false then (2, 0, a) else if inR q 0 999 = false then (2, 0, a) else if inR w 0 999 = false then (2, 0, a) else stA a (insR (uN (aS a)) (aS a) r.toNatClampNeg p q w) 3
def supdate (a : AM) (r c v : Int32) : RS3 := if inR r 0 5 = false then (1, 0, a) else if inR c 0 2 = false then (1, 0, a) else if inR v 0 999 = false then (2, 0, a) else stA a (updR (uN (aS a)) (aS a) r.toNatClampNeg c.toNatClampNeg v) 3
def sremove (a : AM) (r : Int32) : RS3 := if inR r 0 5 = false then (1, 0, a) else stA a (remR (uN (aS a)) (aS a) r.toNatClampNeg) 2
set_option maxRecDepth 100000 in
set_option maxHeartbeats 4000000 in
theorem ct_X8_insert (x : XW) (hx : VM x.2.1) (r p q w : Int32) : CT MX8_insert 7 0 [.ref 171, .int r, .int p, .int q, .int w] (hp x) (MOQ x (sinsert (aOf x.2.1) r p q w)) := by
  refine ct_of (by decide +kernel) (by decide) rfl (k := 1) (ls := [some (.ref 171), some (.int r), some (.int p), some (.int q), some (.int w), none]) rfl (Nat.le_of_ble_eq_true rfl) ?_
  obtain ⟨hu, hu8⟩ := hx.u
  obtain ⟨l99, hl, el⟩ := hx.l
  have hv : VS (uN (mS x.2.1)) (mS x.2.1) := hx.2.2.2.2.2
  refine pw_iload_n (tk tkX8_insert 0 rfl) rfl ?_
  refine pw_cS (ct_X8_isRow _ _) okX8_isRow (tk tkX8_insert 1 rfl) mkX8_106 stX8_isRow rfl rfl (by decide) (by decide) (Nat.le_of_ble_eq_true rfl) ?_
  refine pw_ifnb (tgt := 11) (tk tkX8_insert 2 rfl) (by decide) (fun c4 => ?_) (fun c4 => ?_)
  · refine pw_iload_n (tk tkX8_insert 5 rfl) rfl ?_
    refine pw_cS (ct_X8_isValue _ _) okX8_isValue (tk tkX8_insert 6 rfl) mkX8_76 stX8_isValue rfl rfl (by decide) (by decide) (Nat.le_of_ble_eq_true rfl) ?_
    refine pw_ifb (tgt := 33) (tk tkX8_insert 7 rfl) (by decide) (fun c15 => ?_) (fun c15 => ?_)
    · refine pw_iconst (v := 2) (tk tkX8_insert 14 rfl) (by decide) ?_
      refine pw_goto (tgt := 38) (tk tkX8_insert 15 rfl) (by decide) ?_
      refine pw_ist5 (tk tkX8_insert 17 rfl) rfl (by decide) ?_
      refine pw_aload_n (tk tkX8_insert 18 rfl) rfl ?_
      refine pw_iload (tk tkX8_insert 19 rfl) rfl ?_
      refine pw_if_le (tgt := 51) (tk tkX8_insert 20 rfl) (by decide) (fun c43 => absurd c43 (by decide)) (fun c43 => ?_)
      refine pw_iload (tk tkX8_insert 21 rfl) rfl ?_
      refine pw_goto (tgt := 68) (tk tkX8_insert 22 rfl) (by decide) ?_
      refine pw_cV (ct_X8_holds x _) okX8_holds (tk tkX8_insert 33 rfl) mkX8_97 imX8_holds seX8_holds (hp_ot _ 11) rfl rfl rfl (by decide) (by decide) (Nat.le_of_ble_eq_true rfl) ?_
      refine pw_ifnb (tgt := 76) (tk tkX8_insert 34 rfl) (by decide) (fun c71 => absurd c71 (by decide)) (fun c71 => ?_)
      refine pw_iconst (v := 0) (tk tkX8_insert 35 rfl) (by decide) ?_
      refine pw_ireturn (tk tkX8_insert 36 rfl) rfl (by decide) rfl ?_
      have e : sinsert (aOf x.2.1) r p q w = (2, 0, aOf x.2.1) := ((if_neg (ne_f c4)).trans (if_pos c15))
      rw [e]
      exact ⟨_, rfl, rfl, rfl, rfl, rfl, hx, AE.rf _⟩
    · refine pw_iload_n (tk tkX8_insert 8 rfl) rfl ?_
      refine pw_cS (ct_X8_isValue _ _) okX8_isValue (tk tkX8_insert 9 rfl) mkX8_76 stX8_isValue rfl rfl (by decide) (by decide) (Nat.le_of_ble_eq_true rfl) ?_
      refine pw_ifb (tgt := 33) (tk tkX8_insert 10 rfl) (by decide) (fun c22 => ?_) (fun c22 => ?_)
      · refine pw_iconst (v := 2) (tk tkX8_insert 14 rfl) (by decide) ?_
        refine pw_goto (tgt := 38) (tk tkX8_insert 15 rfl) (by decide) ?_
        refine pw_ist5 (tk tkX8_insert 17 rfl) rfl (by decide) ?_
        refine pw_aload_n (tk tkX8_insert 18 rfl) rfl ?_
        refine pw_iload (tk tkX8_insert 19 rfl) rfl ?_
        refine pw_if_le (tgt := 51) (tk tkX8_insert 20 rfl) (by decide) (fun c43 => absurd c43 (by decide)) (fun c43 => ?_)
        refine pw_iload (tk tkX8_insert 21 rfl) rfl ?_
        refine pw_goto (tgt := 68) (tk tkX8_insert 22 rfl) (by decide) ?_
        refine pw_cV (ct_X8_holds x _) okX8_holds (tk tkX8_insert 33 rfl) mkX8_97 imX8_holds seX8_holds (hp_ot _ 11) rfl rfl rfl (by decide) (by decide) (Nat.le_of_ble_eq_true rfl) ?_
        refine pw_ifnb (tgt := 76) (tk tkX8_insert 34 rfl) (by decide) (fun c71 => absurd c71 (by decide)) (fun c71 => ?_)
        refine pw_iconst (v := 0) (tk tkX8_insert 35 rfl) (by decide) ?_
        refine pw_ireturn (tk tkX8_insert 36 rfl) rfl (by decide) rfl ?_
        have e : sinsert (aOf x.2.1) r p q w = (2, 0, aOf x.2.1) := ((if_neg (ne_f c4)).trans ((if_neg (ne_f c15)).trans (if_pos c22)))
        rw [e]
        exact ⟨_, rfl, rfl, rfl, rfl, rfl, hx, AE.rf _⟩
      · refine pw_iload (tk tkX8_insert 11 rfl) rfl ?_
        refine pw_cS (ct_X8_isValue _ _) okX8_isValue (tk tkX8_insert 12 rfl) mkX8_76 stX8_isValue rfl rfl (by decide) (by decide) (Nat.le_of_ble_eq_true rfl) ?_
        refine pw_ifnb (tgt := 37) (tk tkX8_insert 13 rfl) (by decide) (fun c30 => ?_) (fun c30 => ?_)
        · refine pw_iconst (v := 0) (tk tkX8_insert 16 rfl) (by decide) ?_
          refine pw_ist5 (tk tkX8_insert 17 rfl) rfl (by decide) ?_
          refine pw_aload_n (tk tkX8_insert 18 rfl) rfl ?_
          refine pw_iload (tk tkX8_insert 19 rfl) rfl ?_
          refine pw_if_le (tgt := 51) (tk tkX8_insert 20 rfl) (by decide) (fun c43 => ?_) (fun c43 => c43 (by decide) |>.elim)
          refine pw_aload_n (tk tkX8_insert 23 rfl) rfl ?_
          refine pw_iload_n (tk tkX8_insert 24 rfl) rfl ?_
          refine pw_iload_n (tk tkX8_insert 25 rfl) rfl ?_
          refine pw_iload_n (tk tkX8_insert 26 rfl) rfl ?_
          refine pw_iload (tk tkX8_insert 27 rfl) rfl ?_
          obtain ⟨r1, hr, er, er2⟩ := inR_row c4
          refine pw_callV (ct_X8_insertsW x _ hv r1 er p q w hr) okX8_inserts (tk tkX8_insert 28 rfl) mkX8_109 imX8_inserts seX8_inserts (hp_ot _ 11) rfl rfl rfl (by decide) (by decide) (Nat.le_of_ble_eq_true rfl) (fun r h2 q => ?_) (fun E h2 q => by obtain ⟨y, e1, e2, e3, ho, e4⟩ := q; cases ho)
          obtain ⟨y, rfl, fa, es, ho, hw⟩ := q
          cases ho
          refine pw_ifb (tgt := 67) (tk tkX8_insert 29 rfl) (by decide) (fun c60 => ?_) (fun c60 => ?_)
          · refine pw_iconst (v := 3) (tk tkX8_insert 32 rfl) (by decide) ?_
            refine pw_cV (ct_X8_holds y _) okX8_holds (tk tkX8_insert 33 rfl) mkX8_97 imX8_holds seX8_holds (hp_ot _ 11) rfl rfl rfl (by decide) (by decide) (Nat.le_of_ble_eq_true rfl) ?_
            refine pw_ifnb (tgt := 76) (tk tkX8_insert 34 rfl) (by decide) (fun c71 => absurd c71 (by decide)) (fun c71 => ?_)
            refine pw_iconst (v := 0) (tk tkX8_insert 35 rfl) (by decide) ?_
            refine pw_ireturn (tk tkX8_insert 36 rfl) rfl (by decide) rfl ?_
            have hf : ¬ (insR (uN (mS x.2.1)) (mS x.2.1) r1 p q w).2.2.2 = 0 := of_decide_eq_false c60
            have e : sinsert (aOf x.2.1) r p q w = (3, 0, aOf x.2.1) := ((if_neg (ne_f c4)).trans ((if_neg (ne_f c15)).trans ((if_neg (ne_f c22)).trans ((if_neg (ne_f c30)).trans ((by rw [er2]; exact stA_bad 3 c60))))))
            have es2 : E132 (mS y.2.1) (mS x.2.1) := by have es3 := es; rw [show fin (insR (uN (mS x.2.1)) (mS x.2.1) r1 p q w) (mS x.2.1) = mS x.2.1 from if_neg hf] at es3; exact es3
            exact MOQ.stf hx fa es2 3 e
          · refine pw_iconst (v := 0) (tk tkX8_insert 30 rfl) (by decide) ?_
            refine pw_goto (tgt := 68) (tk tkX8_insert 31 rfl) (by decide) ?_
            refine pw_cV (ct_X8_holds y _) okX8_holds (tk tkX8_insert 33 rfl) mkX8_97 imX8_holds seX8_holds (hp_ot _ 11) rfl rfl rfl (by decide) (by decide) (Nat.le_of_ble_eq_true rfl) ?_
            refine pw_ifnb (tgt := 76) (tk tkX8_insert 34 rfl) (by decide) (fun c71 => ?_) (fun c71 => absurd c71 (by decide))
            refine pw_aload_n (tk tkX8_insert 37 rfl) rfl ?_
            refine pw_cV0 (ct_X8_recordAside (xThr y 0) (aK (aOf x.2.1)) (fa.lk.2.2.2.2.2.2.2.1.trans hx.1) hx.2.1) okX8_recordAside (tk tkX8_insert 38 rfl) mkX8_42 imX8_recordAside seX8_recordAside (hp_ot _ 11) rfl rfl rfl (by decide) (by decide) (Nat.le_of_ble_eq_true rfl) ?_
            refine pw_aload_n (tk tkX8_insert 39 rfl) rfl ?_
            refine g8_happened (tk tkX8_insert 40 rfl) fkX8_52 ?_
            refine pw_ireturn (tk tkX8_insert 41 rfl) rfl (by decide) rfl ?_
            have h0 : (insR (uN (mS x.2.1)) (mS x.2.1) r1 p q w).2.2.2 = 0 := of_decide_eq_true c60
            have e : sinsert (aOf x.2.1) r p q w = (0, (insR (uN (mS x.2.1)) (mS x.2.1) r1 p q w).2.1, (fin (insR (uN (mS x.2.1)) (mS x.2.1) r1 p q w) (mS x.2.1), recH (aOf x.2.1) (mS x.2.1), (aOf x.2.1).2.2)) := ((if_neg (ne_f c4)).trans ((if_neg (ne_f c15)).trans ((if_neg (ne_f c22)).trans ((if_neg (ne_f c30)).trans ((by rw [er2]; exact stA_ok 3 c60))))))
            have e12 := (xRecA_F (xThr y 0) (aK (aOf x.2.1))).trans (hw (by rw [h0]; decide)).1
            exact MOQ.stm hx fa es (insR_VS hv p q w hr) e12 e
        · refine pw_iconst (v := 2) (tk tkX8_insert 14 rfl) (by decide) ?_
          refine pw_goto (tgt := 38) (tk tkX8_insert 15 rfl) (by decide) ?_
          refine pw_ist5 (tk tkX8_insert 17 rfl) rfl (by decide) ?_
          refine pw_aload_n (tk tkX8_insert 18 rfl) rfl ?_
          refine pw_iload (tk tkX8_insert 19 rfl) rfl ?_
          refine pw_if_le (tgt := 51) (tk tkX8_insert 20 rfl) (by decide) (fun c43 => absurd c43 (by decide)) (fun c43 => ?_)
          refine pw_iload (tk tkX8_insert 21 rfl) rfl ?_
          refine pw_goto (tgt := 68) (tk tkX8_insert 22 rfl) (by decide) ?_
          refine pw_cV (ct_X8_holds x _) okX8_holds (tk tkX8_insert 33 rfl) mkX8_97 imX8_holds seX8_holds (hp_ot _ 11) rfl rfl rfl (by decide) (by decide) (Nat.le_of_ble_eq_true rfl) ?_
          refine pw_ifnb (tgt := 76) (tk tkX8_insert 34 rfl) (by decide) (fun c71 => absurd c71 (by decide)) (fun c71 => ?_)
          refine pw_iconst (v := 0) (tk tkX8_insert 35 rfl) (by decide) ?_
          refine pw_ireturn (tk tkX8_insert 36 rfl) rfl (by decide) rfl ?_
          have e : sinsert (aOf x.2.1) r p q w = (2, 0, aOf x.2.1) := ((if_neg (ne_f c4)).trans ((if_neg (ne_f c15)).trans ((if_neg (ne_f c22)).trans (if_pos c30))))
          rw [e]
          exact ⟨_, rfl, rfl, rfl, rfl, rfl, hx, AE.rf _⟩
  · refine pw_iconst (v := 1) (tk tkX8_insert 3 rfl) (by decide) ?_
    refine pw_goto (tgt := 38) (tk tkX8_insert 4 rfl) (by decide) ?_
    refine pw_ist5 (tk tkX8_insert 17 rfl) rfl (by decide) ?_
    refine pw_aload_n (tk tkX8_insert 18 rfl) rfl ?_
    refine pw_iload (tk tkX8_insert 19 rfl) rfl ?_
    refine pw_if_le (tgt := 51) (tk tkX8_insert 20 rfl) (by decide) (fun c43 => absurd c43 (by decide)) (fun c43 => ?_)
    refine pw_iload (tk tkX8_insert 21 rfl) rfl ?_
    refine pw_goto (tgt := 68) (tk tkX8_insert 22 rfl) (by decide) ?_
    refine pw_cV (ct_X8_holds x _) okX8_holds (tk tkX8_insert 33 rfl) mkX8_97 imX8_holds seX8_holds (hp_ot _ 11) rfl rfl rfl (by decide) (by decide) (Nat.le_of_ble_eq_true rfl) ?_
    refine pw_ifnb (tgt := 76) (tk tkX8_insert 34 rfl) (by decide) (fun c71 => absurd c71 (by decide)) (fun c71 => ?_)
    refine pw_iconst (v := 0) (tk tkX8_insert 35 rfl) (by decide) ?_
    refine pw_ireturn (tk tkX8_insert 36 rfl) rfl (by decide) rfl ?_
    have e : sinsert (aOf x.2.1) r p q w = (1, 0, aOf x.2.1) := (if_pos c4)
    rw [e]
    exact ⟨_, rfl, rfl, rfl, rfl, rfl, hx, AE.rf _⟩
set_option maxRecDepth 100000 in
set_option maxHeartbeats 4000000 in
theorem ct_X8_update (x : XW) (hx : VM x.2.1) (r c v : Int32) : CT MX8_update 7 0 [.ref 171, .int r, .int c, .int v] (hp x) (MOQ x (supdate (aOf x.2.1) r c v)) := by
  refine ct_of (by decide +kernel) (by decide) rfl (k := 1) (ls := [some (.ref 171), some (.int r), some (.int c), some (.int v), none]) rfl (Nat.le_of_ble_eq_true rfl) ?_
  obtain ⟨hu, hu8⟩ := hx.u
  obtain ⟨l99, hl, el⟩ := hx.l
  have hv : VS (uN (mS x.2.1)) (mS x.2.1) := hx.2.2.2.2.2
  refine pw_iload_n (tk tkX8_update 0 rfl) rfl ?_
  refine pw_cS (ct_X8_isRow _ _) okX8_isRow (tk tkX8_update 1 rfl) mkX8_106 stX8_isRow rfl rfl (by decide) (by decide) (Nat.le_of_ble_eq_true rfl) ?_
  refine pw_ifb (tgt := 14) (tk tkX8_update 2 rfl) (by decide) (fun c4 => ?_) (fun c4 => ?_)
  · refine pw_iconst (v := 1) (tk tkX8_update 6 rfl) (by decide) ?_
    refine pw_goto (tgt := 30) (tk tkX8_update 7 rfl) (by decide) ?_
    refine pw_ist4 (tk tkX8_update 14 rfl) rfl (by decide) ?_
    refine pw_aload_n (tk tkX8_update 15 rfl) rfl ?_
    refine pw_iload (tk tkX8_update 16 rfl) rfl ?_
    refine pw_if_le (tgt := 43) (tk tkX8_update 17 rfl) (by decide) (fun c35 => absurd c35 (by decide)) (fun c35 => ?_)
    refine pw_iload (tk tkX8_update 18 rfl) rfl ?_
    refine pw_goto (tgt := 58) (tk tkX8_update 19 rfl) (by decide) ?_
    refine pw_cV (ct_X8_holds x _) okX8_holds (tk tkX8_update 29 rfl) mkX8_97 imX8_holds seX8_holds (hp_ot _ 11) rfl rfl rfl (by decide) (by decide) (Nat.le_of_ble_eq_true rfl) ?_
    refine pw_ifnb (tgt := 66) (tk tkX8_update 30 rfl) (by decide) (fun c61 => absurd c61 (by decide)) (fun c61 => ?_)
    refine pw_iconst (v := 0) (tk tkX8_update 31 rfl) (by decide) ?_
    refine pw_ireturn (tk tkX8_update 32 rfl) rfl (by decide) rfl ?_
    have e : supdate (aOf x.2.1) r c v = (1, 0, aOf x.2.1) := (if_pos c4)
    rw [e]
    exact ⟨_, rfl, rfl, rfl, rfl, rfl, hx, AE.rf _⟩
  · refine pw_iload_n (tk tkX8_update 3 rfl) rfl ?_
    refine pw_cS (ct_X8_isColumn _ _) okX8_isColumn (tk tkX8_update 4 rfl) mkX8_94 stX8_isColumn rfl rfl (by decide) (by decide) (Nat.le_of_ble_eq_true rfl) ?_
    refine pw_ifnb (tgt := 18) (tk tkX8_update 5 rfl) (by decide) (fun c11 => ?_) (fun c11 => ?_)
    · refine pw_iload_n (tk tkX8_update 8 rfl) rfl ?_
      refine pw_cS (ct_X8_isValue _ _) okX8_isValue (tk tkX8_update 9 rfl) mkX8_76 stX8_isValue rfl rfl (by decide) (by decide) (Nat.le_of_ble_eq_true rfl) ?_
      refine pw_ifnb (tgt := 29) (tk tkX8_update 10 rfl) (by decide) (fun c22 => ?_) (fun c22 => ?_)
      · refine pw_iconst (v := 0) (tk tkX8_update 13 rfl) (by decide) ?_
        refine pw_ist4 (tk tkX8_update 14 rfl) rfl (by decide) ?_
        refine pw_aload_n (tk tkX8_update 15 rfl) rfl ?_
        refine pw_iload (tk tkX8_update 16 rfl) rfl ?_
        refine pw_if_le (tgt := 43) (tk tkX8_update 17 rfl) (by decide) (fun c35 => ?_) (fun c35 => c35 (by decide) |>.elim)
        refine pw_aload_n (tk tkX8_update 20 rfl) rfl ?_
        refine pw_iload_n (tk tkX8_update 21 rfl) rfl ?_
        refine pw_iload_n (tk tkX8_update 22 rfl) rfl ?_
        refine pw_iload_n (tk tkX8_update 23 rfl) rfl ?_
        obtain ⟨r1, hr, er, er2⟩ := inR_row c4
        obtain ⟨c1, hc, ec, ec2⟩ := inR_col c11
        refine pw_callV (ct_X8_updatesW x _ hv r1 c1 er ec v hr hc) okX8_updates (tk tkX8_update 24 rfl) mkX8_112 imX8_updates seX8_updates (hp_ot _ 11) rfl rfl rfl (by decide) (by decide) (Nat.le_of_ble_eq_true rfl) (fun r h2 q => ?_) (fun E h2 q => by obtain ⟨y, e1, e2, e3, ho, e4⟩ := q; cases ho)
        obtain ⟨y, rfl, fa, es, ho, hw⟩ := q
        cases ho
        refine pw_ifb (tgt := 57) (tk tkX8_update 25 rfl) (by decide) (fun c50 => ?_) (fun c50 => ?_)
        · refine pw_iconst (v := 3) (tk tkX8_update 28 rfl) (by decide) ?_
          refine pw_cV (ct_X8_holds y _) okX8_holds (tk tkX8_update 29 rfl) mkX8_97 imX8_holds seX8_holds (hp_ot _ 11) rfl rfl rfl (by decide) (by decide) (Nat.le_of_ble_eq_true rfl) ?_
          refine pw_ifnb (tgt := 66) (tk tkX8_update 30 rfl) (by decide) (fun c61 => absurd c61 (by decide)) (fun c61 => ?_)
          refine pw_iconst (v := 0) (tk tkX8_update 31 rfl) (by decide) ?_
          refine pw_ireturn (tk tkX8_update 32 rfl) rfl (by decide) rfl ?_
          have hf : ¬ (updR (uN (mS x.2.1)) (mS x.2.1) r1 c1 v).2.2.2 = 0 := of_decide_eq_false c50
          have e : supdate (aOf x.2.1) r c v = (3, 0, aOf x.2.1) := ((if_neg (ne_f c4)).trans ((if_neg (ne_f c11)).trans ((if_neg (ne_f c22)).trans ((by rw [er2, ec2]; exact stA_bad 3 c50)))))
          have es2 : E132 (mS y.2.1) (mS x.2.1) := by have es3 := es; rw [show fin (updR (uN (mS x.2.1)) (mS x.2.1) r1 c1 v) (mS x.2.1) = mS x.2.1 from if_neg hf] at es3; exact es3
          exact MOQ.stf hx fa es2 3 e
        · refine pw_iconst (v := 0) (tk tkX8_update 26 rfl) (by decide) ?_
          refine pw_goto (tgt := 58) (tk tkX8_update 27 rfl) (by decide) ?_
          refine pw_cV (ct_X8_holds y _) okX8_holds (tk tkX8_update 29 rfl) mkX8_97 imX8_holds seX8_holds (hp_ot _ 11) rfl rfl rfl (by decide) (by decide) (Nat.le_of_ble_eq_true rfl) ?_
          refine pw_ifnb (tgt := 66) (tk tkX8_update 30 rfl) (by decide) (fun c61 => ?_) (fun c61 => absurd c61 (by decide))
          refine pw_aload_n (tk tkX8_update 33 rfl) rfl ?_
          refine pw_cV0 (ct_X8_recordAside (xThr y 0) (aK (aOf x.2.1)) (fa.lk.2.2.2.2.2.2.2.1.trans hx.1) hx.2.1) okX8_recordAside (tk tkX8_update 34 rfl) mkX8_42 imX8_recordAside seX8_recordAside (hp_ot _ 11) rfl rfl rfl (by decide) (by decide) (Nat.le_of_ble_eq_true rfl) ?_
          refine pw_aload_n (tk tkX8_update 35 rfl) rfl ?_
          refine g8_happened (tk tkX8_update 36 rfl) fkX8_52 ?_
          refine pw_ireturn (tk tkX8_update 37 rfl) rfl (by decide) rfl ?_
          have h0 : (updR (uN (mS x.2.1)) (mS x.2.1) r1 c1 v).2.2.2 = 0 := of_decide_eq_true c50
          have e : supdate (aOf x.2.1) r c v = (0, (updR (uN (mS x.2.1)) (mS x.2.1) r1 c1 v).2.1, (fin (updR (uN (mS x.2.1)) (mS x.2.1) r1 c1 v) (mS x.2.1), recH (aOf x.2.1) (mS x.2.1), (aOf x.2.1).2.2)) := ((if_neg (ne_f c4)).trans ((if_neg (ne_f c11)).trans ((if_neg (ne_f c22)).trans ((by rw [er2, ec2]; exact stA_ok 3 c50)))))
          have e12 := (xRecA_F (xThr y 0) (aK (aOf x.2.1))).trans (hw trivial).1
          exact MOQ.stm hx fa es (updR_VS hv v hr hc) e12 e
      · refine pw_iconst (v := 2) (tk tkX8_update 11 rfl) (by decide) ?_
        refine pw_goto (tgt := 30) (tk tkX8_update 12 rfl) (by decide) ?_
        refine pw_ist4 (tk tkX8_update 14 rfl) rfl (by decide) ?_
        refine pw_aload_n (tk tkX8_update 15 rfl) rfl ?_
        refine pw_iload (tk tkX8_update 16 rfl) rfl ?_
        refine pw_if_le (tgt := 43) (tk tkX8_update 17 rfl) (by decide) (fun c35 => absurd c35 (by decide)) (fun c35 => ?_)
        refine pw_iload (tk tkX8_update 18 rfl) rfl ?_
        refine pw_goto (tgt := 58) (tk tkX8_update 19 rfl) (by decide) ?_
        refine pw_cV (ct_X8_holds x _) okX8_holds (tk tkX8_update 29 rfl) mkX8_97 imX8_holds seX8_holds (hp_ot _ 11) rfl rfl rfl (by decide) (by decide) (Nat.le_of_ble_eq_true rfl) ?_
        refine pw_ifnb (tgt := 66) (tk tkX8_update 30 rfl) (by decide) (fun c61 => absurd c61 (by decide)) (fun c61 => ?_)
        refine pw_iconst (v := 0) (tk tkX8_update 31 rfl) (by decide) ?_
        refine pw_ireturn (tk tkX8_update 32 rfl) rfl (by decide) rfl ?_
        have e : supdate (aOf x.2.1) r c v = (2, 0, aOf x.2.1) := ((if_neg (ne_f c4)).trans ((if_neg (ne_f c11)).trans (if_pos c22)))
        rw [e]
        exact ⟨_, rfl, rfl, rfl, rfl, rfl, hx, AE.rf _⟩
    · refine pw_iconst (v := 1) (tk tkX8_update 6 rfl) (by decide) ?_
      refine pw_goto (tgt := 30) (tk tkX8_update 7 rfl) (by decide) ?_
      refine pw_ist4 (tk tkX8_update 14 rfl) rfl (by decide) ?_
      refine pw_aload_n (tk tkX8_update 15 rfl) rfl ?_
      refine pw_iload (tk tkX8_update 16 rfl) rfl ?_
      refine pw_if_le (tgt := 43) (tk tkX8_update 17 rfl) (by decide) (fun c35 => absurd c35 (by decide)) (fun c35 => ?_)
      refine pw_iload (tk tkX8_update 18 rfl) rfl ?_
      refine pw_goto (tgt := 58) (tk tkX8_update 19 rfl) (by decide) ?_
      refine pw_cV (ct_X8_holds x _) okX8_holds (tk tkX8_update 29 rfl) mkX8_97 imX8_holds seX8_holds (hp_ot _ 11) rfl rfl rfl (by decide) (by decide) (Nat.le_of_ble_eq_true rfl) ?_
      refine pw_ifnb (tgt := 66) (tk tkX8_update 30 rfl) (by decide) (fun c61 => absurd c61 (by decide)) (fun c61 => ?_)
      refine pw_iconst (v := 0) (tk tkX8_update 31 rfl) (by decide) ?_
      refine pw_ireturn (tk tkX8_update 32 rfl) rfl (by decide) rfl ?_
      have e : supdate (aOf x.2.1) r c v = (1, 0, aOf x.2.1) := ((if_neg (ne_f c4)).trans (if_pos c11))
      rw [e]
      exact ⟨_, rfl, rfl, rfl, rfl, rfl, hx, AE.rf _⟩
set_option maxRecDepth 100000 in
set_option maxHeartbeats 4000000 in
theorem ct_X8_remove (x : XW) (hx : VM x.2.1) (r : Int32) : CT MX8_remove 7 0 [.ref 171, .int r] (hp x) (MOQ x (sremove (aOf x.2.1) r)) := by
  refine ct_of (by decide +kernel) (by decide) rfl (k := 0) (ls := [some (.ref 171), some (.int r)]) rfl (Nat.le_of_ble_eq_true rfl) ?_
  obtain ⟨hu, hu8⟩ := hx.u
  obtain ⟨l99, hl, el⟩ := hx.l
  have hv : VS (uN (mS x.2.1)) (mS x.2.1) := hx.2.2.2.2.2
  refine pw_aload_n (tk tkX8_remove 0 rfl) rfl ?_
  refine pw_iload_n (tk tkX8_remove 1 rfl) rfl ?_
  refine pw_cS (ct_X8_isRow _ _) okX8_isRow (tk tkX8_remove 2 rfl) mkX8_106 stX8_isRow rfl rfl (by decide) (by decide) (Nat.le_of_ble_eq_true rfl) ?_
  refine pw_ifnb (tgt := 12) (tk tkX8_remove 3 rfl) (by decide) (fun c5 => ?_) (fun c5 => ?_)
  · refine pw_aload_n (tk tkX8_remove 6 rfl) rfl ?_
    refine pw_iload_n (tk tkX8_remove 7 rfl) rfl ?_
    obtain ⟨r1, hr, er, er2⟩ := inR_row c5
    refine pw_callV (ct_X8_removesW x _ hv r1 er hr) okX8_removes (tk tkX8_remove 8 rfl) mkX8_115 imX8_removes seX8_removes (hp_ot _ 11) rfl rfl rfl (by decide) (by decide) (Nat.le_of_ble_eq_true rfl) (fun r h2 q => ?_) (fun E h2 q => by obtain ⟨y, e1, e2, e3, ho, e4⟩ := q; cases ho)
    obtain ⟨y, rfl, fa, es, ho, hw⟩ := q
    cases ho
    refine pw_ifb (tgt := 24) (tk tkX8_remove 9 rfl) (by decide) (fun c17 => ?_) (fun c17 => ?_)
    · refine pw_iconst (v := 2) (tk tkX8_remove 12 rfl) (by decide) ?_
      refine pw_cV (ct_X8_holds y _) okX8_holds (tk tkX8_remove 13 rfl) mkX8_97 imX8_holds seX8_holds (hp_ot _ 11) rfl rfl rfl (by decide) (by decide) (Nat.le_of_ble_eq_true rfl) ?_
      refine pw_ifnb (tgt := 33) (tk tkX8_remove 14 rfl) (by decide) (fun c28 => absurd c28 (by decide)) (fun c28 => ?_)
      refine pw_iconst (v := 0) (tk tkX8_remove 15 rfl) (by decide) ?_
      refine pw_ireturn (tk tkX8_remove 16 rfl) rfl (by decide) rfl ?_
      have hf : ¬ (remR (uN (mS x.2.1)) (mS x.2.1) r1).2.2.2 = 0 := of_decide_eq_false c17
      have e : sremove (aOf x.2.1) r = (2, 0, aOf x.2.1) := ((if_neg (ne_f c5)).trans ((by rw [er2]; exact stA_bad 2 c17)))
      have es2 : E132 (mS y.2.1) (mS x.2.1) := by have es3 := es; rw [show fin (remR (uN (mS x.2.1)) (mS x.2.1) r1) (mS x.2.1) = mS x.2.1 from if_neg hf] at es3; exact es3
      exact MOQ.stf hx fa es2 2 e
    · refine pw_iconst (v := 0) (tk tkX8_remove 10 rfl) (by decide) ?_
      refine pw_goto (tgt := 25) (tk tkX8_remove 11 rfl) (by decide) ?_
      refine pw_cV (ct_X8_holds y _) okX8_holds (tk tkX8_remove 13 rfl) mkX8_97 imX8_holds seX8_holds (hp_ot _ 11) rfl rfl rfl (by decide) (by decide) (Nat.le_of_ble_eq_true rfl) ?_
      refine pw_ifnb (tgt := 33) (tk tkX8_remove 14 rfl) (by decide) (fun c28 => ?_) (fun c28 => absurd c28 (by decide))
      refine pw_aload_n (tk tkX8_remove 17 rfl) rfl ?_
      refine pw_cV0 (ct_X8_recordAside (xThr y 0) (aK (aOf x.2.1)) (fa.lk.2.2.2.2.2.2.2.1.trans hx.1) hx.2.1) okX8_recordAside (tk tkX8_remove 18 rfl) mkX8_42 imX8_recordAside seX8_recordAside (hp_ot _ 11) rfl rfl rfl (by decide) (by decide) (Nat.le_of_ble_eq_true rfl) ?_
      refine pw_aload_n (tk tkX8_remove 19 rfl) rfl ?_
      refine g8_happened (tk tkX8_remove 20 rfl) fkX8_52 ?_
      refine pw_ireturn (tk tkX8_remove 21 rfl) rfl (by decide) rfl ?_
      have h0 : (remR (uN (mS x.2.1)) (mS x.2.1) r1).2.2.2 = 0 := of_decide_eq_true c17
      have e : sremove (aOf x.2.1) r = (0, (remR (uN (mS x.2.1)) (mS x.2.1) r1).2.1, (fin (remR (uN (mS x.2.1)) (mS x.2.1) r1) (mS x.2.1), recH (aOf x.2.1) (mS x.2.1), (aOf x.2.1).2.2)) := ((if_neg (ne_f c5)).trans ((by rw [er2]; exact stA_ok 2 c17)))
      have e12 := (xRecA_F (xThr y 0) (aK (aOf x.2.1))).trans (hw (by rw [h0]; decide)).1
      exact MOQ.stm hx fa es (remR_VS hv hr) e12 e
  · refine pw_iconst (v := 1) (tk tkX8_remove 4 rfl) (by decide) ?_
    refine pw_goto (tgt := 25) (tk tkX8_remove 5 rfl) (by decide) ?_
    refine pw_cV (ct_X8_holds x _) okX8_holds (tk tkX8_remove 13 rfl) mkX8_97 imX8_holds seX8_holds (hp_ot _ 11) rfl rfl rfl (by decide) (by decide) (Nat.le_of_ble_eq_true rfl) ?_
    refine pw_ifnb (tgt := 33) (tk tkX8_remove 14 rfl) (by decide) (fun c28 => absurd c28 (by decide)) (fun c28 => ?_)
    refine pw_iconst (v := 0) (tk tkX8_remove 15 rfl) (by decide) ?_
    refine pw_ireturn (tk tkX8_remove 16 rfl) rfl (by decide) rfl ?_
    have e : sremove (aOf x.2.1) r = (1, 0, aOf x.2.1) := (if_pos c5)
    rw [e]
    exact ⟨_, rfl, rfl, rfl, rfl, rfl, hx, AE.rf _⟩
def tuC (r c v : Int32) : Int32 := if inR r 0 5 = false then 1 else if inR c 0 2 = false then 1 else if inR v 0 999 = false then 2 else 0
def tuR (a : AM) (r c v : Int32) : TT := updR (uN (aS a)) (aS a) r.toNatClampNeg c.toNatClampNeg v
def tuQ (x : XW) (r c v : Int32) : Out → Hp → Prop := fun o h2 => (¬ tuC r c v = 0 ∧ o = .inl (some (.int 0)) ∧ h2 = hp (xThr x (tuC r c v))) ∨ (tuC r c v = 0 ∧ o = .inl (some (.int 1)) ∧ ∃ y, h2 = hp y ∧ y.1 = x.1 ∧ y.2.2 = x.2.2 ∧ mF y.2.1 0 = 0 ∧ VM y.2.1 ∧ AE (aOf x.2.1) (aOf y.2.1) ∧ mF y.2.1 12 = (tuR (aOf x.2.1) r c v).2.1 ∧ mF y.2.1 11 = (tuR (aOf x.2.1) r c v).2.2.1 ∧ mF y.2.1 13 = (tuR (aOf x.2.1) r c v).2.2.2)
set_option maxRecDepth 100000 in
set_option maxHeartbeats 4000000 in
theorem ct_X8_triesUpdate (x : XW) (hx : VM x.2.1) (r c v : Int32) : CT MX8_triesUpdate 7 0 [.ref 171, .int r, .int c, .int v] (hp x) (tuQ x r c v) := by
  refine ct_of (by decide +kernel) (by decide) rfl (k := 1) (ls := [some (.ref 171), some (.int r), some (.int c), some (.int v), none]) rfl (Nat.le_of_ble_eq_true rfl) ?_
  have hv : VS (uN (mS x.2.1)) (mS x.2.1) := hx.2.2.2.2.2
  refine pw_aload_n (tk tkX8_triesUpdate 0 rfl) rfl ?_
  refine pw_iload_n (tk tkX8_triesUpdate 1 rfl) rfl ?_
  refine pw_cS (ct_X8_isRow _ _) okX8_isRow (tk tkX8_triesUpdate 2 rfl) mkX8_106 stX8_isRow rfl rfl (by decide) (by decide) (Nat.le_of_ble_eq_true rfl) ?_
  refine pw_ifb (tgt := 15) (tk tkX8_triesUpdate 3 rfl) (by decide) (fun c5 => ?_) (fun c5 => ?_)
  · refine pw_iconst (v := 1) (tk tkX8_triesUpdate 7 rfl) (by decide) ?_
    refine pw_goto (tgt := 31) (tk tkX8_triesUpdate 8 rfl) (by decide) ?_
    refine pw_cV (ct_X8_holds x _) okX8_holds (tk tkX8_triesUpdate 15 rfl) mkX8_97 imX8_holds seX8_holds (hp_ot _ 11) rfl rfl rfl (by decide) (by decide) (Nat.le_of_ble_eq_true rfl) ?_
    refine pw_ifnb (tgt := 39) (tk tkX8_triesUpdate 16 rfl) (by decide) (fun c34 => absurd c34 (by decide)) (fun c34 => ?_)
    refine pw_iconst (v := 0) (tk tkX8_triesUpdate 17 rfl) (by decide) ?_
    refine pw_ireturn (tk tkX8_triesUpdate 18 rfl) rfl (by decide) (by first | rfl | exact nar_bI _) ?_
    have e : tuC r c v = 1 := (if_pos c5)
    exact .inl ⟨by rw [e]; decide, rfl, by rw [e]⟩
  · refine pw_iload_n (tk tkX8_triesUpdate 4 rfl) rfl ?_
    refine pw_cS (ct_X8_isColumn _ _) okX8_isColumn (tk tkX8_triesUpdate 5 rfl) mkX8_94 stX8_isColumn rfl rfl (by decide) (by decide) (Nat.le_of_ble_eq_true rfl) ?_
    refine pw_ifnb (tgt := 19) (tk tkX8_triesUpdate 6 rfl) (by decide) (fun c12 => ?_) (fun c12 => ?_)
    · refine pw_iload_n (tk tkX8_triesUpdate 9 rfl) rfl ?_
      refine pw_cS (ct_X8_isValue _ _) okX8_isValue (tk tkX8_triesUpdate 10 rfl) mkX8_76 stX8_isValue rfl rfl (by decide) (by decide) (Nat.le_of_ble_eq_true rfl) ?_
      refine pw_ifnb (tgt := 30) (tk tkX8_triesUpdate 11 rfl) (by decide) (fun c23 => ?_) (fun c23 => ?_)
      · refine pw_iconst (v := 0) (tk tkX8_triesUpdate 14 rfl) (by decide) ?_
        refine pw_cV (ct_X8_holds x _) okX8_holds (tk tkX8_triesUpdate 15 rfl) mkX8_97 imX8_holds seX8_holds (hp_ot _ 11) rfl rfl rfl (by decide) (by decide) (Nat.le_of_ble_eq_true rfl) ?_
        refine pw_ifnb (tgt := 39) (tk tkX8_triesUpdate 16 rfl) (by decide) (fun c34 => ?_) (fun c34 => absurd c34 (by decide))
        refine pw_aload_n (tk tkX8_triesUpdate 19 rfl) rfl ?_
        refine pw_iload_n (tk tkX8_triesUpdate 20 rfl) rfl ?_
        refine pw_iload_n (tk tkX8_triesUpdate 21 rfl) rfl ?_
        refine pw_iload_n (tk tkX8_triesUpdate 22 rfl) rfl ?_
        obtain ⟨r1, hr, er, er2⟩ := inR_row c5
        obtain ⟨c1, hc, ec, ec2⟩ := inR_col c12
        refine pw_callV (ct_X8_updatesW (xThr x 0) _ hv r1 c1 er ec v hr hc) okX8_updates (tk tkX8_triesUpdate 23 rfl) mkX8_112 imX8_updates seX8_updates (hp_ot _ 11) rfl rfl rfl (by decide) (by decide) (Nat.le_of_ble_eq_true rfl) (fun r h2 q => ?_) (fun E h2 q => by obtain ⟨y, e1, e2, e3, ho, e4⟩ := q; cases ho)
        obtain ⟨y, rfl, fa, es, ho, hw⟩ := q
        cases ho
        refine pw_ist4 (tk tkX8_triesUpdate 24 rfl) rfl (by decide) ?_
        refine pw_aload_n (tk tkX8_triesUpdate 25 rfl) rfl ?_
        refine pw_cV0 (ct_X8_putBack y) okX8_putBack (tk tkX8_triesUpdate 26 rfl) mkX8_87 imX8_putBack seX8_putBack (hp_ot _ 11) rfl rfl rfl (by decide) (by decide) (Nat.le_of_ble_eq_true rfl) ?_
        refine pw_iconst (v := 1) (tk tkX8_triesUpdate 27 rfl) (by decide) ?_
        refine pw_ireturn (tk tkX8_triesUpdate 28 rfl) rfl (by decide) (by first | rfl | exact nar_bI _) ?_
        have e : tuC r c v = 0 := ((if_neg (ne_f c5)).trans ((if_neg (ne_f c12)).trans (if_neg (ne_f c23))))
        have eR : tuR (aOf x.2.1) r c v = updR (uN (mS x.2.1)) (mS x.2.1) r1 c1 v := by unfold tuR; rw [er2, ec2]; rfl
        have fb : FA (xThr x 0) (uM1 y (cpN 132 (mA y.2.1) (mS y.2.1))) := ⟨fa.1, fa.2.1, fa.2.2.1, fa.2.2.2.1, fa.2.2.2.2.1, fa.2.2.2.2.2.1, fa.2.2.2.2.2.2⟩
        obtain ⟨q1, q2⟩ := fb.vm (hx.thr 0) ((cpN_E _ _).tr fa.2.2.1)
        obtain ⟨w1, w2, w3⟩ := hw trivial
        exact .inr ⟨e, rfl, _, rfl, fa.1, fa.2.1, fa.2.2.2.2.2.2 0 (by decide) (by decide) (by decide) (by decide), q1, q2, by rw [eR]; exact w1, by rw [eR]; exact w2, by rw [eR]; exact w3⟩
      · refine pw_iconst (v := 2) (tk tkX8_triesUpdate 12 rfl) (by decide) ?_
        refine pw_goto (tgt := 31) (tk tkX8_triesUpdate 13 rfl) (by decide) ?_
        refine pw_cV (ct_X8_holds x _) okX8_holds (tk tkX8_triesUpdate 15 rfl) mkX8_97 imX8_holds seX8_holds (hp_ot _ 11) rfl rfl rfl (by decide) (by decide) (Nat.le_of_ble_eq_true rfl) ?_
        refine pw_ifnb (tgt := 39) (tk tkX8_triesUpdate 16 rfl) (by decide) (fun c34 => absurd c34 (by decide)) (fun c34 => ?_)
        refine pw_iconst (v := 0) (tk tkX8_triesUpdate 17 rfl) (by decide) ?_
        refine pw_ireturn (tk tkX8_triesUpdate 18 rfl) rfl (by decide) (by first | rfl | exact nar_bI _) ?_
        have e : tuC r c v = 2 := ((if_neg (ne_f c5)).trans ((if_neg (ne_f c12)).trans (if_pos c23)))
        exact .inl ⟨by rw [e]; decide, rfl, by rw [e]⟩
    · refine pw_iconst (v := 1) (tk tkX8_triesUpdate 7 rfl) (by decide) ?_
      refine pw_goto (tgt := 31) (tk tkX8_triesUpdate 8 rfl) (by decide) ?_
      refine pw_cV (ct_X8_holds x _) okX8_holds (tk tkX8_triesUpdate 15 rfl) mkX8_97 imX8_holds seX8_holds (hp_ot _ 11) rfl rfl rfl (by decide) (by decide) (Nat.le_of_ble_eq_true rfl) ?_
      refine pw_ifnb (tgt := 39) (tk tkX8_triesUpdate 16 rfl) (by decide) (fun c34 => absurd c34 (by decide)) (fun c34 => ?_)
      refine pw_iconst (v := 0) (tk tkX8_triesUpdate 17 rfl) (by decide) ?_
      refine pw_ireturn (tk tkX8_triesUpdate 18 rfl) rfl (by decide) (by first | rfl | exact nar_bI _) ?_
      have e : tuC r c v = 1 := ((if_neg (ne_f c5)).trans (if_pos c12))
      exact .inl ⟨by rw [e]; decide, rfl, by rw [e]⟩
def swhyNotUpdate (a : AM) (r c v : Int32) : RS3 := (tuC r c v, (if tuC r c v = 0 then (tuR a r c v).2.2.2 else 0), a)
def seventsOfUpdate (a : AM) (r c v : Int32) : RS3 := (tuC r c v, (if tuC r c v = 0 then (if (tuR a r c v).2.2.2 ≤ 0 then (tuR a r c v).2.1 else -1) else 0), a)
def sdepthOfUpdate (a : AM) (r c v : Int32) : RS3 := (tuC r c v, (if tuC r c v = 0 then (if (tuR a r c v).2.2.2 ≤ 0 then (tuR a r c v).2.2.1 else -1) else 0), a)
set_option maxRecDepth 100000 in
set_option maxHeartbeats 4000000 in
theorem ct_X8_whyNotUpdate (x : XW) (hx : VM x.2.1) (r c v : Int32) : CT MX8_whyNotUpdate 8 0 [.ref 171, .int r, .int c, .int v] (hp x) (MOQ x (swhyNotUpdate (aOf x.2.1) r c v)) := by
  refine ct_of (by decide +kernel) (by decide) rfl (k := 0) (ls := [some (.ref 171), some (.int r), some (.int c), some (.int v)]) rfl (Nat.le_of_ble_eq_true rfl) ?_
  refine pw_aload_n (tk tkX8_whyNotUpdate 0 rfl) rfl ?_
  refine pw_iload_n (tk tkX8_whyNotUpdate 1 rfl) rfl ?_
  refine pw_iload_n (tk tkX8_whyNotUpdate 2 rfl) rfl ?_
  refine pw_iload_n (tk tkX8_whyNotUpdate 3 rfl) rfl ?_
  refine pw_callV (ct_X8_triesUpdate x hx r c v) okX8_triesUpdate (tk tkX8_whyNotUpdate 4 rfl) mkX8_118 imX8_triesUpdate seX8_triesUpdate (hp_ot _ 11) rfl rfl rfl (by decide) (by decide) (Nat.le_of_ble_eq_true rfl) (fun r h2 q => ?_) (fun E h2 q => by rcases q with ⟨_, ho, _⟩ | ⟨_, ho, _⟩ <;> cases ho)
  rcases q with ⟨e0, ho, rfl⟩ | ⟨e0, ho, y, rfl, y1, y2, y3, y4, y5, y6, y7, y8⟩
  · cases ho
    refine pw_if_eq (tgt := 17) (tk tkX8_whyNotUpdate 5 rfl) (by decide) (fun c7 => ?_) (fun c7 => absurd rfl c7)
    refine pw_iconst (v := 0) (tk tkX8_whyNotUpdate 9 rfl) (by decide) ?_
    exact pw_ireturn (tk tkX8_whyNotUpdate 10 rfl) rfl (by decide) rfl ⟨_, rfl, rfl, rfl, rfl, congrArg (fun z => Sum.inl (some (Value.int z))) (if_neg e0).symm, hx.thr _, AE.rf _⟩
  · cases ho
    refine pw_if_eq (tgt := 17) (tk tkX8_whyNotUpdate 5 rfl) (by decide) (fun c7 => absurd c7 (by decide)) (fun c7 => ?_)
    refine pw_aload_n (tk tkX8_whyNotUpdate 6 rfl) rfl ?_
    refine g8_refused (tk tkX8_whyNotUpdate 7 rfl) fkX8_59 ?_
    refine pw_goto (tgt := 18) (tk tkX8_whyNotUpdate 8 rfl) (by decide) ?_
    exact pw_ireturn (tk tkX8_whyNotUpdate 10 rfl) rfl (by decide) rfl ⟨_, rfl, y1, y2, y3.trans e0.symm, congrArg (fun z => Sum.inl (some (Value.int z))) (y8.trans (if_pos e0).symm), y4, y5⟩
set_option maxRecDepth 100000 in
set_option maxHeartbeats 4000000 in
theorem ct_X8_eventsOfUpdate (x : XW) (hx : VM x.2.1) (r c v : Int32) : CT MX8_eventsOfUpdate 8 0 [.ref 171, .int r, .int c, .int v] (hp x) (MOQ x (seventsOfUpdate (aOf x.2.1) r c v)) := by
  refine ct_of (by decide +kernel) (by decide) rfl (k := 0) (ls := [some (.ref 171), some (.int r), some (.int c), some (.int v)]) rfl (Nat.le_of_ble_eq_true rfl) ?_
  refine pw_aload_n (tk tkX8_eventsOfUpdate 0 rfl) rfl ?_
  refine pw_iload_n (tk tkX8_eventsOfUpdate 1 rfl) rfl ?_
  refine pw_iload_n (tk tkX8_eventsOfUpdate 2 rfl) rfl ?_
  refine pw_iload_n (tk tkX8_eventsOfUpdate 3 rfl) rfl ?_
  refine pw_callV (ct_X8_triesUpdate x hx r c v) okX8_triesUpdate (tk tkX8_eventsOfUpdate 4 rfl) mkX8_118 imX8_triesUpdate seX8_triesUpdate (hp_ot _ 11) rfl rfl rfl (by decide) (by decide) (Nat.le_of_ble_eq_true rfl) (fun r h2 q => ?_) (fun E h2 q => by rcases q with ⟨_, ho, _⟩ | ⟨_, ho, _⟩ <;> cases ho)
  rcases q with ⟨e0, ho, rfl⟩ | ⟨e0, ho, y, rfl, y1, y2, y3, y4, y5, y6, y7, y8⟩
  · cases ho
    refine pw_if_ne (tgt := 14) (tk tkX8_eventsOfUpdate 5 rfl) (by decide) (fun c7 => absurd c7 (fun q => q rfl)) (fun c7 => ?_)
    refine pw_iconst (v := 0) (tk tkX8_eventsOfUpdate 6 rfl) (by decide) ?_
    refine pw_goto (tgt := 29) (tk tkX8_eventsOfUpdate 7 rfl) (by decide) ?_
    exact pw_ireturn (tk tkX8_eventsOfUpdate 15 rfl) rfl (by decide) rfl ⟨_, rfl, rfl, rfl, rfl, congrArg (fun z => Sum.inl (some (Value.int z))) (if_neg e0).symm, hx.thr _, AE.rf _⟩
  · cases ho
    refine pw_if_ne (tgt := 14) (tk tkX8_eventsOfUpdate 5 rfl) (by decide) (fun c7 => ?_) (fun c7 => absurd c7 (by decide))
    refine pw_aload_n (tk tkX8_eventsOfUpdate 8 rfl) rfl ?_
    refine g8_refused (tk tkX8_eventsOfUpdate 9 rfl) fkX8_59 ?_
    refine pw_if_le (tgt := 25) (tk tkX8_eventsOfUpdate 10 rfl) (by decide) (fun c18 => ?_) (fun c18 => ?_)
    · refine pw_aload_n (tk tkX8_eventsOfUpdate 13 rfl) rfl ?_
      refine g8_happened (tk tkX8_eventsOfUpdate 14 rfl) fkX8_52 ?_
      exact pw_ireturn (tk tkX8_eventsOfUpdate 15 rfl) rfl (by decide) rfl ⟨_, rfl, y1, y2, y3.trans e0.symm, congrArg (fun z => Sum.inl (some (Value.int z))) (y6.trans ((if_pos e0).trans (if_pos (by rw [← y8]; exact c18))).symm), y4, y5⟩
    · refine pw_iconst (v := (-1)) (tk tkX8_eventsOfUpdate 11 rfl) (by decide) ?_
      refine pw_goto (tgt := 29) (tk tkX8_eventsOfUpdate 12 rfl) (by decide) ?_
      exact pw_ireturn (tk tkX8_eventsOfUpdate 15 rfl) rfl (by decide) rfl ⟨_, rfl, y1, y2, y3.trans e0.symm, congrArg (fun z => Sum.inl (some (Value.int z))) (((if_pos e0).trans (if_neg (by rw [← y8]; exact c18))).symm), y4, y5⟩
set_option maxRecDepth 100000 in
set_option maxHeartbeats 4000000 in
theorem ct_X8_depthOfUpdate (x : XW) (hx : VM x.2.1) (r c v : Int32) : CT MX8_depthOfUpdate 8 0 [.ref 171, .int r, .int c, .int v] (hp x) (MOQ x (sdepthOfUpdate (aOf x.2.1) r c v)) := by
  refine ct_of (by decide +kernel) (by decide) rfl (k := 0) (ls := [some (.ref 171), some (.int r), some (.int c), some (.int v)]) rfl (Nat.le_of_ble_eq_true rfl) ?_
  refine pw_aload_n (tk tkX8_depthOfUpdate 0 rfl) rfl ?_
  refine pw_iload_n (tk tkX8_depthOfUpdate 1 rfl) rfl ?_
  refine pw_iload_n (tk tkX8_depthOfUpdate 2 rfl) rfl ?_
  refine pw_iload_n (tk tkX8_depthOfUpdate 3 rfl) rfl ?_
  refine pw_callV (ct_X8_triesUpdate x hx r c v) okX8_triesUpdate (tk tkX8_depthOfUpdate 4 rfl) mkX8_118 imX8_triesUpdate seX8_triesUpdate (hp_ot _ 11) rfl rfl rfl (by decide) (by decide) (Nat.le_of_ble_eq_true rfl) (fun r h2 q => ?_) (fun E h2 q => by rcases q with ⟨_, ho, _⟩ | ⟨_, ho, _⟩ <;> cases ho)
  rcases q with ⟨e0, ho, rfl⟩ | ⟨e0, ho, y, rfl, y1, y2, y3, y4, y5, y6, y7, y8⟩
  · cases ho
    refine pw_if_ne (tgt := 14) (tk tkX8_depthOfUpdate 5 rfl) (by decide) (fun c7 => absurd c7 (fun q => q rfl)) (fun c7 => ?_)
    refine pw_iconst (v := 0) (tk tkX8_depthOfUpdate 6 rfl) (by decide) ?_
    refine pw_goto (tgt := 29) (tk tkX8_depthOfUpdate 7 rfl) (by decide) ?_
    exact pw_ireturn (tk tkX8_depthOfUpdate 15 rfl) rfl (by decide) rfl ⟨_, rfl, rfl, rfl, rfl, congrArg (fun z => Sum.inl (some (Value.int z))) (if_neg e0).symm, hx.thr _, AE.rf _⟩
  · cases ho
    refine pw_if_ne (tgt := 14) (tk tkX8_depthOfUpdate 5 rfl) (by decide) (fun c7 => ?_) (fun c7 => absurd c7 (by decide))
    refine pw_aload_n (tk tkX8_depthOfUpdate 8 rfl) rfl ?_
    refine g8_refused (tk tkX8_depthOfUpdate 9 rfl) fkX8_59 ?_
    refine pw_if_le (tgt := 25) (tk tkX8_depthOfUpdate 10 rfl) (by decide) (fun c18 => ?_) (fun c18 => ?_)
    · refine pw_aload_n (tk tkX8_depthOfUpdate 13 rfl) rfl ?_
      refine g8_deepest (tk tkX8_depthOfUpdate 14 rfl) fkX8_65 ?_
      exact pw_ireturn (tk tkX8_depthOfUpdate 15 rfl) rfl (by decide) rfl ⟨_, rfl, y1, y2, y3.trans e0.symm, congrArg (fun z => Sum.inl (some (Value.int z))) (y7.trans ((if_pos e0).trans (if_pos (by rw [← y8]; exact c18))).symm), y4, y5⟩
    · refine pw_iconst (v := (-1)) (tk tkX8_depthOfUpdate 11 rfl) (by decide) ?_
      refine pw_goto (tgt := 29) (tk tkX8_depthOfUpdate 12 rfl) (by decide) ?_
      exact pw_ireturn (tk tkX8_depthOfUpdate 15 rfl) rfl (by decide) rfl ⟨_, rfl, y1, y2, y3.trans e0.symm, congrArg (fun z => Sum.inl (some (Value.int z))) (((if_pos e0).trans (if_neg (by rw [← y8]; exact c18))).symm), y4, y5⟩
end
