abbrev RS (σ : SS) (s : Nat → Int32) : Prop := RS1 σ s (s 98)
/-- the class holds the abstract machine -/
def RC (a : AM) (c : CW) : Prop := RS (cSt c 0) (aS a) ∧ (∃ nx, nx < 6 ∧ cHi c 0 = nI (aK a) ∧ cHi c 1 = nI nx ∧ aK a ≤ 6 ∧ ∀ i, i < aK a → RS (cSt c (2 + (nx + 6 - aK a + i) % 6)) (aH a i)) ∧ (∀ i, i < 2 → cSf c i = bI (aB a i) ∧ (aB a i = true → RS (cSt c (8 + i)) (aL a i))) ∧ cTx c 0 = nI (aN a) ∧ aN a ≤ 80 ∧ ∀ i, i < aN a → cSg c i = aT a i
/-- the end of a call of the class -/
def CQ (exs : List (Int32 × String)) (x : XW) (R : RS3) : Out → Hp → Prop := fun o h2 => ∃ y, h2 = hp y ∧ y.2 = x.2 ∧ RC R.2.2 y.1 ∧ ((R.1 = 0 ∧ o = .inl (some (.int R.2.1))) ∨ ∃ k E, (k, E) ∈ exs ∧ R.1 = k ∧ o = .inr E)
theorem CQ.thr {exs : List (Int32 × String)} {x y : XW} {R : RS3} {k : Int32} {E : String} {a : AM} (hc : RC a y.1) (hx : y.2 = x.2) (hm : (k, E) ∈ exs) (e : R = (k, 0, a)) : CQ exs x R (.inr E) (hp y) := by
  subst e; exact ⟨y, rfl, hx, hc, .inr ⟨k, E, hm, rfl, rfl⟩⟩
theorem CQ.ret {exs : List (Int32 × String)} {x y : XW} {R : RS3} {v : Int32} {a : AM} (hc : RC a y.1) (hx : y.2 = x.2) (e : R = (0, v, a)) : CQ exs x R (.inl (some (.int v))) (hp y) := by
  subst e; exact ⟨y, rfl, hx, hc, .inl ⟨rfl, rfl⟩⟩
def CKQ (x : XW) (c : Bool) (E : String) : Out → Hp → Prop := fun o h2 => h2 = hp x ∧ o = if c = true then .inl none else .inr E
theorem ck_l {x : XW} {c : Bool} {E : String} {r : Option Value} {h2 : Hp} (q : CKQ x c E (.inl r) h2) : c = true ∧ r = none ∧ h2 = hp x := by
  obtain ⟨q1, q2⟩ := q
  cases c with
  | true => rw [if_pos rfl] at q2; cases q2; exact ⟨rfl, rfl, q1⟩
  | false => rw [if_neg (by decide)] at q2; cases q2
theorem ck_r {x : XW} {c : Bool} {E F : String} {h2 : Hp} (q : CKQ x c E (.inr F) h2) : c = false ∧ F = E ∧ h2 = hp x := by
  obtain ⟨q1, q2⟩ := q
  cases c with
  | true => rw [if_pos rfl] at q2; cases q2
  | false => rw [if_neg (by decide)] at q2; cases q2; exact ⟨rfl, rfl, q1⟩
theorem pred_lt {u : Nat} (hu : u < 2 ^ 30) (v : Int32) : nI u - 1 < v ↔ nI u ≤ v := by
  have e : (nI u - 1).toInt = (u : Int) - 1 := pk_sub_toInt (b := 1) hu (by decide)
  rw [Int32.lt_iff_toInt_lt, Int32.le_iff_toInt_le, e, nI_toInt (by omega)]; omega
theorem i32_21 (v : Int32) : (2 : Int32) ≤ v ↔ 1 < v := by
  rw [Int32.le_iff_toInt_le, Int32.lt_iff_toInt_lt, show (2 : Int32).toInt = 2 from by decide, show (1 : Int32).toInt = 1 from by decide]; omega
theorem ne_t {b : Bool} (h : b = false) : ¬ b = true := fun e => Bool.noConfusion (h.symm.trans e)
set_option maxRecDepth 100000 in
set_option maxHeartbeats 4000000 in
theorem ct_X7_checkRow (x : XW) (v : Int32) : CT MX7_checkRow 6 1 [.int v] (hp x) (CKQ x (inR v 0 5) "java/lang/IndexOutOfBoundsException") := by
  refine ct_of (by decide +kernel) (by decide) rfl (k := 0) (ls := [some (.int v)]) rfl (Nat.le_of_ble_eq_true rfl) ?_
  refine pw_iload_n (tk tkX7_checkRow 0 rfl) rfl ?_
  refine pw_cS (ct_X7_isRow _ _) okX7_isRow (tk tkX7_checkRow 1 rfl) mkX7_93 stX7_isRow rfl rfl (by decide) (by decide) (Nat.le_of_ble_eq_true rfl) ?_
  refine pw_ifnb (tgt := 18) (tk tkX7_checkRow 2 rfl) (by decide) (fun c4 => ?_) (fun c4 => ?_)
  · exact pw_return (tk tkX7_checkRow 8 rfl) rfl (by decide) ⟨rfl, (if_pos c4).symm⟩
  · exact pw_throwW twIOE rfl rfl rfl ckX7_280 (tx := "there is no such row") (List.mem_of_getElem? (i := 5) rfl) (tk tkX7_checkRow 3 rfl) (tk tkX7_checkRow 4 rfl) (tk tkX7_checkRow 5 rfl) (tk tkX7_checkRow 6 rfl) (tk tkX7_checkRow 7 rfl) (by decide) (by decide) ⟨rfl, (if_neg (ne_t c4)).symm⟩
set_option maxRecDepth 100000 in
set_option maxHeartbeats 4000000 in
theorem ct0_X7_checkRow (x : XW) (v : Int32) (h9 : (inR v 0 5) = true) : CT MX7_checkRow 6 0 [.int v] (hp x) (CKQ x (inR v 0 5) "java/lang/IndexOutOfBoundsException") := by
  refine ct_of (by decide +kernel) (by decide) rfl (k := 0) (ls := [some (.int v)]) rfl (Nat.le_of_ble_eq_true rfl) ?_
  refine pw_iload_n (tk tkX7_checkRow 0 rfl) rfl ?_
  refine pw_cS (ct_X7_isRow _ _) okX7_isRow (tk tkX7_checkRow 1 rfl) mkX7_93 stX7_isRow rfl rfl (by decide) (by decide) (Nat.le_of_ble_eq_true rfl) ?_
  refine pw_ifnb (tgt := 18) (tk tkX7_checkRow 2 rfl) (by decide) (fun c4 => ?_) (fun c4 => ?_)
  · exact pw_return (tk tkX7_checkRow 8 rfl) rfl (by decide) ⟨rfl, (if_pos c4).symm⟩
  · exact absurd h9 (by rw [c4]; decide)
set_option maxRecDepth 100000 in
set_option maxHeartbeats 4000000 in
theorem ct_X7_checkColumn (x : XW) (v : Int32) : CT MX7_checkColumn 6 1 [.int v] (hp x) (CKQ x (inR v 0 2) "java/lang/IndexOutOfBoundsException") := by
  refine ct_of (by decide +kernel) (by decide) rfl (k := 0) (ls := [some (.int v)]) rfl (Nat.le_of_ble_eq_true rfl) ?_
  refine pw_iload_n (tk tkX7_checkColumn 0 rfl) rfl ?_
  refine pw_cS (ct_X7_isColumn _ _) okX7_isColumn (tk tkX7_checkColumn 1 rfl) mkX7_52 stX7_isColumn rfl rfl (by decide) (by decide) (Nat.le_of_ble_eq_true rfl) ?_
  refine pw_ifnb (tgt := 18) (tk tkX7_checkColumn 2 rfl) (by decide) (fun c4 => ?_) (fun c4 => ?_)
  · exact pw_return (tk tkX7_checkColumn 8 rfl) rfl (by decide) ⟨rfl, (if_pos c4).symm⟩
  · exact pw_throwW twIOE rfl rfl rfl ckX7_280 (tx := "there is no such column") (List.mem_of_getElem? (i := 8) rfl) (tk tkX7_checkColumn 3 rfl) (tk tkX7_checkColumn 4 rfl) (tk tkX7_checkColumn 5 rfl) (tk tkX7_checkColumn 6 rfl) (tk tkX7_checkColumn 7 rfl) (by decide) (by decide) ⟨rfl, (if_neg (ne_t c4)).symm⟩
set_option maxRecDepth 100000 in
set_option maxHeartbeats 4000000 in
theorem ct0_X7_checkColumn (x : XW) (v : Int32) (h9 : (inR v 0 2) = true) : CT MX7_checkColumn 6 0 [.int v] (hp x) (CKQ x (inR v 0 2) "java/lang/IndexOutOfBoundsException") := by
  refine ct_of (by decide +kernel) (by decide) rfl (k := 0) (ls := [some (.int v)]) rfl (Nat.le_of_ble_eq_true rfl) ?_
  refine pw_iload_n (tk tkX7_checkColumn 0 rfl) rfl ?_
  refine pw_cS (ct_X7_isColumn _ _) okX7_isColumn (tk tkX7_checkColumn 1 rfl) mkX7_52 stX7_isColumn rfl rfl (by decide) (by decide) (Nat.le_of_ble_eq_true rfl) ?_
  refine pw_ifnb (tgt := 18) (tk tkX7_checkColumn 2 rfl) (by decide) (fun c4 => ?_) (fun c4 => ?_)
  · exact pw_return (tk tkX7_checkColumn 8 rfl) rfl (by decide) ⟨rfl, (if_pos c4).symm⟩
  · exact absurd h9 (by rw [c4]; decide)
set_option maxRecDepth 100000 in
set_option maxHeartbeats 4000000 in
theorem ct_X7_checkValue (x : XW) (v : Int32) : CT MX7_checkValue 6 1 [.int v] (hp x) (CKQ x (inR v 0 999) "java/lang/IllegalArgumentException") := by
  refine ct_of (by decide +kernel) (by decide) rfl (k := 0) (ls := [some (.int v)]) rfl (Nat.le_of_ble_eq_true rfl) ?_
  refine pw_iload_n (tk tkX7_checkValue 0 rfl) rfl ?_
  refine pw_cS (ct_X7_isValue _ _) okX7_isValue (tk tkX7_checkValue 1 rfl) mkX7_56 stX7_isValue rfl rfl (by decide) (by decide) (Nat.le_of_ble_eq_true rfl) ?_
  refine pw_ifnb (tgt := 18) (tk tkX7_checkValue 2 rfl) (by decide) (fun c4 => ?_) (fun c4 => ?_)
  · exact pw_return (tk tkX7_checkValue 8 rfl) rfl (by decide) ⟨rfl, (if_pos c4).symm⟩
  · exact pw_throwW twIAE rfl rfl rfl ckX7_59 (tx := "a value is out of range") (List.mem_of_getElem? (i := 6) rfl) (tk tkX7_checkValue 3 rfl) (tk tkX7_checkValue 4 rfl) (tk tkX7_checkValue 5 rfl) (tk tkX7_checkValue 6 rfl) (tk tkX7_checkValue 7 rfl) (by decide) (by decide) ⟨rfl, (if_neg (ne_t c4)).symm⟩
set_option maxRecDepth 100000 in
set_option maxHeartbeats 4000000 in
theorem ct_X7_checkRule (x : XW) (u : Nat) (hu : sSc (cSt x.1 0) 0 = nI u) (h8 : u ≤ 8) (v : Int32) : CT MX7_checkRule 6 1 [.ref 160, .int v] (hp x) (CKQ x (inR v 0 (nI u - 1)) "java/lang/IndexOutOfBoundsException") := by
  refine ct_of (by decide +kernel) (by decide) rfl (k := 0) (ls := [some (.ref 160), some (.int v)]) rfl (Nat.le_of_ble_eq_true rfl) ?_
  refine pw_iload_n (tk tkX7_checkRule 0 rfl) rfl ?_
  refine pw_if_lt (tgt := 15) (tk tkX7_checkRule 1 rfl) (by decide) (fun c1 => ?_) (fun c1 => ?_)
  · exact pw_throwW twIOE rfl rfl rfl ckX7_280 (tx := "there is no such rule") (List.mem_of_getElem? (i := 2) rfl) (tk tkX7_checkRule 7 rfl) (tk tkX7_checkRule 8 rfl) (tk tkX7_checkRule 9 rfl) (tk tkX7_checkRule 10 rfl) (tk tkX7_checkRule 11 rfl) (by decide) (by decide) ⟨rfl, by rw [show inR v 0 (nI u - 1) = false from by unfold inR; simp [c1]]; rfl⟩
  · refine pw_iload_n (tk tkX7_checkRule 2 rfl) rfl ?_
    refine pw_aload_n (tk tkX7_checkRule 3 rfl) rfl ?_
    refine g7_now (tk tkX7_checkRule 4 rfl) fkX7_10 ?_
    refine g4_rulesUsed (by first | assumption | decide | omega) (tk tkX7_checkRule 5 rfl) fkX7_66 ?_
    rw [hu]
    refine pw_icmp_lt (tgt := 26) (tk tkX7_checkRule 6 rfl) (by decide) (fun c12 => ?_) (fun c12 => ?_)
    · exact pw_return (tk tkX7_checkRule 12 rfl) rfl (by decide) ⟨rfl, by rw [show inR v 0 (nI u - 1) = true from by unfold inR; rw [decide_eq_true c1, decide_eq_true (show ¬ nI u - 1 < v from fun q => Int32.not_le.mpr c12 ((pred_lt (u := u) (by omega) v).mp q))]; rfl]; rfl⟩
    · exact pw_throwW twIOE rfl rfl rfl ckX7_280 (tx := "there is no such rule") (List.mem_of_getElem? (i := 2) rfl) (tk tkX7_checkRule 7 rfl) (tk tkX7_checkRule 8 rfl) (tk tkX7_checkRule 9 rfl) (tk tkX7_checkRule 10 rfl) (tk tkX7_checkRule 11 rfl) (by decide) (by decide) ⟨rfl, by rw [show inR v 0 (nI u - 1) = false from by unfold inR; simp [c1, (pred_lt (u := u) (by omega) v).mpr (Int32.not_lt.mp c12)]]; rfl⟩
set_option maxRecDepth 100000 in
set_option maxHeartbeats 4000000 in
theorem ct0_X7_checkRule (x : XW) (u : Nat) (hu : sSc (cSt x.1 0) 0 = nI u) (h8 : u ≤ 8) (v : Int32) (h9 : (inR v 0 (nI u - 1)) = true) : CT MX7_checkRule 6 0 [.ref 160, .int v] (hp x) (CKQ x (inR v 0 (nI u - 1)) "java/lang/IndexOutOfBoundsException") := by
  refine ct_of (by decide +kernel) (by decide) rfl (k := 0) (ls := [some (.ref 160), some (.int v)]) rfl (Nat.le_of_ble_eq_true rfl) ?_
  refine pw_iload_n (tk tkX7_checkRule 0 rfl) rfl ?_
  refine pw_if_lt (tgt := 15) (tk tkX7_checkRule 1 rfl) (by decide) (fun c1 => ?_) (fun c1 => ?_)
  · exact absurd h9 (by rw [show inR v 0 (nI u - 1) = false from by unfold inR; simp [c1]]; decide)
  · refine pw_iload_n (tk tkX7_checkRule 2 rfl) rfl ?_
    refine pw_aload_n (tk tkX7_checkRule 3 rfl) rfl ?_
    refine g7_now (tk tkX7_checkRule 4 rfl) fkX7_10 ?_
    refine g4_rulesUsed (by first | assumption | decide | omega) (tk tkX7_checkRule 5 rfl) fkX7_66 ?_
    rw [hu]
    refine pw_icmp_lt (tgt := 26) (tk tkX7_checkRule 6 rfl) (by decide) (fun c12 => ?_) (fun c12 => ?_)
    · exact pw_return (tk tkX7_checkRule 12 rfl) rfl (by decide) ⟨rfl, by rw [show inR v 0 (nI u - 1) = true from by unfold inR; rw [decide_eq_true c1, decide_eq_true (show ¬ nI u - 1 < v from fun q => Int32.not_le.mpr c12 ((pred_lt (u := u) (by omega) v).mp q))]; rfl]; rfl⟩
    · exact absurd h9 (by rw [show inR v 0 (nI u - 1) = false from by unfold inR; simp [c1, (pred_lt (u := u) (by omega) v).mpr (Int32.not_lt.mp c12)]]; decide)
set_option maxRecDepth 100000 in
set_option maxHeartbeats 4000000 in
theorem ct_X7_checkAgo (x : XW) (u : Nat) (hu : sLs (cSt x.1 0) 0 = nI u) (h8 : u ≤ 16) (v : Int32) : CT MX7_checkAgo 6 1 [.ref 160, .int v] (hp x) (CKQ x (inR v 0 (nI u - 1)) "java/lang/IndexOutOfBoundsException") := by
  refine ct_of (by decide +kernel) (by decide) rfl (k := 0) (ls := [some (.ref 160), some (.int v)]) rfl (Nat.le_of_ble_eq_true rfl) ?_
  refine pw_iload_n (tk tkX7_checkAgo 0 rfl) rfl ?_
  refine pw_if_lt (tgt := 18) (tk tkX7_checkAgo 1 rfl) (by decide) (fun c1 => ?_) (fun c1 => ?_)
  · exact pw_throwW twIOE rfl rfl rfl ckX7_280 (tx := "the log has not so many acts") (List.mem_of_getElem? (i := 10) rfl) (tk tkX7_checkAgo 8 rfl) (tk tkX7_checkAgo 9 rfl) (tk tkX7_checkAgo 10 rfl) (tk tkX7_checkAgo 11 rfl) (tk tkX7_checkAgo 12 rfl) (by decide) (by decide) ⟨rfl, by rw [show inR v 0 (nI u - 1) = false from by unfold inR; simp [c1]]; rfl⟩
  · refine pw_iload_n (tk tkX7_checkAgo 2 rfl) rfl ?_
    refine pw_aload_n (tk tkX7_checkAgo 3 rfl) rfl ?_
    refine g7_now (tk tkX7_checkAgo 4 rfl) fkX7_10 ?_
    refine g4_log (by first | assumption | decide | omega) (tk tkX7_checkAgo 5 rfl) fkX7_187 ?_
    refine g2_size (by first | assumption | decide | omega) (tk tkX7_checkAgo 6 rfl) fkX7_191 ?_
    rw [hu]
    refine pw_icmp_lt (tgt := 29) (tk tkX7_checkAgo 7 rfl) (by decide) (fun c15 => ?_) (fun c15 => ?_)
    · exact pw_return (tk tkX7_checkAgo 13 rfl) rfl (by decide) ⟨rfl, by rw [show inR v 0 (nI u - 1) = true from by unfold inR; rw [decide_eq_true c1, decide_eq_true (show ¬ nI u - 1 < v from fun q => Int32.not_le.mpr c15 ((pred_lt (u := u) (by omega) v).mp q))]; rfl]; rfl⟩
    · exact pw_throwW twIOE rfl rfl rfl ckX7_280 (tx := "the log has not so many acts") (List.mem_of_getElem? (i := 10) rfl) (tk tkX7_checkAgo 8 rfl) (tk tkX7_checkAgo 9 rfl) (tk tkX7_checkAgo 10 rfl) (tk tkX7_checkAgo 11 rfl) (tk tkX7_checkAgo 12 rfl) (by decide) (by decide) ⟨rfl, by rw [show inR v 0 (nI u - 1) = false from by unfold inR; simp [c1, (pred_lt (u := u) (by omega) v).mpr (Int32.not_lt.mp c15)]]; rfl⟩
set_option maxRecDepth 100000 in
set_option maxHeartbeats 4000000 in
theorem ct0_X7_checkAgo (x : XW) (u : Nat) (hu : sLs (cSt x.1 0) 0 = nI u) (h8 : u ≤ 16) (v : Int32) (h9 : (inR v 0 (nI u - 1)) = true) : CT MX7_checkAgo 6 0 [.ref 160, .int v] (hp x) (CKQ x (inR v 0 (nI u - 1)) "java/lang/IndexOutOfBoundsException") := by
  refine ct_of (by decide +kernel) (by decide) rfl (k := 0) (ls := [some (.ref 160), some (.int v)]) rfl (Nat.le_of_ble_eq_true rfl) ?_
  refine pw_iload_n (tk tkX7_checkAgo 0 rfl) rfl ?_
  refine pw_if_lt (tgt := 18) (tk tkX7_checkAgo 1 rfl) (by decide) (fun c1 => ?_) (fun c1 => ?_)
  · exact absurd h9 (by rw [show inR v 0 (nI u - 1) = false from by unfold inR; simp [c1]]; decide)
  · refine pw_iload_n (tk tkX7_checkAgo 2 rfl) rfl ?_
    refine pw_aload_n (tk tkX7_checkAgo 3 rfl) rfl ?_
    refine g7_now (tk tkX7_checkAgo 4 rfl) fkX7_10 ?_
    refine g4_log (by first | assumption | decide | omega) (tk tkX7_checkAgo 5 rfl) fkX7_187 ?_
    refine g2_size (by first | assumption | decide | omega) (tk tkX7_checkAgo 6 rfl) fkX7_191 ?_
    rw [hu]
    refine pw_icmp_lt (tgt := 29) (tk tkX7_checkAgo 7 rfl) (by decide) (fun c15 => ?_) (fun c15 => ?_)
    · exact pw_return (tk tkX7_checkAgo 13 rfl) rfl (by decide) ⟨rfl, by rw [show inR v 0 (nI u - 1) = true from by unfold inR; rw [decide_eq_true c1, decide_eq_true (show ¬ nI u - 1 < v from fun q => Int32.not_le.mpr c15 ((pred_lt (u := u) (by omega) v).mp q))]; rfl]; rfl⟩
    · exact absurd h9 (by rw [show inR v 0 (nI u - 1) = false from by unfold inR; simp [c1, (pred_lt (u := u) (by omega) v).mpr (Int32.not_lt.mp c15)]]; decide)
set_option maxRecDepth 100000 in
set_option maxHeartbeats 4000000 in
theorem ct_X7_hasRow (x : XW) (a : AM) (hc : RC a x.1) (hv : VS (uN (aS a)) (aS a)) (r : Int32) (h1 : inR r 0 5 = true) : CT MX7_hasRow 30 0 [.ref 160, .int r] (hp x) (CQ [(1, "java/lang/IndexOutOfBoundsException")] x (shasRow a r)) := by
  refine ct_of (by decide +kernel) (by decide) rfl (k := 0) (ls := [some (.ref 160), some (.int r)]) rfl (Nat.le_of_ble_eq_true rfl) ?_
  obtain ⟨u, eu⟩ : ∃ u, u = uN (aS a) := ⟨_, rfl⟩
  have hvu := hv
  rw [← eu] at hvu
  have hu8 := hvu.1
  have hu : sSc (cSt x.1 0) 0 = nI u := hc.1.2.2.1.trans hvu.2.1
  have e25 : aS a 25 = nI u := hvu.2.1
  refine pw_iload_n (tk tkX7_hasRow 0 rfl) rfl ?_
  refine pw_callS (ct0_X7_checkRow x _ h1) okX7_checkRow (tk tkX7_hasRow 1 rfl) mkX7_125 stX7_checkRow rfl rfl (by decide) (by decide) (Nat.le_of_ble_eq_true rfl) (fun r h2 q => ?_) (fun E h2 q => by obtain ⟨k1, rfl, rfl⟩ := ck_r q; exact pt_out rfl rfl (CQ.thr hc rfl List.mem_cons_self (if_pos k1)))
  obtain ⟨k1, rfl, rfl⟩ := ck_l q
  refine pw_aload_n (tk tkX7_hasRow 2 rfl) rfl ?_
  refine g7_now (tk tkX7_hasRow 3 rfl) fkX7_10 ?_
  refine pw_iload_n (tk tkX7_hasRow 4 rfl) rfl ?_
  refine pw_cV (ct_X4_isThere x 0 (by decide) _) okX4_isThere (tk tkX7_hasRow 5 rfl) mkX7_170 imX4_isThere seX4_isThere (hp_st _ (by first | assumption | decide | omega) (by decide : 0 < 16)) rfl rfl rfl (by decide) (by decide) (Nat.le_of_ble_eq_true rfl) ?_
  rw [th_eq hc.1.1, k1, Bool.true_and]
  obtain ⟨r1, hr, er, er2⟩ := inR_row k1
  rw [er2]
  rcases hvu.2.2.2.2.1 r1 hr with h1 | h1
  · rw [show decide (¬ aS a r1 = 0) = false from by rw [h1]; rfl]
    exact pw_ireturn (tk tkX7_hasRow 6 rfl) rfl (by decide) rfl (CQ.ret hc rfl ((if_neg (ne_f k1)).trans (if_neg (by rw [er2, h1]; decide))))
  rw [show decide (¬ aS a r1 = 0) = true from by rw [h1]; rfl]
  exact pw_ireturn (tk tkX7_hasRow 6 rfl) rfl (by decide) (by first | rfl | exact nar_bI _) (CQ.ret hc rfl ((if_neg (ne_f k1)).trans (if_pos (by rw [er2, h1]))))
theorem smN_cg {f g : Nat → Int32} : ∀ k, (∀ j, j < k → f j = g j) → smN f k = smN g k
  | 0, _ => rfl
  | k + 1, h => by show smN f k + f k = smN g k + g k; rw [smN_cg k (fun j hj => h j (by omega)), h k (by omega)]
theorem RS1.th {σ : SS} {s : Nat → Int32} {e : Int32} {u : Nat} (h : RS1 σ s e) (hv : VS u s) : ∀ j, j < 6 → sTh σ j = 0 ∨ sTh σ j = 1 := fun j hj => by rw [h.1 j hj]; exact hv.2.2.2.2.1 j hj
set_option maxRecDepth 100000 in
set_option maxHeartbeats 4000000 in
theorem ct_X7_rowCount (x : XW) (a : AM) (hc : RC a x.1) (hv : VS (uN (aS a)) (aS a))  : CT MX7_rowCount 30 0 [.ref 160] (hp x) (CQ [] x (srowCount a )) := by
  refine ct_of (by decide +kernel) (by decide) rfl (k := 0) (ls := [some (.ref 160)]) rfl (Nat.le_of_ble_eq_true rfl) ?_
  obtain ⟨u, eu⟩ : ∃ u, u = uN (aS a) := ⟨_, rfl⟩
  have hvu := hv
  rw [← eu] at hvu
  have hu8 := hvu.1
  have hu : sSc (cSt x.1 0) 0 = nI u := hc.1.2.2.1.trans hvu.2.1
  have e25 : aS a 25 = nI u := hvu.2.1
  refine pw_aload_n (tk tkX7_rowCount 0 rfl) rfl ?_
  refine g7_now (tk tkX7_rowCount 1 rfl) fkX7_10 ?_
  refine pw_cV (ct_X4_rowsThere x 0 (by decide) (hc.1.th hvu)) okX4_rowsThere (tk tkX7_rowCount 2 rfl) mkX7_173 imX4_rowsThere seX4_rowsThere (hp_st _ (by first | assumption | decide | omega) (by decide : 0 < 16)) rfl rfl rfl (by decide) (by decide) (Nat.le_of_ble_eq_true rfl) ?_
  exact pw_ireturn (tk tkX7_rowCount 3 rfl) rfl (by decide) rfl (CQ.ret hc rfl (by rw [smN_cg 6 hc.1.1]; rfl))
set_option maxRecDepth 100000 in
set_option maxHeartbeats 4000000 in
theorem ct_X7_valueAt (x : XW) (a : AM) (hc : RC a x.1) (hv : VS (uN (aS a)) (aS a)) (r c : Int32) (h1 : inR r 0 5 = true) (h2 : inR c 0 2 = true) (h3 : ¬ aS a r.toNatClampNeg = 0) : CT MX7_valueAt 30 0 [.ref 160, .int r, .int c] (hp x) (CQ [(1, "java/lang/IndexOutOfBoundsException"), (2, "java/lang/IllegalStateException")] x (svalueAt a r c)) := by
  refine ct_of (by decide +kernel) (by decide) rfl (k := 0) (ls := [some (.ref 160), some (.int r), some (.int c)]) rfl (Nat.le_of_ble_eq_true rfl) ?_
  obtain ⟨u, eu⟩ : ∃ u, u = uN (aS a) := ⟨_, rfl⟩
  have hvu := hv
  rw [← eu] at hvu
  have hu8 := hvu.1
  have hu : sSc (cSt x.1 0) 0 = nI u := hc.1.2.2.1.trans hvu.2.1
  have e25 : aS a 25 = nI u := hvu.2.1
  refine pw_iload_n (tk tkX7_valueAt 0 rfl) rfl ?_
  refine pw_callS (ct0_X7_checkRow x _ h1) okX7_checkRow (tk tkX7_valueAt 1 rfl) mkX7_125 stX7_checkRow rfl rfl (by decide) (by decide) (Nat.le_of_ble_eq_true rfl) (fun r h2 q => ?_) (fun E h2 q => by obtain ⟨k1, rfl, rfl⟩ := ck_r q; exact pt_out rfl rfl (CQ.thr hc rfl List.mem_cons_self (if_pos k1)))
  obtain ⟨k1, rfl, rfl⟩ := ck_l q
  refine pw_iload_n (tk tkX7_valueAt 2 rfl) rfl ?_
  refine pw_callS (ct0_X7_checkColumn x _ h2) okX7_checkColumn (tk tkX7_valueAt 3 rfl) mkX7_155 stX7_checkColumn rfl rfl (by decide) (by decide) (Nat.le_of_ble_eq_true rfl) (fun r h2 q => ?_) (fun E h2 q => by obtain ⟨k2, rfl, rfl⟩ := ck_r q; exact pt_out rfl rfl (CQ.thr hc rfl List.mem_cons_self ((if_neg (ne_f k1)).trans (if_pos k2))))
  obtain ⟨k2, rfl, rfl⟩ := ck_l q
  refine pw_aload_n (tk tkX7_valueAt 4 rfl) rfl ?_
  refine g7_now (tk tkX7_valueAt 5 rfl) fkX7_10 ?_
  refine pw_iload_n (tk tkX7_valueAt 6 rfl) rfl ?_
  refine pw_cV (ct_X4_isThere x 0 (by decide) _) okX4_isThere (tk tkX7_valueAt 7 rfl) mkX7_170 imX4_isThere seX4_isThere (hp_st _ (by first | assumption | decide | omega) (by decide : 0 < 16)) rfl rfl rfl (by decide) (by decide) (Nat.le_of_ble_eq_true rfl) ?_
  rw [th_eq hc.1.1, k1, Bool.true_and]
  obtain ⟨r1, hr, er, er2⟩ := inR_row k1
  obtain ⟨c1, hc3, ec, ec2⟩ := inR_col k2
  rw [er2]
  refine pw_ifnb (tgt := 29) (tk tkX7_valueAt 8 rfl) (by decide) (fun c16 => ?_) (fun c16 => ?_)
  · refine pw_aload_n (tk tkX7_valueAt 14 rfl) rfl ?_
    refine g7_now (tk tkX7_valueAt 15 rfl) fkX7_10 ?_
    refine g4_values (by first | assumption | decide | omega) (tk tkX7_valueAt 16 rfl) fkX7_178 ?_
    refine pw_iload_n (tk tkX7_valueAt 17 rfl) rfl ?_
    refine pw_iload_n (tk tkX7_valueAt 18 rfl) rfl ?_
    refine pw_cS (ct_X7_cell _ _ _) okX7_cell (tk tkX7_valueAt 19 rfl) mkX7_182 stX7_cell rfl rfl (by decide) (by decide) (Nat.le_of_ble_eq_true rfl) ?_
    refine al_values_e (e := 3 * r1 + c1) (by first | assumption | decide | omega) (tk tkX7_valueAt 20 rfl) (cl_ix er ec) (by first | decide | omega) ?_
    refine pw_ireturn (tk tkX7_valueAt 21 rfl) rfl (by decide) rfl ?_
    have e : svalueAt a r c = (0, aS a (6 + 3 * r1 + c1), a) := ((if_neg (ne_f k1)).trans ((if_neg (ne_f k2)).trans ((if_neg (show ¬ aS a r.toNatClampNeg = 0 from by rw [er2]; exact of_decide_eq_true c16)).trans (by rw [er2, ec2]))))
    rw [hc.1.2.1 _ (by omega), ← Nat.add_assoc]
    exact CQ.ret hc rfl e
  · exact absurd (show ¬ aS a r1 = 0 from by rw [← er2]; exact h3) (of_decide_eq_false c16)
set_option maxRecDepth 100000 in
set_option maxHeartbeats 4000000 in
theorem ct_X7_sumOf (x : XW) (a : AM) (hc : RC a x.1) (hv : VS (uN (aS a)) (aS a)) (c : Int32) (h1 : inR c 0 2 = true) : CT MX7_sumOf 30 0 [.ref 160, .int c] (hp x) (CQ [(1, "java/lang/IndexOutOfBoundsException")] x (ssumOf a c)) := by
  refine ct_of (by decide +kernel) (by decide) rfl (k := 2) (ls := [some (.ref 160), some (.int c), none, none]) rfl (Nat.le_of_ble_eq_true rfl) ?_
  obtain ⟨u, eu⟩ : ∃ u, u = uN (aS a) := ⟨_, rfl⟩
  have hvu := hv
  rw [← eu] at hvu
  have hu8 := hvu.1
  have hu : sSc (cSt x.1 0) 0 = nI u := hc.1.2.2.1.trans hvu.2.1
  have e25 : aS a 25 = nI u := hvu.2.1
  have L : ∀ (c1 : Nat), c1 < 3 → c = nI c1 → ssumOf a c = (0, sumF (aS a) c1 6, a) → ∀ k i, i + k = 6 → PW MX7_sumOf 30 0 8 [some (.ref 160), some (.int c), some (.int (sumF (aS a) c1 i)), some (.int (nI i))] [] (hp x) (CQ [(1, "java/lang/IndexOutOfBoundsException")] x (ssumOf a c)) := by
    intro c1 hc3 ec he k
    induction k with
    | zero =>
      intro i hi
      obtain rfl : i = 6 := by omega
      refine pw_iload_n (tk tkX7_sumOf 6 rfl) rfl ?_
      refine pw_bipush (v := 6) (tk tkX7_sumOf 7 rfl) (by decide) ?_
      refine pw_icmp_ge (tgt := 47) (tk tkX7_sumOf 8 rfl) (by decide) (fun c11 => ?_) (fun c11 => absurd (Int32.le_refl _) c11)
      refine pw_iload_n (tk tkX7_sumOf 26 rfl) rfl ?_
      exact pw_ireturn (tk tkX7_sumOf 27 rfl) rfl (by decide) rfl (CQ.ret hc rfl he)
    | succ k ih =>
      intro i hi
      have hi6 : i < 6 := by omega
      refine pw_iload_n (tk tkX7_sumOf 6 rfl) rfl ?_
      refine pw_bipush (v := 6) (tk tkX7_sumOf 7 rfl) (by decide) ?_
      refine pw_icmp_ge (tgt := 47) (tk tkX7_sumOf 8 rfl) (by decide) (fun c11 => absurd c11 (nI_ge (b := 6) (by omega) (by decide))) (fun c11 => ?_)
      refine pw_aload_n (tk tkX7_sumOf 9 rfl) rfl ?_
      refine g7_now (tk tkX7_sumOf 10 rfl) fkX7_10 ?_
      refine pw_iload_n (tk tkX7_sumOf 11 rfl) rfl ?_
      refine pw_cV (ct_X4_isThere x 0 (by decide) _) okX4_isThere (tk tkX7_sumOf 12 rfl) mkX7_170 imX4_isThere seX4_isThere (hp_st _ (by first | assumption | decide | omega) (by decide : 0 < 16)) rfl rfl rfl (by decide) (by decide) (Nat.le_of_ble_eq_true rfl) ?_
      rw [th_eq hc.1.1, show inR (nI i) 0 5 = true from inR_t (n := 5) (by omega) (by decide), Bool.true_and, nI_clamp (show i < 2 ^ 31 by omega)]
      refine pw_ifb (tgt := 41) (tk tkX7_sumOf 13 rfl) (by decide) (fun c22 => ?_) (fun c22 => ?_)
      · refine pw_inc3 (tk tkX7_sumOf 24 rfl) rfl (by decide) (nI_1 i) ?_
        refine pw_goto (tgt := 8) (tk tkX7_sumOf 25 rfl) (by decide) ?_
        have e9 : sumF (aS a) c1 (i + 1) = sumF (aS a) c1 i + 0 := by
          show _ + (if _ then _ else _) = _
          rw [if_neg (by rw [show aS a i = 0 from by by_cases z : aS a i = 0; exact z; rw [decide_eq_true z] at c22; cases c22]; decide)]
        rw [Int32.add_zero] at e9
        rw [← e9]
        exact ih (i + 1) (by omega)
      · refine pw_iload_n (tk tkX7_sumOf 14 rfl) rfl ?_
        refine pw_aload_n (tk tkX7_sumOf 15 rfl) rfl ?_
        refine g7_now (tk tkX7_sumOf 16 rfl) fkX7_10 ?_
        refine g4_values (by first | assumption | decide | omega) (tk tkX7_sumOf 17 rfl) fkX7_178 ?_
        refine pw_iload_n (tk tkX7_sumOf 18 rfl) rfl ?_
        refine pw_iload_n (tk tkX7_sumOf 19 rfl) rfl ?_
        refine pw_cS (ct_X7_cell _ _ _) okX7_cell (tk tkX7_sumOf 20 rfl) mkX7_182 stX7_cell rfl rfl (by decide) (by decide) (Nat.le_of_ble_eq_true rfl) ?_
        refine al_values_e (e := 3 * i + c1) (by first | assumption | decide | omega) (tk tkX7_sumOf 21 rfl) (cl_ix rfl ec) (by first | decide | omega) ?_
        rw [hc.1.2.1 _ (by omega), ← Nat.add_assoc]
        refine pw_iadd (tk tkX7_sumOf 22 rfl) ?_
        refine pw_ist2 (tk tkX7_sumOf 23 rfl) rfl (by decide) ?_
        refine pw_inc3 (tk tkX7_sumOf 24 rfl) rfl (by decide) (nI_1 i) ?_
        refine pw_goto (tgt := 8) (tk tkX7_sumOf 25 rfl) (by decide) ?_
        have e9 : sumF (aS a) c1 (i + 1) = sumF (aS a) c1 i + aS a (6 + 3 * i + c1) := by
          show _ + (if _ then _ else _) = _
          rw [if_pos ((hvu.2.2.2.2.1 i hi6).resolve_left (of_decide_eq_true c22))]
        rw [← e9]
        exact ih (i + 1) (by omega)
  refine pw_iload_n (tk tkX7_sumOf 0 rfl) rfl ?_
  refine pw_callS (ct0_X7_checkColumn x _ h1) okX7_checkColumn (tk tkX7_sumOf 1 rfl) mkX7_155 stX7_checkColumn rfl rfl (by decide) (by decide) (Nat.le_of_ble_eq_true rfl) (fun r h2 q => ?_) (fun E h2 q => by obtain ⟨k1, rfl, rfl⟩ := ck_r q; exact pt_out rfl rfl (CQ.thr hc rfl List.mem_cons_self (if_pos k1)))
  obtain ⟨k1, rfl, rfl⟩ := ck_l q
  refine pw_iconst (v := 0) (tk tkX7_sumOf 2 rfl) (by decide) ?_
  refine pw_ist2 (tk tkX7_sumOf 3 rfl) rfl (by decide) ?_
  refine pw_iconst (v := 0) (tk tkX7_sumOf 4 rfl) (by decide) ?_
  refine pw_ist3 (tk tkX7_sumOf 5 rfl) rfl (by decide) ?_
  obtain ⟨c1, hc3, ec, ec2⟩ := inR_col k1
  exact L c1 hc3 ec ((if_neg (ne_f k1)).trans (by rw [ec2])) 6 0 (by omega)
set_option maxRecDepth 100000 in
set_option maxHeartbeats 4000000 in
theorem ct_X7_ruleCount (x : XW) (a : AM) (hc : RC a x.1) (hv : VS (uN (aS a)) (aS a))  : CT MX7_ruleCount 30 0 [.ref 160] (hp x) (CQ [] x (sruleCount a )) := by
  refine ct_of (by decide +kernel) (by decide) rfl (k := 0) (ls := [some (.ref 160)]) rfl (Nat.le_of_ble_eq_true rfl) ?_
  obtain ⟨u, eu⟩ : ∃ u, u = uN (aS a) := ⟨_, rfl⟩
  have hvu := hv
  rw [← eu] at hvu
  have hu8 := hvu.1
  have hu : sSc (cSt x.1 0) 0 = nI u := hc.1.2.2.1.trans hvu.2.1
  have e25 : aS a 25 = nI u := hvu.2.1
  refine pw_aload_n (tk tkX7_ruleCount 0 rfl) rfl ?_
  refine g7_now (tk tkX7_ruleCount 1 rfl) fkX7_10 ?_
  refine g4_rulesUsed (by first | assumption | decide | omega) (tk tkX7_ruleCount 2 rfl) fkX7_66 ?_
  refine pw_ireturn (tk tkX7_ruleCount 3 rfl) rfl (by decide) rfl ?_
  rw [hu]
  exact CQ.ret hc rfl (by rw [← e25]; rfl)
set_option maxRecDepth 100000 in
set_option maxHeartbeats 4000000 in
theorem ct_X7_eventCount (x : XW) (a : AM) (hc : RC a x.1) (hv : VS (uN (aS a)) (aS a))  : CT MX7_eventCount 30 0 [.ref 160] (hp x) (CQ [] x (seventCount a )) := by
  refine ct_of (by decide +kernel) (by decide) rfl (k := 0) (ls := [some (.ref 160)]) rfl (Nat.le_of_ble_eq_true rfl) ?_
  obtain ⟨u, eu⟩ : ∃ u, u = uN (aS a) := ⟨_, rfl⟩
  have hvu := hv
  rw [← eu] at hvu
  have hu8 := hvu.1
  have hu : sSc (cSt x.1 0) 0 = nI u := hc.1.2.2.1.trans hvu.2.1
  have e25 : aS a 25 = nI u := hvu.2.1
  refine pw_aload_n (tk tkX7_eventCount 0 rfl) rfl ?_
  refine g7_now (tk tkX7_eventCount 1 rfl) fkX7_10 ?_
  refine g4_events (by first | assumption | decide | omega) (tk tkX7_eventCount 2 rfl) fkX7_186 ?_
  refine pw_ireturn (tk tkX7_eventCount 3 rfl) rfl (by decide) rfl ?_
  rw [hc.1.2.2.2.2.1]
  exact CQ.ret hc rfl rfl
set_option maxRecDepth 100000 in
set_option maxHeartbeats 4000000 in
theorem ct_X7_logSize (x : XW) (a : AM) (hc : RC a x.1) (hv : VS (uN (aS a)) (aS a))  : CT MX7_logSize 30 0 [.ref 160] (hp x) (CQ [] x (slogSize a )) := by
  refine ct_of (by decide +kernel) (by decide) rfl (k := 0) (ls := [some (.ref 160)]) rfl (Nat.le_of_ble_eq_true rfl) ?_
  obtain ⟨u, eu⟩ : ∃ u, u = uN (aS a) := ⟨_, rfl⟩
  have hvu := hv
  rw [← eu] at hvu
  have hu8 := hvu.1
  have hu : sSc (cSt x.1 0) 0 = nI u := hc.1.2.2.1.trans hvu.2.1
  have e25 : aS a 25 = nI u := hvu.2.1
  refine pw_aload_n (tk tkX7_logSize 0 rfl) rfl ?_
  refine g7_now (tk tkX7_logSize 1 rfl) fkX7_10 ?_
  refine g4_log (by first | assumption | decide | omega) (tk tkX7_logSize 2 rfl) fkX7_187 ?_
  refine g2_size (by first | assumption | decide | omega) (tk tkX7_logSize 3 rfl) fkX7_191 ?_
  refine pw_ireturn (tk tkX7_logSize 4 rfl) rfl (by decide) rfl ?_
  obtain ⟨l, l1, l2⟩ := hc.1.2.2.2.2.2.2
  rw [l1.2.1]
  exact CQ.ret hc rfl (by rw [← l2.2.1]; rfl)
set_option maxRecDepth 100000 in
set_option maxHeartbeats 4000000 in
theorem ct_X7_undoCount (x : XW) (a : AM) (hc : RC a x.1) (hv : VS (uN (aS a)) (aS a))  : CT MX7_undoCount 30 0 [.ref 160] (hp x) (CQ [] x (sundoCount a )) := by
  refine ct_of (by decide +kernel) (by decide) rfl (k := 0) (ls := [some (.ref 160)]) rfl (Nat.le_of_ble_eq_true rfl) ?_
  obtain ⟨u, eu⟩ : ∃ u, u = uN (aS a) := ⟨_, rfl⟩
  have hvu := hv
  rw [← eu] at hvu
  have hu8 := hvu.1
  have hu : sSc (cSt x.1 0) 0 = nI u := hc.1.2.2.1.trans hvu.2.1
  have e25 : aS a 25 = nI u := hvu.2.1
  refine pw_aload_n (tk tkX7_undoCount 0 rfl) rfl ?_
  refine g7_history (tk tkX7_undoCount 1 rfl) fkX7_40 ?_
  refine g1_size (tk tkX7_undoCount 2 rfl) fkX7_269 ?_
  refine pw_ireturn (tk tkX7_undoCount 3 rfl) rfl (by decide) rfl ?_
  obtain ⟨nx, _, h0, _⟩ := hc.2.1
  rw [h0]
  exact CQ.ret hc rfl rfl
set_option maxRecDepth 100000 in
set_option maxHeartbeats 4000000 in
theorem ct_X7_actionOf (x : XW) (a : AM) (hc : RC a x.1) (hv : VS (uN (aS a)) (aS a)) (r : Int32) (h1 : inR r 0 (aS a 25 - 1) = true) : CT MX7_actionOf 30 0 [.ref 160, .int r] (hp x) (CQ [(1, "java/lang/IndexOutOfBoundsException")] x (sactionOf a r)) := by
  refine ct_of (by decide +kernel) (by decide) rfl (k := 0) (ls := [some (.ref 160), some (.int r)]) rfl (Nat.le_of_ble_eq_true rfl) ?_
  obtain ⟨u, eu⟩ : ∃ u, u = uN (aS a) := ⟨_, rfl⟩
  have hvu := hv
  rw [← eu] at hvu
  have hu8 := hvu.1
  have hu : sSc (cSt x.1 0) 0 = nI u := hc.1.2.2.1.trans hvu.2.1
  have e25 : aS a 25 = nI u := hvu.2.1
  refine pw_aload_n (tk tkX7_actionOf 0 rfl) rfl ?_
  refine pw_iload_n (tk tkX7_actionOf 1 rfl) rfl ?_
  refine pw_callV (ct0_X7_checkRule x u hu hu8 _ (by rw [← e25]; exact h1)) okX7_checkRule (tk tkX7_actionOf 2 rfl) mkX7_89 imX7_checkRule seX7_checkRule (hp_ot _ 0) rfl rfl rfl (by decide) (by decide) (Nat.le_of_ble_eq_true rfl) (fun r h2 q => ?_) (fun E h2 q => by obtain ⟨k1, rfl, rfl⟩ := ck_r q; exact pt_out rfl rfl (CQ.thr hc rfl List.mem_cons_self (if_pos (show inR r 0 (aS a 25 - 1) = false from by rw [e25]; exact k1))))
  obtain ⟨k1, rfl, rfl⟩ := ck_l q
  have k2 : inR r 0 (aS a 25 - 1) = true := by rw [e25]; exact k1
  obtain ⟨r1, hr, er, er2⟩ := inR_lt rfl (by omega) k1
  refine pw_aload_n (tk tkX7_actionOf 3 rfl) rfl ?_
  refine g7_now (tk tkX7_actionOf 4 rfl) fkX7_10 ?_
  refine g4_rules (by first | assumption | decide | omega) (tk tkX7_actionOf 5 rfl) fkX7_79 ?_
  refine pw_iload_n (tk tkX7_actionOf 6 rfl) rfl ?_
  refine al_rules_e (e := r1) (by first | assumption | decide | omega) (tk tkX7_actionOf 7 rfl) er (by first | decide | omega) ?_
  refine g3_action (by first | assumption | decide | omega) (by first | assumption | decide | omega) (tk tkX7_actionOf 8 rfl) fkX7_98 ?_
  rw [hc.1.2.2.2.2.2.1 r1 3 (by omega) (by omega)]
  exact pw_ireturn (tk tkX7_actionOf 9 rfl) rfl (by decide) rfl (CQ.ret hc rfl ((if_neg (ne_f k2)).trans (by rw [er2])))
set_option maxRecDepth 100000 in
set_option maxHeartbeats 4000000 in
theorem ct_X7_isMuted (x : XW) (a : AM) (hc : RC a x.1) (hv : VS (uN (aS a)) (aS a)) (r : Int32) (h1 : inR r 0 (aS a 25 - 1) = true) : CT MX7_isMuted 30 0 [.ref 160, .int r] (hp x) (CQ [(1, "java/lang/IndexOutOfBoundsException")] x (sisMuted a r)) := by
  refine ct_of (by decide +kernel) (by decide) rfl (k := 0) (ls := [some (.ref 160), some (.int r)]) rfl (Nat.le_of_ble_eq_true rfl) ?_
  obtain ⟨u, eu⟩ : ∃ u, u = uN (aS a) := ⟨_, rfl⟩
  have hvu := hv
  rw [← eu] at hvu
  have hu8 := hvu.1
  have hu : sSc (cSt x.1 0) 0 = nI u := hc.1.2.2.1.trans hvu.2.1
  have e25 : aS a 25 = nI u := hvu.2.1
  refine pw_aload_n (tk tkX7_isMuted 0 rfl) rfl ?_
  refine pw_iload_n (tk tkX7_isMuted 1 rfl) rfl ?_
  refine pw_callV (ct0_X7_checkRule x u hu hu8 _ (by rw [← e25]; exact h1)) okX7_checkRule (tk tkX7_isMuted 2 rfl) mkX7_89 imX7_checkRule seX7_checkRule (hp_ot _ 0) rfl rfl rfl (by decide) (by decide) (Nat.le_of_ble_eq_true rfl) (fun r h2 q => ?_) (fun E h2 q => by obtain ⟨k1, rfl, rfl⟩ := ck_r q; exact pt_out rfl rfl (CQ.thr hc rfl List.mem_cons_self (if_pos (show inR r 0 (aS a 25 - 1) = false from by rw [e25]; exact k1))))
  obtain ⟨k1, rfl, rfl⟩ := ck_l q
  have k2 : inR r 0 (aS a 25 - 1) = true := by rw [e25]; exact k1
  obtain ⟨r1, hr, er, er2⟩ := inR_lt rfl (by omega) k1
  refine pw_aload_n (tk tkX7_isMuted 3 rfl) rfl ?_
  refine g7_now (tk tkX7_isMuted 4 rfl) fkX7_10 ?_
  refine g4_rules (by first | assumption | decide | omega) (tk tkX7_isMuted 5 rfl) fkX7_79 ?_
  refine pw_iload_n (tk tkX7_isMuted 6 rfl) rfl ?_
  refine al_rules_e (e := r1) (by first | assumption | decide | omega) (tk tkX7_isMuted 7 rfl) er (by first | decide | omega) ?_
  refine g3_muted (by first | assumption | decide | omega) (by first | assumption | decide | omega) (tk tkX7_isMuted 8 rfl) fkX7_110 ?_
  rw [hc.1.2.2.2.2.2.1 r1 7 (by omega) (by omega)]
  exact pw_ireturn (tk tkX7_isMuted 9 rfl) rfl (by decide) (nar01 (hvu.2.2.2.2.2 r1 (by omega)).2.2.2.1).1 (CQ.ret hc rfl ((if_neg (ne_f k2)).trans (by rw [er2]; rcases (hvu.2.2.2.2.2 r1 (by omega)).2.2.2.1 with h | h <;> rw [h] <;> rfl)))
set_option maxRecDepth 100000 in
set_option maxHeartbeats 4000000 in
theorem ct_X7_actsOf (x : XW) (a : AM) (hc : RC a x.1) (hv : VS (uN (aS a)) (aS a)) (r : Int32) (h1 : inR r 0 (aS a 25 - 1) = true) : CT MX7_actsOf 30 0 [.ref 160, .int r] (hp x) (CQ [(1, "java/lang/IndexOutOfBoundsException")] x (sactsOf a r)) := by
  refine ct_of (by decide +kernel) (by decide) rfl (k := 0) (ls := [some (.ref 160), some (.int r)]) rfl (Nat.le_of_ble_eq_true rfl) ?_
  obtain ⟨u, eu⟩ : ∃ u, u = uN (aS a) := ⟨_, rfl⟩
  have hvu := hv
  rw [← eu] at hvu
  have hu8 := hvu.1
  have hu : sSc (cSt x.1 0) 0 = nI u := hc.1.2.2.1.trans hvu.2.1
  have e25 : aS a 25 = nI u := hvu.2.1
  refine pw_aload_n (tk tkX7_actsOf 0 rfl) rfl ?_
  refine pw_iload_n (tk tkX7_actsOf 1 rfl) rfl ?_
  refine pw_callV (ct0_X7_checkRule x u hu hu8 _ (by rw [← e25]; exact h1)) okX7_checkRule (tk tkX7_actsOf 2 rfl) mkX7_89 imX7_checkRule seX7_checkRule (hp_ot _ 0) rfl rfl rfl (by decide) (by decide) (Nat.le_of_ble_eq_true rfl) (fun r h2 q => ?_) (fun E h2 q => by obtain ⟨k1, rfl, rfl⟩ := ck_r q; exact pt_out rfl rfl (CQ.thr hc rfl List.mem_cons_self (if_pos (show inR r 0 (aS a 25 - 1) = false from by rw [e25]; exact k1))))
  obtain ⟨k1, rfl, rfl⟩ := ck_l q
  have k2 : inR r 0 (aS a 25 - 1) = true := by rw [e25]; exact k1
  obtain ⟨r1, hr, er, er2⟩ := inR_lt rfl (by omega) k1
  refine pw_aload_n (tk tkX7_actsOf 3 rfl) rfl ?_
  refine g7_now (tk tkX7_actsOf 4 rfl) fkX7_10 ?_
  refine g4_rules (by first | assumption | decide | omega) (tk tkX7_actsOf 5 rfl) fkX7_79 ?_
  refine pw_iload_n (tk tkX7_actsOf 6 rfl) rfl ?_
  refine al_rules_e (e := r1) (by first | assumption | decide | omega) (tk tkX7_actsOf 7 rfl) er (by first | decide | omega) ?_
  refine g3_acts (by first | assumption | decide | omega) (by first | assumption | decide | omega) (tk tkX7_actsOf 8 rfl) fkX7_114 ?_
  rw [hc.1.2.2.2.2.2.1 r1 8 (by omega) (by omega)]
  exact pw_ireturn (tk tkX7_actsOf 9 rfl) rfl (by decide) rfl (CQ.ret hc rfl ((if_neg (ne_f k2)).trans (by rw [er2])))
theorem fsub0 {a n : Nat} (hn : n ≤ 16) : nI a - nI n = nI (a + 32 - n) - 32 := by
  have e : nI (a + 32 - n) + nI n = nI a + nI 32 := by rw [nI_add, nI_add]; congr 1; omega
  have e2 : nI (a + 32 - n) = nI a + nI 32 - nI n := by rw [← e, Int32.add_sub_cancel]
  rw [e2]
  generalize nI a = X; generalize nI n = Y
  rw [show (32 : Int32) = nI 32 from rfl]
  generalize nI 32 = Z
  simp only [Int32.sub_eq_add_neg]
  have e9 : X + Z + -Y + -Z = X + -Y + (Z + -Z) := by ac_rfl
  rw [e9, Int32.add_right_neg, Int32.add_zero]
set_option maxRecDepth 100000 in
set_option maxHeartbeats 4000000 in
theorem ct_X7_loggedRule (x : XW) (a : AM) (hc : RC a x.1) (hv : VS (uN (aS a)) (aS a)) (r : Int32) (h1 : inR r 0 (aS a 99 - 1) = true) : CT MX7_loggedRule 30 0 [.ref 160, .int r] (hp x) (CQ [(1, "java/lang/IndexOutOfBoundsException")] x (sloggedRule a r)) := by
  refine ct_of (by decide +kernel) (by decide) rfl (k := 0) (ls := [some (.ref 160), some (.int r)]) rfl (Nat.le_of_ble_eq_true rfl) ?_
  obtain ⟨u, eu⟩ : ∃ u, u = uN (aS a) := ⟨_, rfl⟩
  have hvu := hv
  rw [← eu] at hvu
  have hu8 := hvu.1
  have hu : sSc (cSt x.1 0) 0 = nI u := hc.1.2.2.1.trans hvu.2.1
  have e25 : aS a 25 = nI u := hvu.2.1
  obtain ⟨l, ⟨l1, l2, la, l3, l4, l5⟩, m1, m2, m3⟩ := hc.1.2.2.2.2.2.2
  have e99 : aS a 99 = nI l.length := m2
  refine pw_aload_n (tk tkX7_loggedRule 0 rfl) rfl ?_
  refine pw_iload_n (tk tkX7_loggedRule 1 rfl) rfl ?_
  refine pw_callV (ct0_X7_checkAgo x l.length l2 l1 _ (by rw [← e99]; exact h1)) okX7_checkAgo (tk tkX7_loggedRule 2 rfl) mkX7_196 imX7_checkAgo seX7_checkAgo (hp_ot _ 0) rfl rfl rfl (by decide) (by decide) (Nat.le_of_ble_eq_true rfl) (fun r h2 q => ?_) (fun E h2 q => by obtain ⟨k1, rfl, rfl⟩ := ck_r q; exact pt_out rfl rfl (CQ.thr hc rfl List.mem_cons_self (if_pos (show inR r 0 (aS a 99 - 1) = false from by rw [e99]; exact k1))))
  obtain ⟨k1, rfl, rfl⟩ := ck_l q
  have k2 : inR r 0 (aS a 99 - 1) = true := by rw [e99]; exact k1
  obtain ⟨r1, hr, er, er2⟩ := inR_lt rfl (by omega) k1
  obtain ⟨p, hp0⟩ : ∃ p, l[r1]? = some p := ⟨_, List.getElem?_eq_getElem hr⟩
  obtain ⟨p1, p2⟩ := l5 r1 p hp0
  obtain ⟨n1, n2⟩ := m3 r1 p hp0
  refine pw_aload_n (tk tkX7_loggedRule 3 rfl) rfl ?_
  refine g7_now (tk tkX7_loggedRule 4 rfl) fkX7_10 ?_
  refine g4_log (by first | assumption | decide | omega) (tk tkX7_loggedRule 5 rfl) fkX7_187 ?_
  refine g2_rules (by first | assumption | decide | omega) (tk tkX7_loggedRule 6 rfl) fkX7_199 ?_
  refine pw_aload_n (tk tkX7_loggedRule 7 rfl) rfl ?_
  refine g7_now (tk tkX7_loggedRule 8 rfl) fkX7_10 ?_
  refine g4_log (by first | assumption | decide | omega) (tk tkX7_loggedRule 9 rfl) fkX7_187 ?_
  refine pw_iload_n (tk tkX7_loggedRule 10 rfl) rfl ?_
  refine pw_cV (ct_X2_placeOf x 0 (by decide) _) okX2_placeOf (tk tkX7_loggedRule 11 rfl) mkX7_201 imX2_placeOf seX2_placeOf (hp_st _ (by first | assumption | decide | omega) (by decide : 4 < 16)) rfl rfl rfl (by decide) (by decide) (Nat.le_of_ble_eq_true rfl) ?_
  rw [l4, fl16 (la + 32 - r1) (by omega) (show nI la - r = nI (la + 32 - r1) - 32 from by rw [er]; exact fsub0 (by omega)), show (la + 32 - r1) % 16 = (la + 16 - r1) % 16 by omega]
  refine al_lr_e (e := (la + 16 - r1) % 16) (by first | assumption | decide | omega) (tk tkX7_loggedRule 12 rfl) rfl (by first | decide | omega) ?_
  rw [p1]
  exact pw_ireturn (tk tkX7_loggedRule 13 rfl) rfl (by decide) rfl (CQ.ret hc rfl ((if_neg (ne_f k2)).trans (by rw [er2, ← n1])))
set_option maxRecDepth 100000 in
set_option maxHeartbeats 4000000 in
theorem ct_X7_loggedDepth (x : XW) (a : AM) (hc : RC a x.1) (hv : VS (uN (aS a)) (aS a)) (r : Int32) (h1 : inR r 0 (aS a 99 - 1) = true) : CT MX7_loggedDepth 30 0 [.ref 160, .int r] (hp x) (CQ [(1, "java/lang/IndexOutOfBoundsException")] x (sloggedDepth a r)) := by
  refine ct_of (by decide +kernel) (by decide) rfl (k := 0) (ls := [some (.ref 160), some (.int r)]) rfl (Nat.le_of_ble_eq_true rfl) ?_
  obtain ⟨u, eu⟩ : ∃ u, u = uN (aS a) := ⟨_, rfl⟩
  have hvu := hv
  rw [← eu] at hvu
  have hu8 := hvu.1
  have hu : sSc (cSt x.1 0) 0 = nI u := hc.1.2.2.1.trans hvu.2.1
  have e25 : aS a 25 = nI u := hvu.2.1
  obtain ⟨l, ⟨l1, l2, la, l3, l4, l5⟩, m1, m2, m3⟩ := hc.1.2.2.2.2.2.2
  have e99 : aS a 99 = nI l.length := m2
  refine pw_aload_n (tk tkX7_loggedDepth 0 rfl) rfl ?_
  refine pw_iload_n (tk tkX7_loggedDepth 1 rfl) rfl ?_
  refine pw_callV (ct0_X7_checkAgo x l.length l2 l1 _ (by rw [← e99]; exact h1)) okX7_checkAgo (tk tkX7_loggedDepth 2 rfl) mkX7_196 imX7_checkAgo seX7_checkAgo (hp_ot _ 0) rfl rfl rfl (by decide) (by decide) (Nat.le_of_ble_eq_true rfl) (fun r h2 q => ?_) (fun E h2 q => by obtain ⟨k1, rfl, rfl⟩ := ck_r q; exact pt_out rfl rfl (CQ.thr hc rfl List.mem_cons_self (if_pos (show inR r 0 (aS a 99 - 1) = false from by rw [e99]; exact k1))))
  obtain ⟨k1, rfl, rfl⟩ := ck_l q
  have k2 : inR r 0 (aS a 99 - 1) = true := by rw [e99]; exact k1
  obtain ⟨r1, hr, er, er2⟩ := inR_lt rfl (by omega) k1
  obtain ⟨p, hp0⟩ : ∃ p, l[r1]? = some p := ⟨_, List.getElem?_eq_getElem hr⟩
  obtain ⟨p1, p2⟩ := l5 r1 p hp0
  obtain ⟨n1, n2⟩ := m3 r1 p hp0
  refine pw_aload_n (tk tkX7_loggedDepth 3 rfl) rfl ?_
  refine g7_now (tk tkX7_loggedDepth 4 rfl) fkX7_10 ?_
  refine g4_log (by first | assumption | decide | omega) (tk tkX7_loggedDepth 5 rfl) fkX7_187 ?_
  refine g2_depths (by first | assumption | decide | omega) (tk tkX7_loggedDepth 6 rfl) fkX7_205 ?_
  refine pw_aload_n (tk tkX7_loggedDepth 7 rfl) rfl ?_
  refine g7_now (tk tkX7_loggedDepth 8 rfl) fkX7_10 ?_
  refine g4_log (by first | assumption | decide | omega) (tk tkX7_loggedDepth 9 rfl) fkX7_187 ?_
  refine pw_iload_n (tk tkX7_loggedDepth 10 rfl) rfl ?_
  refine pw_cV (ct_X2_placeOf x 0 (by decide) _) okX2_placeOf (tk tkX7_loggedDepth 11 rfl) mkX7_201 imX2_placeOf seX2_placeOf (hp_st _ (by first | assumption | decide | omega) (by decide : 4 < 16)) rfl rfl rfl (by decide) (by decide) (Nat.le_of_ble_eq_true rfl) ?_
  rw [l4, fl16 (la + 32 - r1) (by omega) (show nI la - r = nI (la + 32 - r1) - 32 from by rw [er]; exact fsub0 (by omega)), show (la + 32 - r1) % 16 = (la + 16 - r1) % 16 by omega]
  refine al_ld_e (e := (la + 16 - r1) % 16) (by first | assumption | decide | omega) (tk tkX7_loggedDepth 12 rfl) rfl (by first | decide | omega) ?_
  rw [p2]
  exact pw_ireturn (tk tkX7_loggedDepth 13 rfl) rfl (by decide) rfl (CQ.ret hc rfl ((if_neg (ne_f k2)).trans (by rw [er2, ← n2])))
