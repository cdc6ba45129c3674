theorem cSt_u (x : XW) (b : Nat) (σ : SS) : cSt (uC1 x b σ).1 b = σ := if_pos rfl
theorem cSt_n (x : XW) {b j : Nat} (σ : SS) (h : j ≠ b) : cSt (uC1 x b σ).1 j = cSt x.1 j := if_neg h
theorem uC1_uC1 (x : XW) (b : Nat) (σ τ : SS) : uC1 (uC1 x b σ) b τ = uC1 x b τ := by
  have e : upS (upS x.1.1 b σ) b τ = upS x.1.1 b τ := by
    funext j; unfold upS; by_cases h : j = b
    · rw [if_pos h, if_pos h]
    · rw [if_neg h, if_neg h, if_neg h]
  show ((upS (upS x.1.1 b σ) b τ, x.1.2), x.2) = _
  rw [e]; rfl
theorem uC1_self (x : XW) (b : Nat) : uC1 x b (cSt x.1 b) = x := by
  have e : upS x.1.1 b (cSt x.1 b) = x.1.1 := by
    funext j; unfold upS; by_cases h : j = b
    · rw [if_pos h, h]
    · rw [if_neg h]
  show ((upS x.1.1 b (cSt x.1 b), x.1.2), x.2) = x
  rw [e]
theorem nar01 {v : Int32} (h : v = 0 ∨ v = 1) : narrow .boolean (.int v) = .int v ∧ fits .boolean (.int v) = true := by rcases h with h | h <;> subst h <;> exact ⟨rfl, rfl⟩
/-- the rule i of the block b -/
def uRu (x : XW) (b i : Nat) (r : Nat → Int32) : XW := uC1 x b (uS3 (cSt x.1 b) (upR (sRu (cSt x.1 b)) i r))
theorem upR_upR (f : Nat → Nat → Int32) (i : Nat) (r q : Nat → Int32) : upR (upR f i r) i q = upR f i q := by
  funext j; unfold upR; by_cases h : j = i
  · rw [if_pos h, if_pos h]
  · rw [if_neg h, if_neg h, if_neg h]
theorem uRu_get (x : XW) (b i : Nat) (r : Nat → Int32) : sRu (cSt (uRu x b i r).1 b) i = r := by
  unfold uRu; rw [cSt_u]; exact if_pos rfl
theorem uRu_ne (x : XW) {b i b2 j : Nat} (r : Nat → Int32) (h : b ≠ b2 ∨ i ≠ j) : sRu (cSt (uRu x b i r).1 b2) j = sRu (cSt x.1 b2) j := by
  unfold uRu
  by_cases e : b2 = b
  · subst e; rw [cSt_u]; exact if_neg (fun q => by omega)
  · rw [cSt_n _ _ e]
theorem uRu_put0 (x : XW) (b i k : Nat) (v : Int32) : uC1 x b (uS3 (cSt x.1 b) (upR (sRu (cSt x.1 b)) i (upd (sRu (cSt x.1 b) i) k v))) = uRu x b i (upd (sRu (cSt x.1 b) i) k v) := rfl
theorem uRu_put (x : XW) (b i k : Nat) (r : Nat → Int32) (v : Int32) : uC1 (uRu x b i r) b (uS3 (cSt (uRu x b i r).1 b) (upR (sRu (cSt (uRu x b i r).1 b)) i (upd (sRu (cSt (uRu x b i r).1 b) i) k v))) = uRu x b i (upd r k v) := by
  rw [uRu_get]
  unfold uRu
  rw [cSt_u, uC1_uC1]
  show uC1 x b (uS3 (cSt x.1 b) (upR (upR (sRu (cSt x.1 b)) i r) i (upd r k v))) = _
  rw [upR_upR]
def stRu (q : Nat → Int32) (e c l : Int32) : Nat → Int32 := upd (upd (upd (upd (upd (upd (upd (upd (upd q 0 e) 1 c) 2 l) 3 0) 4 0) 5 0) 6 0) 7 0) 8 0
def cp9 (r q : Nat → Int32) : Nat → Int32 := upd (upd (upd (upd (upd (upd (upd (upd (upd q 0 (r 0)) 1 (r 1)) 2 (r 2)) 3 (r 3)) 4 (r 4)) 5 (r 5)) 6 (r 6)) 7 (r 7)) 8 (r 8)
theorem cp9_at (r q : Nat → Int32) : ∀ k, k < 9 → cp9 r q k = r k
  | 0, _ => rfl | 1, _ => rfl | 2, _ => rfl | 3, _ => rfl | 4, _ => rfl | 5, _ => rfl | 6, _ => rfl | 7, _ => rfl | 8, _ => rfl
  | k + 9, h => absurd h (by omega)
set_option maxRecDepth 100000 in
set_option maxHeartbeats 4000000 in
theorem ct_X3_start (x : XW) (b i : Nat) (hb : b < 10) (hi : i < 8) (e c l : Int32) : CT MX3_start 0 0 [.ref (16 * b + (7 + i)), .int e, .int c, .int l] (hp x) (Det (.inl none) (hp (uRu x b i (stRu (sRu (cSt x.1 b) i) e c l)))) := by
  refine ct_of (by decide +kernel) (by decide) rfl (k := 0) (ls := [some (.ref (16 * b + (7 + i))), some (.int e), some (.int c), some (.int l)]) rfl (Nat.le_of_ble_eq_true rfl) ?_
  refine pw_aload_n (tk tkX3_start 0 rfl) rfl ?_
  refine pw_iload_n (tk tkX3_start 1 rfl) rfl ?_
  refine p3_event (by first | assumption | decide | omega) (by first | assumption | decide | omega) (tk tkX3_start 2 rfl) fkX3_9 ?_
  rw [uRu_put0]
  refine pw_aload_n (tk tkX3_start 3 rfl) rfl ?_
  refine pw_iload_n (tk tkX3_start 4 rfl) rfl ?_
  refine p3_column (by first | assumption | decide | omega) (by first | assumption | decide | omega) (tk tkX3_start 5 rfl) fkX3_15 ?_
  rw [uRu_put]
  refine pw_aload_n (tk tkX3_start 6 rfl) rfl ?_
  refine pw_iload_n (tk tkX3_start 7 rfl) rfl ?_
  refine p3_least (by first | assumption | decide | omega) (by first | assumption | decide | omega) (tk tkX3_start 8 rfl) fkX3_18 ?_
  rw [uRu_put]
  refine pw_aload_n (tk tkX3_start 9 rfl) rfl ?_
  refine pw_iconst (v := 0) (tk tkX3_start 10 rfl) (by decide) ?_
  refine p3_action (by first | assumption | decide | omega) (by first | assumption | decide | omega) (tk tkX3_start 11 rfl) fkX3_21 ?_
  rw [uRu_put]
  refine pw_aload_n (tk tkX3_start 12 rfl) rfl ?_
  refine pw_iconst (v := 0) (tk tkX3_start 13 rfl) (by decide) ?_
  refine p3_targetRow (by first | assumption | decide | omega) (by first | assumption | decide | omega) (tk tkX3_start 14 rfl) fkX3_24 ?_
  rw [uRu_put]
  refine pw_aload_n (tk tkX3_start 15 rfl) rfl ?_
  refine pw_iconst (v := 0) (tk tkX3_start 16 rfl) (by decide) ?_
  refine p3_targetColumn (by first | assumption | decide | omega) (by first | assumption | decide | omega) (tk tkX3_start 17 rfl) fkX3_27 ?_
  rw [uRu_put]
  refine pw_aload_n (tk tkX3_start 18 rfl) rfl ?_
  refine pw_iconst (v := 0) (tk tkX3_start 19 rfl) (by decide) ?_
  refine p3_amount (by first | assumption | decide | omega) (by first | assumption | decide | omega) (tk tkX3_start 20 rfl) fkX3_30 ?_
  rw [uRu_put]
  refine pw_aload_n (tk tkX3_start 21 rfl) rfl ?_
  refine pw_iconst (v := 0) (tk tkX3_start 22 rfl) (by decide) ?_
  refine p3_muted (by first | assumption | decide | omega) (by first | assumption | decide | omega) (tk tkX3_start 23 rfl) fkX3_33 ⟨rfl, rfl⟩ ?_
  rw [uRu_put]
  refine pw_aload_n (tk tkX3_start 24 rfl) rfl ?_
  refine pw_iconst (v := 0) (tk tkX3_start 25 rfl) (by decide) ?_
  refine p3_acts (by first | assumption | decide | omega) (by first | assumption | decide | omega) (tk tkX3_start 26 rfl) fkX3_37 ?_
  rw [uRu_put]
  exact pw_return (tk tkX3_start 27 rfl) rfl (by decide) ⟨rfl, rfl⟩
set_option maxRecDepth 100000 in
set_option maxHeartbeats 4000000 in
theorem ct_X3_copyFrom (x : XW) (b i b2 j : Nat) (hb : b < 10) (hi : i < 8) (hb2 : b2 < 10) (hj : j < 8) (hne : b ≠ b2 ∨ i ≠ j) (hm : sRu (cSt x.1 b2) j 7 = 0 ∨ sRu (cSt x.1 b2) j 7 = 1) : CT MX3_copyFrom 0 0 [.ref (16 * b + (7 + i)), .ref (16 * b2 + (7 + j))] (hp x) (Det (.inl none) (hp (uRu x b i (cp9 (sRu (cSt x.1 b2) j) (sRu (cSt x.1 b) i))))) := by
  refine ct_of (by decide +kernel) (by decide) rfl (k := 0) (ls := [some (.ref (16 * b + (7 + i))), some (.ref (16 * b2 + (7 + j)))]) rfl (Nat.le_of_ble_eq_true rfl) ?_
  refine pw_aload_n (tk tkX3_copyFrom 0 rfl) rfl ?_
  refine pw_aload_n (tk tkX3_copyFrom 1 rfl) rfl ?_
  refine g3_event (by first | assumption | decide | omega) (by first | assumption | decide | omega) (tk tkX3_copyFrom 2 rfl) fkX3_9 ?_
  refine p3_event (by first | assumption | decide | omega) (by first | assumption | decide | omega) (tk tkX3_copyFrom 3 rfl) fkX3_9 ?_
  rw [uRu_put0]
  refine pw_aload_n (tk tkX3_copyFrom 4 rfl) rfl ?_
  refine pw_aload_n (tk tkX3_copyFrom 5 rfl) rfl ?_
  refine g3_column (by first | assumption | decide | omega) (by first | assumption | decide | omega) (tk tkX3_copyFrom 6 rfl) fkX3_15 ?_
  rw [uRu_ne _ _ hne]
  refine p3_column (by first | assumption | decide | omega) (by first | assumption | decide | omega) (tk tkX3_copyFrom 7 rfl) fkX3_15 ?_
  rw [uRu_put]
  refine pw_aload_n (tk tkX3_copyFrom 8 rfl) rfl ?_
  refine pw_aload_n (tk tkX3_copyFrom 9 rfl) rfl ?_
  refine g3_least (by first | assumption | decide | omega) (by first | assumption | decide | omega) (tk tkX3_copyFrom 10 rfl) fkX3_18 ?_
  rw [uRu_ne _ _ hne]
  refine p3_least (by first | assumption | decide | omega) (by first | assumption | decide | omega) (tk tkX3_copyFrom 11 rfl) fkX3_18 ?_
  rw [uRu_put]
  refine pw_aload_n (tk tkX3_copyFrom 12 rfl) rfl ?_
  refine pw_aload_n (tk tkX3_copyFrom 13 rfl) rfl ?_
  refine g3_action (by first | assumption | decide | omega) (by first | assumption | decide | omega) (tk tkX3_copyFrom 14 rfl) fkX3_21 ?_
  rw [uRu_ne _ _ hne]
  refine p3_action (by first | assumption | decide | omega) (by first | assumption | decide | omega) (tk tkX3_copyFrom 15 rfl) fkX3_21 ?_
  rw [uRu_put]
  refine pw_aload_n (tk tkX3_copyFrom 16 rfl) rfl ?_
  refine pw_aload_n (tk tkX3_copyFrom 17 rfl) rfl ?_
  refine g3_targetRow (by first | assumption | decide | omega) (by first | assumption | decide | omega) (tk tkX3_copyFrom 18 rfl) fkX3_24 ?_
  rw [uRu_ne _ _ hne]
  refine p3_targetRow (by first | assumption | decide | omega) (by first | assumption | decide | omega) (tk tkX3_copyFrom 19 rfl) fkX3_24 ?_
  rw [uRu_put]
  refine pw_aload_n (tk tkX3_copyFrom 20 rfl) rfl ?_
  refine pw_aload_n (tk tkX3_copyFrom 21 rfl) rfl ?_
  refine g3_targetColumn (by first | assumption | decide | omega) (by first | assumption | decide | omega) (tk tkX3_copyFrom 22 rfl) fkX3_27 ?_
  rw [uRu_ne _ _ hne]
  refine p3_targetColumn (by first | assumption | decide | omega) (by first | assumption | decide | omega) (tk tkX3_copyFrom 23 rfl) fkX3_27 ?_
  rw [uRu_put]
  refine pw_aload_n (tk tkX3_copyFrom 24 rfl) rfl ?_
  refine pw_aload_n (tk tkX3_copyFrom 25 rfl) rfl ?_
  refine g3_amount (by first | assumption | decide | omega) (by first | assumption | decide | omega) (tk tkX3_copyFrom 26 rfl) fkX3_30 ?_
  rw [uRu_ne _ _ hne]
  refine p3_amount (by first | assumption | decide | omega) (by first | assumption | decide | omega) (tk tkX3_copyFrom 27 rfl) fkX3_30 ?_
  rw [uRu_put]
  refine pw_aload_n (tk tkX3_copyFrom 28 rfl) rfl ?_
  refine pw_aload_n (tk tkX3_copyFrom 29 rfl) rfl ?_
  refine g3_muted (by first | assumption | decide | omega) (by first | assumption | decide | omega) (tk tkX3_copyFrom 30 rfl) fkX3_33 ?_
  rw [uRu_ne _ _ hne]
  refine p3_muted (by first | assumption | decide | omega) (by first | assumption | decide | omega) (tk tkX3_copyFrom 31 rfl) fkX3_33 (nar01 hm) ?_
  rw [uRu_put]
  refine pw_aload_n (tk tkX3_copyFrom 32 rfl) rfl ?_
  refine pw_aload_n (tk tkX3_copyFrom 33 rfl) rfl ?_
  refine g3_acts (by first | assumption | decide | omega) (by first | assumption | decide | omega) (tk tkX3_copyFrom 34 rfl) fkX3_37 ?_
  rw [uRu_ne _ _ hne]
  refine p3_acts (by first | assumption | decide | omega) (by first | assumption | decide | omega) (tk tkX3_copyFrom 35 rfl) fkX3_37 ?_
  rw [uRu_put]
  exact pw_return (tk tkX3_copyFrom 36 rfl) rfl (by decide) ⟨rfl, rfl⟩
theorem Met_ofWF {l : Launch} {y : MethodName} {ws ws' : List Cond} {rm : Room} {Pc : Array Value → State → Prop} {Qc : Array Value → State → Outcome → State → Prop} {mc ms : Nat} {free : Addr → Prop} {cc : ByteArray} {maxL : Nat} {ret : Option FieldType}
    (hy : plainFor y = true) (hw : ws = Cond.code y cc maxL ret :: ws')
    (body : ∀ p e s m args below meth c s₁, BodyLoose p l y (headSpec ws rm) cc maxL ret e s m args below meth c s₁ → c.maxLocals = maxL → Pc args s →
      W p l e (headSpec ws rm).room s m args below meth c s.heap [] 0 0 (MQ below Qc args s mc ms free) (entryFrame m args maxL)) : Met l y ws rm Pc Qc mc ms free := by
  refine MetFree.of_bodySF (code := cc) (maxLocals := maxL) (ret := ret) hy ?_ ?_
  · intro args s m h hn
    obtain ⟨meth, c, h1, h2, h3, h4, h5, h6, -, -⟩ := Cond.code_spec hn (atoms_spec (ws := ws) h _ (by rw [hw]; exact List.mem_cons_self))
    exact ⟨meth, c, h1, h2, h3, h4, h5, h6⟩
  · intro p e s m args below meth c s₁ B hml hP _
    have hh0 : s₁.heap = s.heap := by rw [B.state]; rfl
    obtain ⟨t, a1, o, b1, b2, b3⟩ := body p e s m args below meth c s₁ B hml hP s₁ hh0 (Stand.of_body B)
    exact ⟨t, o, a1, b1, b2, b3⟩
theorem ct_ofF {M : Mth} {d n : Nat} {args : List Value} {h : Hp} {Q : Out → Hp → Prop} (hp : plainFor (mY M) = true) (m0 : mK M = 0) (hh : mH M = []) {k : Nat} {ls : List (Option Value)} (e1 : els args ++ List.replicate k none = ls) (hn : (lg_sl args).length ≤ mL M) (body : PW M d n 0 ls [] h Q) : CT M d n args h Q := by
  intro l hl G
  have ew : wsM M = .code (mY M) (mC M) (mL M) (mR M) :: UU := wsM_eq hh
  rw [if_pos m0]
  refine Met_ofWF (cc := mC M) (maxL := mL M) (ret := mR M) hp ew fun p e s m va below meth c s₁ B hml hP => ?_
  have ht : c.exceptionTable.toList = tableOf (mH M) := by
    obtain ⟨meth9, c9, h1, h2, -, -, -, -, h7, -⟩ := Cond.code_spec B.named (atoms_spec (ws := wsM M) B.pre _ (by rw [ew]; exact List.mem_cons_self))
    cases Option.some.inj (h1.symm.trans B.method)
    cases Option.some.inj (h2.symm.trans (Stand.of_body B).code)
    rw [hh, Array.isEmpty_iff.mp h7]
    rfl
  have w := ent_go (e := e) (below := below) e1 hn (ent_cx (Q := Q) hl (by omega) B hml ht hP) hP body
  unfold PZ at w
  rw [if_pos m0] at w
  exact w
def flm (x y : Int32) : Int32 := if 0 ≤ x ^^^ y then x - x / y * y else if x - x / y * y = 0 then x - x / y * y else x - x / y * y + y
set_option maxRecDepth 100000 in
set_option maxHeartbeats 4000000 in
theorem ct_J9_floorMod (h : Hp) (x y : Int32) (hy : ¬ y = 0) : CT MJ9_floorMod_7cf53 0 0 [.int x, .int y] h (Det (.inl (some (.int (flm x y)))) h) := by
  refine ct_ofF (by decide +kernel) rfl rfl (k := 1) (ls := [some (.int x), some (.int y), none]) rfl (Nat.le_of_ble_eq_true rfl) ?_
  refine pw_iload_n (tk tkJ9_floorMod_7cf53 0 rfl) rfl ?_
  refine pw_iload_n (tk tkJ9_floorMod_7cf53 1 rfl) rfl ?_
  refine pw_irem (tk tkJ9_floorMod_7cf53 2 rfl) hy ?_
  refine pw_ist2 (tk tkJ9_floorMod_7cf53 3 rfl) rfl (by decide) ?_
  refine pw_iload_n (tk tkJ9_floorMod_7cf53 4 rfl) rfl ?_
  refine pw_iload_n (tk tkJ9_floorMod_7cf53 5 rfl) rfl ?_
  refine pw_ixor (tk tkJ9_floorMod_7cf53 6 rfl) ?_
  refine pw_if_ge (tgt := 18) (tk tkJ9_floorMod_7cf53 7 rfl) (by decide) (fun c7 => ?_) (fun c7 => ?_)
  · refine pw_iload_n (tk tkJ9_floorMod_7cf53 14 rfl) rfl ?_
    exact pw_ireturn (tk tkJ9_floorMod_7cf53 15 rfl) rfl (by decide) rfl ⟨by unfold flm; simp [c7], rfl⟩
  · refine pw_iload_n (tk tkJ9_floorMod_7cf53 8 rfl) rfl ?_
    refine pw_if_eq (tgt := 18) (tk tkJ9_floorMod_7cf53 9 rfl) (by decide) (fun c11 => ?_) (fun c11 => ?_)
    · refine pw_iload_n (tk tkJ9_floorMod_7cf53 14 rfl) rfl ?_
      exact pw_ireturn (tk tkJ9_floorMod_7cf53 15 rfl) rfl (by decide) rfl ⟨by unfold flm; simp [c7, c11], rfl⟩
    · refine pw_iload_n (tk tkJ9_floorMod_7cf53 10 rfl) rfl ?_
      refine pw_iload_n (tk tkJ9_floorMod_7cf53 11 rfl) rfl ?_
      refine pw_iadd (tk tkJ9_floorMod_7cf53 12 rfl) ?_
      exact pw_ireturn (tk tkJ9_floorMod_7cf53 13 rfl) rfl (by decide) rfl ⟨by unfold flm; simp [c7, c11], rfl⟩
theorem flm16 : ∀ k : Fin 64, flm (nI k.val - 32) 16 = nI (k.val % 16) := by decide +kernel
theorem flm6 : ∀ k : Fin 12, flm (nI k.val - 6) 6 = nI (k.val % 6) := by decide +kernel
theorem fl16 {x : Int32} (k : Nat) (hk : k < 64) (h : x = nI k - 32) : flm x 16 = nI (k % 16) := by rw [h]; exact flm16 ⟨k, hk⟩
theorem fl6 {x : Int32} (k : Nat) (hk : k < 12) (h : x = nI k - 6) : flm x 6 = nI (k % 6) := by rw [h]; exact flm6 ⟨k, hk⟩
theorem rem16 {a : Nat} (h : a < 16) : (nI a + 1) - (nI a + 1) / 16 * 16 = nI ((a + 1) % 16) := by rw [nI_1]; exact pk_rem (by omega) (by decide) (by decide)
theorem rem6 {a : Nat} (h : a < 6) : (nI a + 1) - (nI a + 1) / 6 * 6 = nI ((a + 1) % 6) := by rw [nI_1]; exact pk_rem (by omega) (by decide) (by decide)
theorem mn16 : ∀ l : Fin 17, (if (16 : Int32) < nI l.val + 1 then (16 : Int32) else nI l.val + 1) = nI (min (l.val + 1) 16) := by decide +kernel
theorem mn6 : ∀ l : Fin 7, (if (6 : Int32) < nI l.val + 1 then (6 : Int32) else nI l.val + 1) = nI (min (l.val + 1) 6) := by decide +kernel
theorem cpy0 (n : Nat) (f g : Nat → Int32) : va_cpy (iA f) (iA g) 0 0 n = iA (cpN n f g) := by
  funext j
  unfold va_cpy iA cpN
  by_cases h : j < n
  · rw [if_pos ⟨Nat.zero_le _, by omega⟩, if_pos h]; simp
  · rw [if_neg (fun q => by omega), if_neg h]
theorem hp_cp5 (x : XW) {b : Nat} (hb : b < 10) (f : Nat → Int32) : upH (hp x) (16 * b + 5) (.inl (.int, 16, va_cpy (iA f) (iA (sLr (cSt x.1 b))) (0 : Int32).toNatClampNeg (0 : Int32).toNatClampNeg (16 : Int32).toNatClampNeg)) = hp (uC1 x b (uS4 (cSt x.1 b) (cpN 16 f (sLr (cSt x.1 b))))) := by
  rw [show (0 : Int32).toNatClampNeg = 0 from rfl, show (16 : Int32).toNatClampNeg = 16 from rfl, cpy0]
  exact hp_us x _ hb (by decide) rfl (fun j _ hj => stcLr _ _ _ _ hj)
theorem hp_cp6 (x : XW) {b : Nat} (hb : b < 10) (f : Nat → Int32) : upH (hp x) (16 * b + 6) (.inl (.int, 16, va_cpy (iA f) (iA (sLd (cSt x.1 b))) (0 : Int32).toNatClampNeg (0 : Int32).toNatClampNeg (16 : Int32).toNatClampNeg)) = hp (uC1 x b (uS5 (cSt x.1 b) (cpN 16 f (sLd (cSt x.1 b))))) := by
  rw [show (0 : Int32).toNatClampNeg = 0 from rfl, show (16 : Int32).toNatClampNeg = 16 from rfl, cpy0]
  exact hp_us x _ hb (by decide) rfl (fun j _ hj => stcLd _ _ _ _ hj)
theorem hp_cp2 (x : XW) {b : Nat} (hb : b < 10) (f : Nat → Int32) : upH (hp x) (16 * b + 2) (.inl (.int, 18, va_cpy (iA f) (iA (sVa (cSt x.1 b))) (0 : Int32).toNatClampNeg (0 : Int32).toNatClampNeg (18 : Int32).toNatClampNeg)) = hp (uC1 x b (uS2 (cSt x.1 b) (cpN 18 f (sVa (cSt x.1 b))))) := by
  rw [show (0 : Int32).toNatClampNeg = 0 from rfl, show (18 : Int32).toNatClampNeg = 18 from rfl, cpy0]
  exact hp_us x _ hb (by decide) rfl (fun j _ hj => stcVa _ _ _ _ hj)
def cpLg (σ τ : SS) : SS := uS6 (uS5 (uS4 σ (cpN 16 (sLr τ) (sLr σ))) (cpN 16 (sLd τ) (sLd σ))) (upd (upd (sLs σ) 0 (sLs τ 0)) 1 (sLs τ 1))
set_option maxRecDepth 100000 in
set_option maxHeartbeats 4000000 in
theorem ct_X2_copyFrom (x : XW) (b b2 : Nat) (hb : b < 10) (hb2 : b2 < 10) (hne : b2 ≠ b) : CT MX2_copyFrom 1 0 [.ref (16 * b + 4), .ref (16 * b2 + 4)] (hp x) (Det (.inl none) (hp (uC1 x b (cpLg (cSt x.1 b) (cSt x.1 b2))))) := by
  refine ct_of (by decide +kernel) (by decide) rfl (k := 0) (ls := [some (.ref (16 * b + 4)), some (.ref (16 * b2 + 4))]) rfl (Nat.le_of_ble_eq_true rfl) ?_
  refine pw_aload_n (tk tkX2_copyFrom 0 rfl) rfl ?_
  refine g2_rules (by first | assumption | decide | omega) (tk tkX2_copyFrom 1 rfl) fkX2_9 ?_
  refine pw_iconst (v := 0) (tk tkX2_copyFrom 2 rfl) (by decide) ?_
  refine pw_aload_n (tk tkX2_copyFrom 3 rfl) rfl ?_
  refine g2_rules (by first | assumption | decide | omega) (tk tkX2_copyFrom 4 rfl) fkX2_9 ?_
  refine pw_iconst (v := 0) (tk tkX2_copyFrom 5 rfl) (by decide) ?_
  refine pw_bipush (v := 16) (tk tkX2_copyFrom 6 rfl) (by decide) ?_
  refine pw_copy (a := 16 * b2 + 5) (b := 16 * b + 5) (tk tkX2_copyFrom 7 rfl) mkX2_18 na_copy st_copy in_Sys (hp_st _ hb2 (by decide : 5 < 16)) (hp_st _ hb (by decide : 5 < 16)) (by decide) (by decide) (by decide) (Nat.le_of_ble_eq_true rfl) (Nat.le_of_ble_eq_true rfl) (fun i => ⟨_, rfl⟩) (by decide) (Nat.le_of_ble_eq_true rfl) ?_
  rw [hp_cp5 x hb]
  refine pw_aload_n (tk tkX2_copyFrom 8 rfl) rfl ?_
  refine g2_depths (by first | assumption | decide | omega) (tk tkX2_copyFrom 9 rfl) fkX2_15 ?_
  refine pw_iconst (v := 0) (tk tkX2_copyFrom 10 rfl) (by decide) ?_
  refine pw_aload_n (tk tkX2_copyFrom 11 rfl) rfl ?_
  refine g2_depths (by first | assumption | decide | omega) (tk tkX2_copyFrom 12 rfl) fkX2_15 ?_
  refine pw_iconst (v := 0) (tk tkX2_copyFrom 13 rfl) (by decide) ?_
  refine pw_bipush (v := 16) (tk tkX2_copyFrom 14 rfl) (by decide) ?_
  refine pw_copy (a := 16 * b2 + 6) (b := 16 * b + 6) (tk tkX2_copyFrom 15 rfl) mkX2_18 na_copy st_copy in_Sys (hp_st _ hb2 (by decide : 6 < 16)) (hp_st _ hb (by decide : 6 < 16)) (by decide) (by decide) (by decide) (Nat.le_of_ble_eq_true rfl) (Nat.le_of_ble_eq_true rfl) (fun i => ⟨_, rfl⟩) (by decide) (Nat.le_of_ble_eq_true rfl) ?_
  rw [hp_cp6 _ hb, cSt_n _ _ hne, cSt_u, uC1_uC1]
  refine pw_aload_n (tk tkX2_copyFrom 16 rfl) rfl ?_
  refine pw_aload_n (tk tkX2_copyFrom 17 rfl) rfl ?_
  refine g2_size (by first | assumption | decide | omega) (tk tkX2_copyFrom 18 rfl) fkX2_24 ?_
  rw [cSt_n _ _ hne]
  refine p2_size (by first | assumption | decide | omega) (tk tkX2_copyFrom 19 rfl) fkX2_24 ?_
  rw [cSt_u, uC1_uC1]
  refine pw_aload_n (tk tkX2_copyFrom 20 rfl) rfl ?_
  refine pw_aload_n (tk tkX2_copyFrom 21 rfl) rfl ?_
  refine g2_latest (by first | assumption | decide | omega) (tk tkX2_copyFrom 22 rfl) fkX2_28 ?_
  rw [cSt_n _ _ hne]
  refine p2_latest (by first | assumption | decide | omega) (tk tkX2_copyFrom 23 rfl) fkX2_28 ?_
  rw [cSt_u, uC1_uC1]
  exact pw_return (tk tkX2_copyFrom 24 rfl) rfl (by decide) ⟨rfl, rfl⟩
set_option maxRecDepth 100000 in
set_option maxHeartbeats 4000000 in
theorem ct_X2_placeOf (x : XW) (b : Nat) (hb : b < 10) (v : Int32) : CT MX2_placeOf 1 0 [.ref (16 * b + 4), .int v] (hp x) (Det (.inl (some (.int (flm (sLs (cSt x.1 b) 1 - v) 16)))) (hp x)) := by
  refine ct_of (by decide +kernel) (by decide) rfl (k := 0) (ls := [some (.ref (16 * b + 4)), some (.int v)]) rfl (Nat.le_of_ble_eq_true rfl) ?_
  refine pw_aload_n (tk tkX2_placeOf 0 rfl) rfl ?_
  refine g2_latest (by first | assumption | decide | omega) (tk tkX2_placeOf 1 rfl) fkX2_28 ?_
  refine pw_iload_n (tk tkX2_placeOf 2 rfl) rfl ?_
  refine pw_isub (tk tkX2_placeOf 3 rfl) ?_
  refine pw_bipush (v := 16) (tk tkX2_placeOf 4 rfl) (by decide) ?_
  refine pw_cS (ct_J9_floorMod (hp x) _ 16 (by decide)) okJ9_floorMod_7cf53 (tk tkX2_placeOf 5 rfl) mkX2_31 stJ9_floorMod_7cf53 rfl rfl (by decide) (by decide) (Nat.le_of_ble_eq_true rfl) ?_
  exact pw_ireturn (tk tkX2_placeOf 6 rfl) rfl (by decide) rfl ⟨rfl, rfl⟩
def ntS (σ : SS) (la l : Nat) (v d : Int32) : SS := uS6 (uS5 (uS4 σ (upd (sLr σ) ((la + 1) % 16) v)) (upd (sLd σ) ((la + 1) % 16) d)) (upd (upd (sLs σ) 1 (nI ((la + 1) % 16))) 0 (nI (min (l + 1) 16)))
set_option maxRecDepth 100000 in
set_option maxHeartbeats 4000000 in
theorem ct_X2_note (x : XW) (b la l : Nat) (hb : b < 10) (h1 : sLs (cSt x.1 b) 1 = nI la) (hla : la < 16) (h0 : sLs (cSt x.1 b) 0 = nI l) (hl : l ≤ 16) (v w : Int32) : CT MX2_note 1 0 [.ref (16 * b + 4), .int v, .int w] (hp x) (Det (.inl none) (hp (uC1 x b (ntS (cSt x.1 b) la l v w)))) := by
  refine ct_of (by decide +kernel) (by decide) rfl (k := 0) (ls := [some (.ref (16 * b + 4)), some (.int v), some (.int w)]) rfl (Nat.le_of_ble_eq_true rfl) ?_
  refine pw_aload_n (tk tkX2_note 0 rfl) rfl ?_
  refine pw_aload_n (tk tkX2_note 1 rfl) rfl ?_
  refine g2_latest (by first | assumption | decide | omega) (tk tkX2_note 2 rfl) fkX2_28 ?_
  refine pw_iconst (v := 1) (tk tkX2_note 3 rfl) (by decide) ?_
  refine pw_iadd (tk tkX2_note 4 rfl) ?_
  refine pw_bipush (v := 16) (tk tkX2_note 5 rfl) (by decide) ?_
  refine pw_irem (tk tkX2_note 6 rfl) (by decide) ?_
  rw [h1, rem16 hla]
  refine p2_latest (by first | assumption | decide | omega) (tk tkX2_note 7 rfl) fkX2_28 ?_
  refine pw_aload_n (tk tkX2_note 8 rfl) rfl ?_
  refine g2_rules (by first | assumption | decide | omega) (tk tkX2_note 9 rfl) fkX2_9 ?_
  refine pw_aload_n (tk tkX2_note 10 rfl) rfl ?_
  refine g2_latest (by first | assumption | decide | omega) (tk tkX2_note 11 rfl) fkX2_28 ?_
  refine pw_iload_n (tk tkX2_note 12 rfl) rfl ?_
  refine as_lr_e (e := (la + 1) % 16) (by first | assumption | decide | omega) (tk tkX2_note 13 rfl) (by rw [cSt_u]; rfl) (by first | decide | omega) ?_
  rw [cSt_u, uC1_uC1]
  refine pw_aload_n (tk tkX2_note 14 rfl) rfl ?_
  refine g2_depths (by first | assumption | decide | omega) (tk tkX2_note 15 rfl) fkX2_15 ?_
  refine pw_aload_n (tk tkX2_note 16 rfl) rfl ?_
  refine g2_latest (by first | assumption | decide | omega) (tk tkX2_note 17 rfl) fkX2_28 ?_
  refine pw_iload_n (tk tkX2_note 18 rfl) rfl ?_
  refine as_ld_e (e := (la + 1) % 16) (by first | assumption | decide | omega) (tk tkX2_note 19 rfl) (by rw [cSt_u]; rfl) (by first | decide | omega) ?_
  rw [cSt_u, uC1_uC1]
  refine pw_aload_n (tk tkX2_note 20 rfl) rfl ?_
  refine pw_aload_n (tk tkX2_note 21 rfl) rfl ?_
  refine g2_size (by first | assumption | decide | omega) (tk tkX2_note 22 rfl) fkX2_24 ?_
  refine pw_iconst (v := 1) (tk tkX2_note 23 rfl) (by decide) ?_
  refine pw_iadd (tk tkX2_note 24 rfl) ?_
  refine pw_bipush (v := 16) (tk tkX2_note 25 rfl) (by decide) ?_
  refine pw_min (tk tkX2_note 26 rfl) mkX2_37 st_min in_Math co_min (by decide) (Nat.le_of_ble_eq_true rfl) ?_
  rw [cSt_u]
  rw [show ∀ f g, sLs (uS5 (uS4 (uS6 (cSt x.1 b) (upd (sLs (cSt x.1 b)) 1 (nI ((la + 1) % 16)))) f) g) 0 = nI l from fun _ _ => h0, mn16 ⟨l, by omega⟩]
  refine p2_size (by first | assumption | decide | omega) (tk tkX2_note 27 rfl) fkX2_24 ?_
  rw [cSt_u, uC1_uC1]
  exact pw_return (tk tkX2_note 28 rfl) rfl (by decide) ⟨rfl, rfl⟩
