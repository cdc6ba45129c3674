/-! ===== THE CONSTRUCTORS ===== -/
/-- two cells that the machine cannot tell apart -/
def cEq : Cel → Cel → Prop
  | .inl x, .inl y => x.1 = y.1 ∧ x.2.1 = y.2.1 ∧ ∀ j, j < x.2.1 → x.2.2 j = y.2.2 j
  | .inr x, .inr y => x.1 = y.1 ∧ ∀ r, vwCl[x.1]? = some r → ∀ j, j < r.2.2 → x.2 j = y.2 j
  | _, _ => False
theorem cEq.rf (c : Cel) : cEq c c := by
  cases c with
  | inl x => exact ⟨rfl, rfl, fun _ _ => rfl⟩
  | inr x => exact ⟨rfl, fun _ _ _ _ => rfl⟩
theorem arrV_to {c : ClassId} {N : Nat} {f g : Nat → Value} (h : ∀ j, j < N → f j = g j) : arrV c N f = arrV c N g := by
  unfold arrV
  rw [show (fun j : Fin N => f j.val) = (fun j : Fin N => g j.val) from funext fun j => h j.val j.isLt]
theorem at_c.eq {G : PG} {a : Nat} {c c' : Cel} {H : Heap} (e : cEq c c') (h : at_c G a c H) : at_c G a c' H := by
  cases c with
  | inl x =>
    cases c' with
    | inl y =>
      obtain ⟨e1, e2, e3⟩ := e
      show H[a]? = some (arrV (G.2.1 y.1) y.2.1 (fun j => cv G (y.2.2 j)))
      rw [← e1, ← e2, ← arrV_to (fun j hj => congrArg (cv G) (e3 j hj))]
      exact h
    | inr y => exact e.elim
  | inr x =>
    cases c' with
    | inl y => exact e.elim
    | inr y =>
      obtain ⟨e1, e3⟩ := e
      obtain ⟨r, h1, h2⟩ := h
      refine ⟨r, by rw [← e1]; exact h1, ?_⟩
      rw [← e1]
      exact h2.to (fun k hk => congrArg (cv G) (e3 r h1 k hk))
theorem pw_weak {M : Mth} {d n pc : Nat} {ls : List (Option Value)} {st : List Value} {h h' : Hp} {Q : Out → Hp → Prop} (hz : h'.1 = none ∨ h'.1 = h.1) (hc : ∀ k c', h'.2 k = some c' → ∃ c, h.2 k = some c ∧ cEq c c') (kk : PW M d n pc ls st h' Q) : PW M d n pc ls st h Q := by
  intro p l e R s m args below meth c G N H locs cells slots lsA C hc9 hs hR hS hl
  refine kk p l e R s m args below meth c G N H locs cells slots lsA C hc9 hs ⟨fun z ez => ?_, hR.2.1, fun k c' hk => ?_, hR.2.2.2⟩ hS hl
  · rcases hz with q | q
    · rw [q] at ez; cases ez
    · rw [q] at ez; exact hR.1 z ez
  · obtain ⟨c, q1, q2⟩ := hc k c' hk
    obtain ⟨q3, q4⟩ := hR.2.2.1 k c q1
    exact ⟨q3, q4.eq q2⟩
theorem cq_o {ci N : Nat} {C : String} {T : u_T} {ty : Nat → FieldType} {fs gs : Nat → Value} (hcl : Cls ci C T N ty) (h : ∀ k, k < N → fs k = gs k) : cEq (.inr (ci, fs)) (.inr (ci, gs)) :=
  ⟨rfl, fun r hr k hk => h k (by have e := hr.symm.trans hcl.1; cases e; exact hk)⟩
theorem cq_a {t : FieldType} {N : Nat} {f g : Nat → Value} (h : ∀ k, k < N → f k = g k) : cEq (.inl (t, N, f)) (.inl (t, N, g)) := ⟨rfl, rfl, h⟩
abbrev FM : Type := Nat → Option Cel
def ud (f : FM) (k : Nat) (c : Cel) : FM := fun j => if j = k then some c else f j
/-- block b is l -/
def hLf (b : Nat) (l f : FM) : FM := fun k => if 16 * b ≤ k ∧ k < 16 * b + 15 then l (k - 16 * b) else f k
theorem hLf_at (b : Nat) (l f : FM) {o : Nat} (ho : o < 15) : hLf b l f (16 * b + o) = l o := by
  unfold hLf
  rw [if_pos ⟨by omega, by omega⟩, Nat.add_sub_cancel_left]
theorem hLf_ud {b : Nat} {l f : FM} {o : Nat} {c : Cel} (ho : o < 15) : ud (hLf b l f) (16 * b + o) c = hLf b (ud l o c) f := by
  funext k
  show (if k = 16 * b + o then some c else hLf b l f k) = (if 16 * b ≤ k ∧ k < 16 * b + 15 then (if k - 16 * b = o then some c else l (k - 16 * b)) else f k)
  by_cases e : 16 * b ≤ k ∧ k < 16 * b + 15
  · rw [if_pos e]
    by_cases e2 : k = 16 * b + o
    · rw [if_pos e2, if_pos (by omega)]
    · rw [if_neg e2, if_neg (by omega)]; exact if_pos e
  · rw [if_neg e, if_neg (by omega)]; exact if_neg e
theorem hLf_ud0 {b : Nat} {l f : FM} {c : Cel} : ud (hLf b l f) (16 * b) c = hLf b (ud l 0 c) f := hLf_ud (o := 0) (by decide)
theorem lyb : ∀ b, b < 10 → ∀ o, o < 15 → lay (16 * b + o) = lay (16 * b) + o := by decide +kernel
theorem v_int (v : Int32) (G : PG) : narrow .int (cv G (.int v)) = cv G (.int v) ∧ fits .int (cv G (.int v)) = true := ⟨rfl, rfl⟩
section PWF
variable {M : Mth} {d n pc z : Nat} {ls : List (Option Value)} {st : List Value} {f : FM} {Q : Out → Hp → Prop}
theorem pF_new {idx ci k N z' : Nat} {C : String} {T : u_T} {ty : Nat → FieldType} (fs : Nat → Value) (hcl : Cls ci C T N ty) (hd : decode (mC M) pc = .ok (.new idx, 3)) (hk : k < 171) (hz : z = lay k) (hz' : z' = z + 1) (hlk : Cond.classLink (mY M).cls idx C ∈ UU) (hins : Cond.instantiable C N ∈ UU) (hini : Cond.initialized C ∈ UU) (hfs : ∀ j, j < N → ∀ G : PG, defaultValue (ty j) = cv G (fs j)) (hn : 1 ≤ n) (hN : N ≤ 1000) (kk : PW M d (n - 1) (pc + 3) ls (.ref k :: st) (some z', ud f k (.inr (ci, fs))) Q) : PW M d n pc ls st (some z, f) Q := by
  subst hz'; subst hz
  exact pw_new hcl hd (by omega) rfl (fun G _ q => q k hk) hlk hins hini hfs hn hN kk
theorem pF_newarray {atype : ArrayType} {t0 k N z' : Nat} {ty : FieldType} {x : Int32} {v0 : Value} (hd : decode (mC M) pc = .ok (.newarray atype, 2)) (hty : newarray.typeOf atype = ty) (ht : tyl[t0]? = some ty) (hra : ∀ (U : State) (cA : ClassId), va_RA U cA ty → U.vm.findClass ("[" ++ ty.toString) = some cA) (hk : k < 171) (hz : z = lay k) (hz' : z' = z + 1) (harr : Cond.arrayClass ty ∈ UU) (hx : ¬ x < 0) (hN : x.toNatClampNeg = N) (hN9 : N ≤ 1000) (hb : N * componentBytes ty ≤ 536870912) (hv0 : ∀ G : PG, defaultValue ty = cv G v0) (hn : 1 ≤ n) (kk : PW M d (n - 1) (pc + 2) ls (.ref k :: st) (some z', ud f k (.inl (ty, N, fun _ => v0))) Q) : PW M d n pc ls (.int x :: st) (some z, f) Q := by
  subst hz'; subst hz
  exact pw_newarray hd hty ht hra (by omega) rfl (fun G _ q => q k hk) harr hx hN hN9 hb hv0 hn kk
theorem pF_anewarray {idx t0 k N z' : Nat} {E : String} {x : Int32} (hd : decode (mC M) pc = .ok (.anewarray idx, 3)) (ht : tyl[t0]? = some (.object E)) (hk : k < 171) (hz : z = lay k) (hz' : z' = z + 1) (hlk : Cond.classLink (mY M).cls idx E ∈ UU) (hover : ∀ (G : PG) (U : State), OW G U → va_AO E U) (hx : ¬ x < 0) (hN : x.toNatClampNeg = N) (hN9 : N ≤ 1000) (hn : 1 ≤ n) (kk : PW M d (n - 1) (pc + 3) ls (.ref k :: st) (some z', ud f k (.inl (.object E, N, fun _ => .null))) Q) : PW M d n pc ls (.int x :: st) (some z, f) Q := by
  subst hz'; subst hz
  exact pw_anewarray hd ht (by omega) rfl (fun G _ q => q k hk) hlk hover hx hN hN9 hn kk
theorem pF_put {idx a ci k N : Nat} {C : String} {T : u_T} {ty : Nat → FieldType} {fs : Nat → Value} {v : Value} (hcl : Cls ci C T N ty) (hd : decode (mC M) pc = .ok (.putfield idx, 3)) (hc : f a = some (.inr (ci, fs))) (hk : k < N) (hlk : Cond.fieldLink (mY M).cls idx (T k).1 (T k).2.1 (T k).2.2.1 ∈ UU) (hfin : (T k).2.2.2 = false) (hv : ∀ G : PG, narrow (ty k) (cv G v) = cv G v ∧ fits (ty k) (cv G v) = true) (kk : PW M d n (pc + 3) ls st (some z, ud f a (.inr (ci, stF fs k v))) Q) : PW M d n pc ls (v :: .ref a :: st) (some z, f) Q :=
  pw_putfield hcl hd hc hk hlk hfin hv kk
theorem pF_putF {idx a ci k N : Nat} {C : String} {T : u_T} {ty : Nat → FieldType} {fs : Nat → Value} {v : Value} (hcl : Cls ci C T N ty) (hd : decode (mC M) pc = .ok (.putfield idx, 3)) (hc : f a = some (.inr (ci, fs))) (hk : k < N) (hlk : Cond.fieldLink (mY M).cls idx (T k).1 (T k).2.1 (T k).2.2.1 ∈ UU) (hfin : (T k).2.2.2 = true) (hin : (mY M).name = "<init>") (hdecl : (T k).1 = (mY M).cls) (hv : ∀ G : PG, narrow (ty k) (cv G v) = cv G v ∧ fits (ty k) (cv G v) = true) (kk : PW M d n (pc + 3) ls st (some z, ud f a (.inr (ci, stF fs k v))) Q) : PW M d n pc ls (v :: .ref a :: st) (some z, f) Q :=
  pw_putfinal hcl hd hc hk hlk hfin hin hdecl hv kk
theorem pF_get {idx a ci k N : Nat} {C : String} {T : u_T} {ty : Nat → FieldType} {fs : Nat → Value} {v : Value} (hcl : Cls ci C T N ty) (hd : decode (mC M) pc = .ok (.getfield idx, 3)) (hc : f a = some (.inr (ci, fs))) (hk : k < N) (hlk : Cond.fieldLink (mY M).cls idx (T k).1 (T k).2.1 (T k).2.2.1 ∈ UU) (hv : fs k = v) (kk : PW M d n (pc + 3) ls (v :: st) (some z, f) Q) : PW M d n pc ls (.ref a :: st) (some z, f) Q := by
  subst hv
  exact pw_getfield (h := (some z, f)) hcl hd hc hk hlk kk
theorem pF_aast {a n0 t0 b ci j : Nat} {E : String} {g fs : Nat → Value} {T : u_T} {N1 : Nat} {i : Int32} (hd : decode (mC M) pc = .ok (.aastore, 1)) (hc : f a = some (.inl (.object E, n0, g))) (ht : tyl[t0]? = some (.object E)) (hb : f b = some (.inr (ci, fs))) (hcl : vwCl[ci]? = some (E, T, N1)) (hin : vp_in i n0) (hj : i.toNatClampNeg = j) (kk : PW M d n (pc + 1) ls st (some z, ud f a (.inl (.object E, n0, stF g j (.ref b)))) Q) : PW M d n pc ls (.ref b :: .int i :: .ref a :: st) (some z, f) Q := by
  subst hj
  exact pw_aast (h := (some z, f)) hd hc ht hb hcl hin kk
theorem pF_iast {a n0 j : Nat} {g : Nat → Value} {i : Int32} {x : Int32} (hd : decode (mC M) pc = .ok (.iastore, 1)) (hc : f a = some (.inl (.int, n0, g))) (hin : vp_in i n0) (hj : i.toNatClampNeg = j) (kk : PW M d n (pc + 1) ls st (some z, ud f a (.inl (.int, n0, stF g j (.int x)))) Q) : PW M d n pc ls (.int x :: .int i :: .ref a :: st) (some z, f) Q := by
  subst hj
  exact pw_iast (h := (some z, f)) hd hc hin kk
end PWF
theorem ov_R (G : PG) (U : State) (h : OW G U) : va_AO "RowTriggers$Rule" U := h.2.2.2.2.2.1
theorem ov_S (G : PG) (U : State) (h : OW G U) : va_AO "RowTriggers$State" U := h.2.2.2.2.2.2
theorem ra_int : ∀ (U : State) (cA : ClassId), va_RA U cA .int → U.vm.findClass ("[" ++ FieldType.int.toString) = some cA := fun _ _ q => q
theorem ra_boolean : ∀ (U : State) (cA : ClassId), va_RA U cA .boolean → U.vm.findClass ("[" ++ FieldType.boolean.toString) = some cA := fun _ _ q => q
theorem ra_char : ∀ (U : State) (cA : ClassId), va_RA U cA .char → U.vm.findClass ("[" ++ FieldType.char.toString) = some cA := fun _ _ q => q
theorem ra_long : ∀ (U : State) (cA : ClassId), va_RA U cA .long → U.vm.findClass ("[" ++ FieldType.long.toString) = some cA := fun _ _ q => q
/-- the state of the start -/
def σ0 : SS := (fun _ => 0, fun _ => 0, fun _ _ => 0, fun _ => 0, fun _ => 0, fun _ => 0, fun k => if k = 1 then 3 else 0)
def blk (b : Nat) (f : FM) : FM := hLf b (fun o => stc b o σ0) f
def dF0 : Nat → Value := fun _ => .null
theorem dF0_ok : ∀ j, j < 1 → ∀ G : PG, defaultValue (tyX0 j) = cv G (dF0 j) := fun j hj G => match j, hj with
  | 0, _ => rfl
  | k + 1, h => absurd h (by omega)
def dF1 : Nat → Value := fun k => if k = 0 then .null else .int 0
theorem dF1_ok : ∀ j, j < 3 → ∀ G : PG, defaultValue (tyX1 j) = cv G (dF1 j) := fun j hj G => match j, hj with
  | 0, _ => rfl
  | 1, _ => rfl
  | 2, _ => rfl
  | k + 3, h => absurd h (by omega)
def dF2 : Nat → Value := fun k => if k = 0 then .null else if k = 1 then .null else .int 0
theorem dF2_ok : ∀ j, j < 4 → ∀ G : PG, defaultValue (tyX2 j) = cv G (dF2 j) := fun j hj G => match j, hj with
  | 0, _ => rfl
  | 1, _ => rfl
  | 2, _ => rfl
  | 3, _ => rfl
  | k + 4, h => absurd h (by omega)
def dF3 : Nat → Value := fun _ => .int 0
theorem dF3_ok : ∀ j, j < 9 → ∀ G : PG, defaultValue (tyX3 j) = cv G (dF3 j) := fun j hj G => match j, hj with
  | 0, _ => rfl
  | 1, _ => rfl
  | 2, _ => rfl
  | 3, _ => rfl
  | 4, _ => rfl
  | 5, _ => rfl
  | 6, _ => rfl
  | 7, _ => rfl
  | 8, _ => rfl
  | k + 9, h => absurd h (by omega)
def dF4 : Nat → Value := fun k => if k = 0 then .null else if k = 1 then .null else if k = 2 then .null else if k = 3 then .null else .int 0
theorem dF4_ok : ∀ j, j < 7 → ∀ G : PG, defaultValue (tyX4 j) = cv G (dF4 j) := fun j hj G => match j, hj with
  | 0, _ => rfl
  | 1, _ => rfl
  | 2, _ => rfl
  | 3, _ => rfl
  | 4, _ => rfl
  | 5, _ => rfl
  | 6, _ => rfl
  | k + 7, h => absurd h (by omega)
def dF5 : Nat → Value := fun k => if k = 0 then .null else .int 0
theorem dF5_ok : ∀ j, j < 4 → ∀ G : PG, defaultValue (tyX5 j) = cv G (dF5 j) := fun j hj G => match j, hj with
  | 0, _ => rfl
  | 1, _ => rfl
  | 2, _ => rfl
  | 3, _ => rfl
  | k + 4, h => absurd h (by omega)
def dF6 : Nat → Value := fun k => if k = 0 then .null else if k = 4 then .null else .int 0
theorem dF6_ok : ∀ j, j < 5 → ∀ G : PG, defaultValue (tyX6 j) = cv G (dF6 j) := fun j hj G => match j, hj with
  | 0, _ => rfl
  | 1, _ => rfl
  | 2, _ => rfl
  | 3, _ => rfl
  | 4, _ => rfl
  | k + 5, h => absurd h (by omega)
def dF7 : Nat → Value := fun _ => .null
theorem dF7_ok : ∀ j, j < 7 → ∀ G : PG, defaultValue (tyX7 j) = cv G (dF7 j) := fun j hj G => match j, hj with
  | 0, _ => rfl
  | 1, _ => rfl
  | 2, _ => rfl
  | 3, _ => rfl
  | 4, _ => rfl
  | 5, _ => rfl
  | 6, _ => rfl
  | k + 7, h => absurd h (by omega)
set_option maxRecDepth 100000 in
set_option maxHeartbeats 4000000 in
theorem ct_X3_init (k : Nat) (h : Hp) : CT MX3_init 1 0 [.ref k] h (Det (.inl none) h) := by
  refine ct_of (by decide +kernel) (by decide) rfl (k := 0) (ls := [some (.ref k)]) rfl (Nat.le_of_ble_eq_true rfl) ?_
  refine pw_aload_n (tk tkX3_init 0 rfl) rfl ?_
  refine pw_objInit (tk tkX3_init 1 rfl) mkX3_3 okObj coObj (by decide) (Nat.le_of_ble_eq_true rfl) ?_
  exact pw_return (tk tkX3_init 2 rfl) rfl (by decide) ⟨rfl, rfl⟩
set_option maxRecDepth 100000 in
set_option maxHeartbeats 4000000 in
theorem ct_X2_init (b : Nat) (hb : b < 10) (l f : FM) (hl : l 4 = some (.inr (2, dF2))) : CT MX2_init 1 2 [.ref (16 * b + 4)] (some (lay (16 * b) + 5), hLf b l f) (Det (.inl none) (some (lay (16 * b) + 7), hLf b (ud (ud (ud (ud l 5 (.inl (.int, 16, fun _ => .int 0))) 4 (.inr (2, (stF dF2 0 (.ref (16 * b + 5)))))) 6 (.inl (.int, 16, fun _ => .int 0))) 4 (.inr (2, (stF (stF dF2 0 (.ref (16 * b + 5))) 1 (.ref (16 * b + 6)))))) f)) := by
  refine ct_of (by decide +kernel) (by decide) rfl (k := 0) (ls := [some (.ref (16 * b + 4))]) rfl (Nat.le_of_ble_eq_true rfl) ?_
  refine pw_aload_n (tk tkX2_init 0 rfl) rfl ?_
  refine pw_objInit (tk tkX2_init 1 rfl) mkX2_3 okObj coObj (by decide) (Nat.le_of_ble_eq_true rfl) ?_
  refine pw_aload_n (tk tkX2_init 2 rfl) rfl ?_
  refine pw_bipush (v := 16) (tk tkX2_init 3 rfl) (by decide) ?_
  refine pF_newarray (t0 := 0) (k := (16 * b + 5)) (z' := (lay (16 * b) + 6)) (N := 16) (v0 := .int 0) (tk tkX2_init 4 rfl) rfl rfl ra_int (by omega) (lyb b hb 5 (by decide)).symm rfl ac_int (by decide) (by decide) (by decide) (by decide) (fun _ => rfl) (by decide) ?_
  rw [hLf_ud (o := 5) (by decide)]
  refine pF_putF (k := 0) clX2 (tk tkX2_init 5 rfl) (hLf_at b _ f (o := 4) (by decide) |>.trans hl) (by decide) fkX2_9 rfl rfl rfl (fun _ => ⟨rfl, rfl⟩) ?_
  rw [hLf_ud (o := 4) (by decide)]
  refine pw_aload_n (tk tkX2_init 6 rfl) rfl ?_
  refine pw_bipush (v := 16) (tk tkX2_init 7 rfl) (by decide) ?_
  refine pF_newarray (t0 := 0) (k := (16 * b + 6)) (z' := (lay (16 * b) + 7)) (N := 16) (v0 := .int 0) (tk tkX2_init 8 rfl) rfl rfl ra_int (by omega) (lyb b hb 6 (by decide)).symm rfl ac_int (by decide) (by decide) (by decide) (by decide) (fun _ => rfl) (by decide) ?_
  rw [hLf_ud (o := 6) (by decide)]
  refine pF_putF (k := 1) clX2 (tk tkX2_init 9 rfl) (hLf_at b _ f (o := 4) (by decide)) (by decide) fkX2_15 rfl rfl rfl (fun _ => ⟨rfl, rfl⟩) ?_
  rw [hLf_ud (o := 4) (by decide)]
  exact pw_return (tk tkX2_init 10 rfl) rfl (by decide) ⟨rfl, rfl⟩
theorem blk_weak {b : Nat} {l l' f : FM} (h : ∀ o, o < 15 → ∃ c c', l o = some c ∧ l' o = some c' ∧ cEq c c') {k : Nat} {c' : Cel} (hk : hLf b l' f k = some c') : ∃ c, hLf b l f k = some c ∧ cEq c c' := by
  unfold hLf at hk ⊢
  by_cases e : 16 * b ≤ k ∧ k < 16 * b + 15
  · rw [if_pos e] at hk ⊢
    obtain ⟨c, c9, h1, h2, h3⟩ := h (k - 16 * b) (by omega)
    rw [h2] at hk
    cases hk
    exact ⟨c, h1, h3⟩
  · rw [if_neg e] at hk ⊢
    exact ⟨c', hk, cEq.rf c'⟩
theorem st_in {b : Nat} {f : FM} {c0 : Cel} {k : Nat} {c' : Cel} (hk : hLf b (ud (fun _ => none) 0 c0) f k = some c') : ∃ c, ud f (16 * b) c0 k = some c ∧ cEq c c' := by
  unfold hLf at hk
  by_cases e : 16 * b ≤ k ∧ k < 16 * b + 15
  · rw [if_pos e] at hk
    unfold ud at hk ⊢
    by_cases e2 : k = 16 * b
    · rw [if_pos (show k - 16 * b = 0 by omega)] at hk
      rw [if_pos e2]
      cases hk
      exact ⟨_, rfl, cEq.rf _⟩
    · rw [if_neg (show ¬ k - 16 * b = 0 by omega)] at hk
      cases hk
  · rw [if_neg e] at hk
    unfold ud
    rw [if_neg (show ¬ k = 16 * b by omega)]
    exact ⟨c', hk, cEq.rf c'⟩
set_option maxRecDepth 100000 in
set_option maxHeartbeats 4000000 in
theorem ct_X4_init (b : Nat) (hb : b < 10) (f : FM) (z : Nat) (hz : z = lay (16 * b) + 1) : CT MX4_init 2 14 [.ref (16 * b)] (some z, ud f (16 * b) (.inr (4, dF4))) (Det (.inl none) (some (z + 14), blk b f)) := by
  subst hz
  refine ct_of (by decide +kernel) (by decide) rfl (k := 1) (ls := [some (.ref (16 * b)), none]) rfl (Nat.le_of_ble_eq_true rfl) ?_
  refine pw_weak (h' := (some (lay (16 * b) + 1), hLf b (ud (fun _ => none) 0 (.inr (4, dF4))) f)) (Or.inr rfl) (fun k c' hk => st_in hk) ?_
  refine pw_aload_n (tk tkX4_init 0 rfl) rfl ?_
  refine pw_objInit (tk tkX4_init 1 rfl) mkX4_3 okObj coObj (by decide) (Nat.le_of_ble_eq_true rfl) ?_
  refine pw_aload_n (tk tkX4_init 2 rfl) rfl ?_
  refine pw_bipush (v := 6) (tk tkX4_init 3 rfl) (by decide) ?_
  refine pF_newarray (t0 := 1) (k := (16 * b + 1)) (z' := (lay (16 * b) + 2)) (N := 6) (v0 := .int 0) (tk tkX4_init 4 rfl) rfl rfl ra_boolean (by omega) (lyb b hb 1 (by decide)).symm rfl ac_boolean (by decide) (by decide) (by decide) (by decide) (fun _ => rfl) (by decide) ?_
  rw [hLf_ud (o := 1) (by decide)]
  refine pF_putF (k := 0) clX4 (tk tkX4_init 5 rfl) (hLf_at b _ f (o := 0) (by decide)) (by decide) fkX4_9 rfl rfl rfl (fun _ => ⟨rfl, rfl⟩) ?_
  rw [hLf_ud0]
  refine pw_aload_n (tk tkX4_init 6 rfl) rfl ?_
  refine pw_bipush (v := 18) (tk tkX4_init 7 rfl) (by decide) ?_
  refine pF_newarray (t0 := 0) (k := (16 * b + 2)) (z' := (lay (16 * b) + 3)) (N := 18) (v0 := .int 0) (tk tkX4_init 8 rfl) rfl rfl ra_int (by omega) (lyb b hb 2 (by decide)).symm rfl ac_int (by decide) (by decide) (by decide) (by decide) (fun _ => rfl) (by decide) ?_
  rw [hLf_ud (o := 2) (by decide)]
  refine pF_putF (k := 1) clX4 (tk tkX4_init 9 rfl) (hLf_at b _ f (o := 0) (by decide)) (by decide) fkX4_15 rfl rfl rfl (fun _ => ⟨rfl, rfl⟩) ?_
  rw [hLf_ud0]
  refine pw_aload_n (tk tkX4_init 10 rfl) rfl ?_
  refine pw_bipush (v := 8) (tk tkX4_init 11 rfl) (by decide) ?_
  refine pF_anewarray (t0 := 4) (k := (16 * b + 3)) (z' := (lay (16 * b) + 4)) (N := 8) (tk tkX4_init 12 rfl) rfl (by omega) (lyb b hb 3 (by decide)).symm rfl ckX4_19 ov_R (by decide) (by decide) (by decide) (by decide) ?_
  rw [hLf_ud (o := 3) (by decide)]
  refine pF_putF (k := 2) clX4 (tk tkX4_init 13 rfl) (hLf_at b _ f (o := 0) (by decide)) (by decide) fkX4_21 rfl rfl rfl (fun _ => ⟨rfl, rfl⟩) ?_
  rw [hLf_ud0]
  refine pw_aload_n (tk tkX4_init 14 rfl) rfl ?_
  refine pF_new (k := (16 * b + 4)) (z' := (lay (16 * b) + 5)) dF2 clX2 (tk tkX4_init 15 rfl) (by omega) (lyb b hb 4 (by decide)).symm rfl ckX4_25 itX2 iiX2 dF2_ok (by decide) (by decide) ?_
  rw [hLf_ud (o := 4) (by decide)]
  refine pw_dup (tk tkX4_init 16 rfl) rfl ?_
  refine pw_cIN0 (ct_X2_init b hb _ f rfl) rfl okX2_init rfl rfl (tk tkX4_init 17 rfl) mkX4_27 imX2_init rfl rfl (by decide) (by decide) (Nat.le_of_ble_eq_true rfl) ?_
  refine pF_putF (k := 3) clX4 (tk tkX4_init 18 rfl) (hLf_at b _ f (o := 0) (by decide)) (by decide) fkX4_28 rfl rfl rfl (fun _ => ⟨rfl, rfl⟩) ?_
  rw [hLf_ud0]
  refine pw_aload_n (tk tkX4_init 19 rfl) rfl ?_
  refine pw_iconst (v := 3) (tk tkX4_init 20 rfl) (by decide) ?_
  refine pF_put (k := 5) clX4 (tk tkX4_init 21 rfl) (hLf_at b _ f (o := 0) (by decide)) (by decide) fkX4_32 rfl (fun _ => ⟨rfl, rfl⟩) ?_
  rw [hLf_ud0]
  refine pw_iconst (v := 0) (tk tkX4_init 22 rfl) (by decide) ?_
  refine pw_ist1 (tk tkX4_init 23 rfl) rfl (by decide) ?_
  refine pw_iload_n (tk tkX4_init 24 rfl) rfl ?_
  refine pw_bipush (v := 8) (tk tkX4_init 25 rfl) (by decide) ?_
  refine pw_icmp_ge (tgt := 72) (tk tkX4_init 26 rfl) (by decide) (fun c => absurd c (by decide)) (fun _ => ?_)
  refine pw_aload_n (tk tkX4_init 27 rfl) rfl ?_
  refine pF_get (k := 2) (v := .ref (16 * b + 3)) clX4 (tk tkX4_init 28 rfl) (hLf_at b _ f (o := 0) (by decide)) (by decide) fkX4_21 rfl ?_
  refine pw_iload_n (tk tkX4_init 29 rfl) rfl ?_
  refine pF_new (k := (16 * b + 7)) (z' := (lay (16 * b) + 8)) dF3 clX3 (tk tkX4_init 30 rfl) (by omega) (lyb b hb 7 (by decide)).symm rfl ckX4_19 itX3 iiX3 dF3_ok (by decide) (by decide) ?_
  rw [hLf_ud (o := 7) (by decide)]
  refine pw_dup (tk tkX4_init 31 rfl) rfl ?_
  refine pw_cIN0 (ct_X3_init (16 * b + 7) _) rfl okX3_init rfl rfl (tk tkX4_init 32 rfl) mkX4_36 imX3_init rfl rfl (by decide) (by decide) (Nat.le_of_ble_eq_true rfl) ?_
  refine pF_aast (t0 := 4) (j := 0) (tk tkX4_init 33 rfl) (hLf_at b _ f (o := 3) (by decide)) rfl (hLf_at b _ f (o := 7) (by decide)) rfl (by unfold vp_in; decide) (by decide) ?_
  rw [hLf_ud (o := 3) (by decide)]
  refine pw_inc1 (tk tkX4_init 34 rfl) rfl (by decide) (show (0 : Int32) + Int32.ofInt (1) = 1 from by decide) ?_
  refine pw_goto (tgt := 47) (tk tkX4_init 35 rfl) (by decide) ?_
  refine pw_iload_n (tk tkX4_init 24 rfl) rfl ?_
  refine pw_bipush (v := 8) (tk tkX4_init 25 rfl) (by decide) ?_
  refine pw_icmp_ge (tgt := 72) (tk tkX4_init 26 rfl) (by decide) (fun c => absurd c (by decide)) (fun _ => ?_)
  refine pw_aload_n (tk tkX4_init 27 rfl) rfl ?_
  refine pF_get (k := 2) (v := .ref (16 * b + 3)) clX4 (tk tkX4_init 28 rfl) (hLf_at b _ f (o := 0) (by decide)) (by decide) fkX4_21 rfl ?_
  refine pw_iload_n (tk tkX4_init 29 rfl) rfl ?_
  refine pF_new (k := (16 * b + 8)) (z' := (lay (16 * b) + 9)) dF3 clX3 (tk tkX4_init 30 rfl) (by omega) (lyb b hb 8 (by decide)).symm rfl ckX4_19 itX3 iiX3 dF3_ok (by decide) (by decide) ?_
  rw [hLf_ud (o := 8) (by decide)]
  refine pw_dup (tk tkX4_init 31 rfl) rfl ?_
  refine pw_cIN0 (ct_X3_init (16 * b + 8) _) rfl okX3_init rfl rfl (tk tkX4_init 32 rfl) mkX4_36 imX3_init rfl rfl (by decide) (by decide) (Nat.le_of_ble_eq_true rfl) ?_
  refine pF_aast (t0 := 4) (j := 1) (tk tkX4_init 33 rfl) (hLf_at b _ f (o := 3) (by decide)) rfl (hLf_at b _ f (o := 8) (by decide)) rfl (by unfold vp_in; decide) (by decide) ?_
  rw [hLf_ud (o := 3) (by decide)]
  refine pw_inc1 (tk tkX4_init 34 rfl) rfl (by decide) (show (1 : Int32) + Int32.ofInt (1) = 2 from by decide) ?_
  refine pw_goto (tgt := 47) (tk tkX4_init 35 rfl) (by decide) ?_
  refine pw_iload_n (tk tkX4_init 24 rfl) rfl ?_
  refine pw_bipush (v := 8) (tk tkX4_init 25 rfl) (by decide) ?_
  refine pw_icmp_ge (tgt := 72) (tk tkX4_init 26 rfl) (by decide) (fun c => absurd c (by decide)) (fun _ => ?_)
  refine pw_aload_n (tk tkX4_init 27 rfl) rfl ?_
  refine pF_get (k := 2) (v := .ref (16 * b + 3)) clX4 (tk tkX4_init 28 rfl) (hLf_at b _ f (o := 0) (by decide)) (by decide) fkX4_21 rfl ?_
  refine pw_iload_n (tk tkX4_init 29 rfl) rfl ?_
  refine pF_new (k := (16 * b + 9)) (z' := (lay (16 * b) + 10)) dF3 clX3 (tk tkX4_init 30 rfl) (by omega) (lyb b hb 9 (by decide)).symm rfl ckX4_19 itX3 iiX3 dF3_ok (by decide) (by decide) ?_
  rw [hLf_ud (o := 9) (by decide)]
  refine pw_dup (tk tkX4_init 31 rfl) rfl ?_
  refine pw_cIN0 (ct_X3_init (16 * b + 9) _) rfl okX3_init rfl rfl (tk tkX4_init 32 rfl) mkX4_36 imX3_init rfl rfl (by decide) (by decide) (Nat.le_of_ble_eq_true rfl) ?_
  refine pF_aast (t0 := 4) (j := 2) (tk tkX4_init 33 rfl) (hLf_at b _ f (o := 3) (by decide)) rfl (hLf_at b _ f (o := 9) (by decide)) rfl (by unfold vp_in; decide) (by decide) ?_
  rw [hLf_ud (o := 3) (by decide)]
  refine pw_inc1 (tk tkX4_init 34 rfl) rfl (by decide) (show (2 : Int32) + Int32.ofInt (1) = 3 from by decide) ?_
  refine pw_goto (tgt := 47) (tk tkX4_init 35 rfl) (by decide) ?_
  refine pw_iload_n (tk tkX4_init 24 rfl) rfl ?_
  refine pw_bipush (v := 8) (tk tkX4_init 25 rfl) (by decide) ?_
  refine pw_icmp_ge (tgt := 72) (tk tkX4_init 26 rfl) (by decide) (fun c => absurd c (by decide)) (fun _ => ?_)
  refine pw_aload_n (tk tkX4_init 27 rfl) rfl ?_
  refine pF_get (k := 2) (v := .ref (16 * b + 3)) clX4 (tk tkX4_init 28 rfl) (hLf_at b _ f (o := 0) (by decide)) (by decide) fkX4_21 rfl ?_
  refine pw_iload_n (tk tkX4_init 29 rfl) rfl ?_
  refine pF_new (k := (16 * b + 10)) (z' := (lay (16 * b) + 11)) dF3 clX3 (tk tkX4_init 30 rfl) (by omega) (lyb b hb 10 (by decide)).symm rfl ckX4_19 itX3 iiX3 dF3_ok (by decide) (by decide) ?_
  rw [hLf_ud (o := 10) (by decide)]
  refine pw_dup (tk tkX4_init 31 rfl) rfl ?_
  refine pw_cIN0 (ct_X3_init (16 * b + 10) _) rfl okX3_init rfl rfl (tk tkX4_init 32 rfl) mkX4_36 imX3_init rfl rfl (by decide) (by decide) (Nat.le_of_ble_eq_true rfl) ?_
  refine pF_aast (t0 := 4) (j := 3) (tk tkX4_init 33 rfl) (hLf_at b _ f (o := 3) (by decide)) rfl (hLf_at b _ f (o := 10) (by decide)) rfl (by unfold vp_in; decide) (by decide) ?_
  rw [hLf_ud (o := 3) (by decide)]
  refine pw_inc1 (tk tkX4_init 34 rfl) rfl (by decide) (show (3 : Int32) + Int32.ofInt (1) = 4 from by decide) ?_
  refine pw_goto (tgt := 47) (tk tkX4_init 35 rfl) (by decide) ?_
  refine pw_iload_n (tk tkX4_init 24 rfl) rfl ?_
  refine pw_bipush (v := 8) (tk tkX4_init 25 rfl) (by decide) ?_
  refine pw_icmp_ge (tgt := 72) (tk tkX4_init 26 rfl) (by decide) (fun c => absurd c (by decide)) (fun _ => ?_)
  refine pw_aload_n (tk tkX4_init 27 rfl) rfl ?_
  refine pF_get (k := 2) (v := .ref (16 * b + 3)) clX4 (tk tkX4_init 28 rfl) (hLf_at b _ f (o := 0) (by decide)) (by decide) fkX4_21 rfl ?_
  refine pw_iload_n (tk tkX4_init 29 rfl) rfl ?_
  refine pF_new (k := (16 * b + 11)) (z' := (lay (16 * b) + 12)) dF3 clX3 (tk tkX4_init 30 rfl) (by omega) (lyb b hb 11 (by decide)).symm rfl ckX4_19 itX3 iiX3 dF3_ok (by decide) (by decide) ?_
  rw [hLf_ud (o := 11) (by decide)]
  refine pw_dup (tk tkX4_init 31 rfl) rfl ?_
  refine pw_cIN0 (ct_X3_init (16 * b + 11) _) rfl okX3_init rfl rfl (tk tkX4_init 32 rfl) mkX4_36 imX3_init rfl rfl (by decide) (by decide) (Nat.le_of_ble_eq_true rfl) ?_
  refine pF_aast (t0 := 4) (j := 4) (tk tkX4_init 33 rfl) (hLf_at b _ f (o := 3) (by decide)) rfl (hLf_at b _ f (o := 11) (by decide)) rfl (by unfold vp_in; decide) (by decide) ?_
  rw [hLf_ud (o := 3) (by decide)]
  refine pw_inc1 (tk tkX4_init 34 rfl) rfl (by decide) (show (4 : Int32) + Int32.ofInt (1) = 5 from by decide) ?_
  refine pw_goto (tgt := 47) (tk tkX4_init 35 rfl) (by decide) ?_
  refine pw_iload_n (tk tkX4_init 24 rfl) rfl ?_
  refine pw_bipush (v := 8) (tk tkX4_init 25 rfl) (by decide) ?_
  refine pw_icmp_ge (tgt := 72) (tk tkX4_init 26 rfl) (by decide) (fun c => absurd c (by decide)) (fun _ => ?_)
  refine pw_aload_n (tk tkX4_init 27 rfl) rfl ?_
  refine pF_get (k := 2) (v := .ref (16 * b + 3)) clX4 (tk tkX4_init 28 rfl) (hLf_at b _ f (o := 0) (by decide)) (by decide) fkX4_21 rfl ?_
  refine pw_iload_n (tk tkX4_init 29 rfl) rfl ?_
  refine pF_new (k := (16 * b + 12)) (z' := (lay (16 * b) + 13)) dF3 clX3 (tk tkX4_init 30 rfl) (by omega) (lyb b hb 12 (by decide)).symm rfl ckX4_19 itX3 iiX3 dF3_ok (by decide) (by decide) ?_
  rw [hLf_ud (o := 12) (by decide)]
  refine pw_dup (tk tkX4_init 31 rfl) rfl ?_
  refine pw_cIN0 (ct_X3_init (16 * b + 12) _) rfl okX3_init rfl rfl (tk tkX4_init 32 rfl) mkX4_36 imX3_init rfl rfl (by decide) (by decide) (Nat.le_of_ble_eq_true rfl) ?_
  refine pF_aast (t0 := 4) (j := 5) (tk tkX4_init 33 rfl) (hLf_at b _ f (o := 3) (by decide)) rfl (hLf_at b _ f (o := 12) (by decide)) rfl (by unfold vp_in; decide) (by decide) ?_
  rw [hLf_ud (o := 3) (by decide)]
  refine pw_inc1 (tk tkX4_init 34 rfl) rfl (by decide) (show (5 : Int32) + Int32.ofInt (1) = 6 from by decide) ?_
  refine pw_goto (tgt := 47) (tk tkX4_init 35 rfl) (by decide) ?_
  refine pw_iload_n (tk tkX4_init 24 rfl) rfl ?_
  refine pw_bipush (v := 8) (tk tkX4_init 25 rfl) (by decide) ?_
  refine pw_icmp_ge (tgt := 72) (tk tkX4_init 26 rfl) (by decide) (fun c => absurd c (by decide)) (fun _ => ?_)
  refine pw_aload_n (tk tkX4_init 27 rfl) rfl ?_
  refine pF_get (k := 2) (v := .ref (16 * b + 3)) clX4 (tk tkX4_init 28 rfl) (hLf_at b _ f (o := 0) (by decide)) (by decide) fkX4_21 rfl ?_
  refine pw_iload_n (tk tkX4_init 29 rfl) rfl ?_
  refine pF_new (k := (16 * b + 13)) (z' := (lay (16 * b) + 14)) dF3 clX3 (tk tkX4_init 30 rfl) (by omega) (lyb b hb 13 (by decide)).symm rfl ckX4_19 itX3 iiX3 dF3_ok (by decide) (by decide) ?_
  rw [hLf_ud (o := 13) (by decide)]
  refine pw_dup (tk tkX4_init 31 rfl) rfl ?_
  refine pw_cIN0 (ct_X3_init (16 * b + 13) _) rfl okX3_init rfl rfl (tk tkX4_init 32 rfl) mkX4_36 imX3_init rfl rfl (by decide) (by decide) (Nat.le_of_ble_eq_true rfl) ?_
  refine pF_aast (t0 := 4) (j := 6) (tk tkX4_init 33 rfl) (hLf_at b _ f (o := 3) (by decide)) rfl (hLf_at b _ f (o := 13) (by decide)) rfl (by unfold vp_in; decide) (by decide) ?_
  rw [hLf_ud (o := 3) (by decide)]
  refine pw_inc1 (tk tkX4_init 34 rfl) rfl (by decide) (show (6 : Int32) + Int32.ofInt (1) = 7 from by decide) ?_
  refine pw_goto (tgt := 47) (tk tkX4_init 35 rfl) (by decide) ?_
  refine pw_iload_n (tk tkX4_init 24 rfl) rfl ?_
  refine pw_bipush (v := 8) (tk tkX4_init 25 rfl) (by decide) ?_
  refine pw_icmp_ge (tgt := 72) (tk tkX4_init 26 rfl) (by decide) (fun c => absurd c (by decide)) (fun _ => ?_)
  refine pw_aload_n (tk tkX4_init 27 rfl) rfl ?_
  refine pF_get (k := 2) (v := .ref (16 * b + 3)) clX4 (tk tkX4_init 28 rfl) (hLf_at b _ f (o := 0) (by decide)) (by decide) fkX4_21 rfl ?_
  refine pw_iload_n (tk tkX4_init 29 rfl) rfl ?_
  refine pF_new (k := (16 * b + 14)) (z' := (lay (16 * b) + 15)) dF3 clX3 (tk tkX4_init 30 rfl) (by omega) (lyb b hb 14 (by decide)).symm rfl ckX4_19 itX3 iiX3 dF3_ok (by decide) (by decide) ?_
  rw [hLf_ud (o := 14) (by decide)]
  refine pw_dup (tk tkX4_init 31 rfl) rfl ?_
  refine pw_cIN0 (ct_X3_init (16 * b + 14) _) rfl okX3_init rfl rfl (tk tkX4_init 32 rfl) mkX4_36 imX3_init rfl rfl (by decide) (by decide) (Nat.le_of_ble_eq_true rfl) ?_
  refine pF_aast (t0 := 4) (j := 7) (tk tkX4_init 33 rfl) (hLf_at b _ f (o := 3) (by decide)) rfl (hLf_at b _ f (o := 14) (by decide)) rfl (by unfold vp_in; decide) (by decide) ?_
  rw [hLf_ud (o := 3) (by decide)]
  refine pw_inc1 (tk tkX4_init 34 rfl) rfl (by decide) (show (7 : Int32) + Int32.ofInt (1) = 8 from by decide) ?_
  refine pw_goto (tgt := 47) (tk tkX4_init 35 rfl) (by decide) ?_
  refine pw_iload_n (tk tkX4_init 24 rfl) rfl ?_
  refine pw_bipush (v := 8) (tk tkX4_init 25 rfl) (by decide) ?_
  refine pw_icmp_ge (tgt := 72) (tk tkX4_init 26 rfl) (by decide) (fun _ => ?_) (fun c => absurd (show (8 : Int32) ≥ 8 by decide) c)
  refine pw_weak (h' := (some (lay (16 * b) + 15), hLf b (fun o => stc b o σ0) f)) (Or.inr rfl) (fun k c' hk => ?_) ?_
  · exact blk_weak (l' := fun o => stc b o σ0) (f := f) (fun o ho => match o, ho with
      | 0, _ => ⟨_, _, rfl, rfl, cq_o clX4 (fun k hk => match k, hk with
        | 0, _ => rfl
        | 1, _ => rfl
        | 2, _ => rfl
        | 3, _ => rfl
        | 4, _ => rfl
        | 5, _ => rfl
        | 6, _ => rfl
        | k + 7, h => absurd h (by omega))⟩
      | 1, _ => ⟨_, _, rfl, rfl, cq_a (fun _ _ => rfl)⟩
      | 2, _ => ⟨_, _, rfl, rfl, cq_a (fun _ _ => rfl)⟩
      | 3, _ => ⟨_, _, rfl, rfl, cq_a (fun k hk => match k, hk with
        | 0, _ => rfl
        | 1, _ => rfl
        | 2, _ => rfl
        | 3, _ => rfl
        | 4, _ => rfl
        | 5, _ => rfl
        | 6, _ => rfl
        | 7, _ => rfl
        | k + 8, h => absurd h (by omega))⟩
      | 4, _ => ⟨_, _, rfl, rfl, cq_o clX2 (fun k hk => match k, hk with
        | 0, _ => rfl
        | 1, _ => rfl
        | 2, _ => rfl
        | 3, _ => rfl
        | k + 4, h => absurd h (by omega))⟩
      | 5, _ => ⟨_, _, rfl, rfl, cq_a (fun _ _ => rfl)⟩
      | 6, _ => ⟨_, _, rfl, rfl, cq_a (fun _ _ => rfl)⟩
      | 7, _ => ⟨_, _, rfl, rfl, cq_o clX3 (fun _ _ => rfl)⟩
      | 8, _ => ⟨_, _, rfl, rfl, cq_o clX3 (fun _ _ => rfl)⟩
      | 9, _ => ⟨_, _, rfl, rfl, cq_o clX3 (fun _ _ => rfl)⟩
      | 10, _ => ⟨_, _, rfl, rfl, cq_o clX3 (fun _ _ => rfl)⟩
      | 11, _ => ⟨_, _, rfl, rfl, cq_o clX3 (fun _ _ => rfl)⟩
      | 12, _ => ⟨_, _, rfl, rfl, cq_o clX3 (fun _ _ => rfl)⟩
      | 13, _ => ⟨_, _, rfl, rfl, cq_o clX3 (fun _ _ => rfl)⟩
      | 14, _ => ⟨_, _, rfl, rfl, cq_o clX3 (fun _ _ => rfl)⟩
      | k + 15, h => absurd h (by omega)) hk
  exact pw_return (tk tkX4_init 36 rfl) rfl (by decide) ⟨rfl, rfl⟩
