/-! ===== THE WORLD: ten states (block b at 16 b: 0 now, 1 the trial's, 2..7 the history's, 8 and 9 the slots'), the class's other cells, the model's, the law's out ===== -/
/-- a state: there, values, rules (nine numbers each), log's rules, log's depths, log's numbers (0 size, 1 latest), numbers (0 rulesUsed, 1 depth, 2 events) -/
abbrev SS : Type := (Nat → Int32) × (Nat → Int32) × (Nat → Nat → Int32) × (Nat → Int32) × (Nat → Int32) × (Nat → Int32) × (Nat → Int32)
abbrev sTh (σ : SS) : Nat → Int32 := σ.1
abbrev sVa (σ : SS) : Nat → Int32 := σ.2.1
abbrev sRu (σ : SS) : Nat → Nat → Int32 := σ.2.2.1
abbrev sLr (σ : SS) : Nat → Int32 := σ.2.2.2.1
abbrev sLd (σ : SS) : Nat → Int32 := σ.2.2.2.2.1
abbrev sLs (σ : SS) : Nat → Int32 := σ.2.2.2.2.2.1
abbrev sSc (σ : SS) : Nat → Int32 := σ.2.2.2.2.2.2
/-- the class: the states; the statement's numbers (0 events, 1 deepest, 2 refusal); the chains' table; the text's signs, numbers (0 length, 1 at, 2 command) and row of numbers; the history's numbers (0 size, 1 next); slotIsFilled -/
abbrev CW : Type := (Nat → SS) × (Nat → Int32) × (Nat → Int32) × (Nat → Int32) × (Nat → Int32) × (Nat → Int32) × (Nat → Int32) × (Nat → Int32)
abbrev cSt (w : CW) : Nat → SS := w.1
abbrev cSm (w : CW) : Nat → Int32 := w.2.1
abbrev cCt (w : CW) : Nat → Int32 := w.2.2.1
abbrev cSg (w : CW) : Nat → Int32 := w.2.2.2.1
abbrev cTx (w : CW) : Nat → Int32 := w.2.2.2.2.1
abbrev cNu (w : CW) : Nat → Int32 := w.2.2.2.2.2.1
abbrev cHi (w : CW) : Nat → Int32 := w.2.2.2.2.2.2.1
abbrev cSf (w : CW) : Nat → Int32 := w.2.2.2.2.2.2.2
/-- the object in hand, the other, out -/
abbrev XW : Type := CW × CW × (Nat → Int32)
def uS1 (σ : SS) (f : Nat → Int32) : SS := (f, σ.2)
def uS2 (σ : SS) (f : Nat → Int32) : SS := (σ.1, f, σ.2.2)
def uS3 (σ : SS) (f : Nat → Nat → Int32) : SS := (σ.1, σ.2.1, f, σ.2.2.2)
def uS4 (σ : SS) (f : Nat → Int32) : SS := (σ.1, σ.2.1, σ.2.2.1, f, σ.2.2.2.2)
def uS5 (σ : SS) (f : Nat → Int32) : SS := (σ.1, σ.2.1, σ.2.2.1, σ.2.2.2.1, f, σ.2.2.2.2.2)
def uS6 (σ : SS) (f : Nat → Int32) : SS := (σ.1, σ.2.1, σ.2.2.1, σ.2.2.2.1, σ.2.2.2.2.1, f, σ.2.2.2.2.2.2)
def uS7 (σ : SS) (f : Nat → Int32) : SS := (σ.1, σ.2.1, σ.2.2.1, σ.2.2.2.1, σ.2.2.2.2.1, σ.2.2.2.2.2.1, f)
def upS (f : Nat → SS) (b : Nat) (σ : SS) : Nat → SS := fun j => if j = b then σ else f j
def upR (f : Nat → Nat → Int32) (i : Nat) (r : Nat → Int32) : Nat → Nat → Int32 := fun j => if j = i then r else f j
def uC1 (x : XW) (b : Nat) (σ : SS) : XW := ((upS x.1.1 b σ, x.1.2), x.2)
def uC2 (x : XW) (f : Nat → Int32) : XW := ((x.1.1, f, x.1.2.2), x.2)
def uC3 (x : XW) (f : Nat → Int32) : XW := ((x.1.1, x.1.2.1, f, x.1.2.2.2), x.2)
def uC4 (x : XW) (f : Nat → Int32) : XW := ((x.1.1, x.1.2.1, x.1.2.2.1, f, x.1.2.2.2.2), x.2)
def uC5 (x : XW) (f : Nat → Int32) : XW := ((x.1.1, x.1.2.1, x.1.2.2.1, x.1.2.2.2.1, f, x.1.2.2.2.2.2), x.2)
def uC6 (x : XW) (f : Nat → Int32) : XW := ((x.1.1, x.1.2.1, x.1.2.2.1, x.1.2.2.2.1, x.1.2.2.2.2.1, f, x.1.2.2.2.2.2.2), x.2)
def uC7 (x : XW) (f : Nat → Int32) : XW := ((x.1.1, x.1.2.1, x.1.2.2.1, x.1.2.2.2.1, x.1.2.2.2.2.1, x.1.2.2.2.2.2.1, f, x.1.2.2.2.2.2.2.2), x.2)
def uC8 (x : XW) (f : Nat → Int32) : XW := ((x.1.1, x.1.2.1, x.1.2.2.1, x.1.2.2.2.1, x.1.2.2.2.2.1, x.1.2.2.2.2.2.1, x.1.2.2.2.2.2.2.1, f), x.2)
def uO (x : XW) (f : Nat → Int32) : XW := (x.1, x.2.1, f)
def iA (f : Nat → Int32) : Nat → Value := fun j => .int (f j)
/-- the cell o of the block b -/
def stc (b o : Nat) (σ : SS) : Option Cel :=
  if o = 0 then some (.inr (4, fun k => if k = 0 then .ref (16 * b + 1) else if k = 1 then .ref (16 * b + 2) else if k = 2 then .ref (16 * b + 3) else if k = 3 then .ref (16 * b + 4) else .int (sSc σ (k - 4))))
  else if o = 1 then some (.inl (.boolean, 6, iA (sTh σ)))
  else if o = 2 then some (.inl (.int, 18, iA (sVa σ)))
  else if o = 3 then some (.inl (.object "RowTriggers$Rule", 8, fun j => .ref (16 * b + (7 + j))))
  else if o = 4 then some (.inr (2, fun k => if k = 0 then .ref (16 * b + 5) else if k = 1 then .ref (16 * b + 6) else .int (sLs σ (k - 2))))
  else if o = 5 then some (.inl (.int, 16, iA (sLr σ)))
  else if o = 6 then some (.inl (.int, 16, iA (sLd σ)))
  else if o < 15 then some (.inr (3, fun k => .int (sRu σ (o - 7) k)))
  else none
/-- a value, a cell, told for the other object -/
def rn_v : Value → Value
  | .ref k => .ref (swp k)
  | v => v
def rn_c : Cel → Cel
  | .inl x => .inl (x.1, x.2.1, fun j => rn_v (x.2.2 j))
  | .inr o => .inr (o.1, fun j => rn_v (o.2 j))
/-- an object's other cells, from 160 on -/
def ocw (o : Nat) (w : CW) : Option Cel :=
  if o = 0 then some (.inr (7, fun k => if k = 0 then .ref (16 * 0) else if k = 1 then .ref 161 else if k = 2 then .ref 162 else if k = 3 then .ref 164 else if k = 4 then .ref 167 else if k = 5 then .ref 169 else .ref 170))
  else if o = 1 then some (.inr (5, fun k => if k = 0 then .ref (16 * 1) else .int (cSm w (k - 1))))
  else if o = 2 then some (.inr (0, fun _ => .ref 163))
  else if o = 3 then some (.inl (.int, 8, iA (cCt w)))
  else if o = 4 then some (.inr (6, fun k => if k = 0 then .ref 165 else if k = 4 then .ref 166 else .int (cTx w (k - 1))))
  else if o = 5 then some (.inl (.char, 80, iA (cSg w)))
  else if o = 6 then some (.inl (.int, 4, iA (cNu w)))
  else if o = 7 then some (.inr (1, fun k => if k = 0 then .ref 168 else .int (cHi w (k - 1))))
  else if o = 8 then some (.inl (.object "RowTriggers$State", 6, fun j => .ref (16 * (2 + j))))
  else if o = 9 then some (.inl (.object "RowTriggers$State", 2, fun j => .ref (16 * (8 + j))))
  else if o = 10 then some (.inl (.boolean, 2, iA (cSf w)))
  else none
/-- an object's cells -/
def clw (w : CW) (k : Nat) : Option Cel := if k < 160 then stc (k / 16) (k % 16) (cSt w (k / 16)) else ocw (k - 160) w
/-- the other cells, from 160 on; the other object's from 256 on -/
def otc (o : Nat) (x : XW) : Option Cel :=
  if o = 0 then some (.inr (7, fun k => if k = 0 then .ref (16 * 0) else if k = 1 then .ref 161 else if k = 2 then .ref 162 else if k = 3 then .ref 164 else if k = 4 then .ref 167 else if k = 5 then .ref 169 else .ref 170))
  else if o = 1 then some (.inr (5, fun k => if k = 0 then .ref (16 * 1) else .int (cSm x.1 (k - 1))))
  else if o = 2 then some (.inr (0, fun _ => .ref 163))
  else if o = 3 then some (.inl (.int, 8, iA (cCt x.1)))
  else if o = 4 then some (.inr (6, fun k => if k = 0 then .ref 165 else if k = 4 then .ref 166 else .int (cTx x.1 (k - 1))))
  else if o = 5 then some (.inl (.char, 80, iA (cSg x.1)))
  else if o = 6 then some (.inl (.int, 4, iA (cNu x.1)))
  else if o = 7 then some (.inr (1, fun k => if k = 0 then .ref 168 else .int (cHi x.1 (k - 1))))
  else if o = 8 then some (.inl (.object "RowTriggers$State", 6, fun j => .ref (16 * (2 + j))))
  else if o = 9 then some (.inl (.object "RowTriggers$State", 2, fun j => .ref (16 * (8 + j))))
  else if o = 10 then some (.inl (.boolean, 2, iA (cSf x.1)))
  else if o = 11 then some (.inl (.int, 1, iA x.2.2))
  else if 96 ≤ o ∧ o < 267 then (clw x.2.1 (o - 96)).map rn_c
  else none
def hp (x : XW) : Hp := (none, fun k => if k < 160 then stc (k / 16) (k % 16) (cSt x.1 (k / 16)) else otc (k - 160) x)
theorem hp_st (x : XW) {b o : Nat} (hb : b < 10) (ho : o < 16) : (hp x).2 (16 * b + o) = stc b o (cSt x.1 b) := by
  show (if 16 * b + o < 160 then stc ((16 * b + o) / 16) ((16 * b + o) % 16) (cSt x.1 ((16 * b + o) / 16)) else _) = _
  rw [if_pos (by omega), show (16 * b + o) / 16 = b by omega, show (16 * b + o) % 16 = o by omega]
theorem hp_ot (x : XW) (o : Nat) : (hp x).2 (160 + o) = otc o x := by
  show (if 160 + o < 160 then _ else otc (160 + o - 160) x) = _
  rw [if_neg (by omega), show 160 + o - 160 = o by omega]
/-- a change in a block -/
theorem hp_us (x : XW) {b o : Nat} {c : Cel} (σ : SS) (hb : b < 10) (ho : o < 16) (hc : stc b o σ = some c) (hk : ∀ j, j < 16 → j ≠ o → stc b j σ = stc b j (cSt x.1 b)) : upH (hp x) (16 * b + o) c = hp (uC1 x b σ) := by
  refine Prod.ext rfl (funext fun k => ?_)
  show (if k = 16 * b + o then some c else (hp x).2 k) = (if k < 160 then stc (k / 16) (k % 16) (upS (cSt x.1) b σ (k / 16)) else otc (k - 160) (uC1 x b σ))
  by_cases e : k = 16 * b + o
  · rw [if_pos e, if_pos (by omega), show k / 16 = b by omega, show k % 16 = o by omega, upS, if_pos rfl, hc]
  · rw [if_neg e]
    show (if k < 160 then stc (k / 16) (k % 16) (cSt x.1 (k / 16)) else otc (k - 160) x) = _
    by_cases e2 : k < 160
    · rw [if_pos e2, if_pos e2]
      by_cases e3 : k / 16 = b
      · rw [e3, upS, if_pos rfl, hk _ (by omega) (by omega)]
      · rw [upS, if_neg e3]
    · rw [if_neg e2, if_neg e2]
      rfl
/-- a change elsewhere -/
theorem hp_uo {x y : XW} {o : Nat} {c : Cel} (hs : ∀ b, cSt y.1 b = cSt x.1 b) (hc : otc o y = some c) (hk : ∀ j, j ≠ o → otc j y = otc j x) : upH (hp x) (160 + o) c = hp y := by
  refine Prod.ext rfl (funext fun k => ?_)
  show (if k = 160 + o then some c else (hp x).2 k) = (if k < 160 then stc (k / 16) (k % 16) (cSt y.1 (k / 16)) else otc (k - 160) y)
  by_cases e : k = 160 + o
  · rw [if_pos e, if_neg (by omega), show k - 160 = o by omega, hc]
  · rw [if_neg e]
    show (if k < 160 then stc (k / 16) (k % 16) (cSt x.1 (k / 16)) else otc (k - 160) x) = _
    by_cases e2 : k < 160
    · rw [if_pos e2, if_pos e2, hs]
    · rw [if_neg e2, if_neg e2, hk _ (by omega)]

theorem narI (G : PG) (x : Int32) : narrow .int (cv G (.int x)) = cv G (.int x) ∧ fits .int (cv G (.int x)) = true := ⟨rfl, rfl⟩
section PWD
variable {M : Mth} {d n pc : Nat} {ls : List (Option Value)} {st : List Value} {x : XW} {Q : Out → Hp → Prop}
theorem g4_there {idx : Nat} {b : Nat} (hb : b < 10) (hd : decode (mC M) pc = .ok (.getfield idx, 3)) (hlk : Cond.fieldLink (mY M).cls idx "RowTriggers$State" "there" "[Z" ∈ UU) (kk : PW M d n (pc + 3) ls (.ref (16 * b + 1) :: st) (hp x) Q) : PW M d n pc ls (.ref (16 * b) :: st) (hp x) Q :=
  pw_getfield (k := 0) clX4 hd (hp_st x hb (by decide : 0 < 16)) (by decide) hlk kk
theorem g4_values {idx : Nat} {b : Nat} (hb : b < 10) (hd : decode (mC M) pc = .ok (.getfield idx, 3)) (hlk : Cond.fieldLink (mY M).cls idx "RowTriggers$State" "values" "[I" ∈ UU) (kk : PW M d n (pc + 3) ls (.ref (16 * b + 2) :: st) (hp x) Q) : PW M d n pc ls (.ref (16 * b) :: st) (hp x) Q :=
  pw_getfield (k := 1) clX4 hd (hp_st x hb (by decide : 0 < 16)) (by decide) hlk kk
theorem g4_rules {idx : Nat} {b : Nat} (hb : b < 10) (hd : decode (mC M) pc = .ok (.getfield idx, 3)) (hlk : Cond.fieldLink (mY M).cls idx "RowTriggers$State" "rules" "[LRowTriggers$Rule;" ∈ UU) (kk : PW M d n (pc + 3) ls (.ref (16 * b + 3) :: st) (hp x) Q) : PW M d n pc ls (.ref (16 * b) :: st) (hp x) Q :=
  pw_getfield (k := 2) clX4 hd (hp_st x hb (by decide : 0 < 16)) (by decide) hlk kk
theorem g4_log {idx : Nat} {b : Nat} (hb : b < 10) (hd : decode (mC M) pc = .ok (.getfield idx, 3)) (hlk : Cond.fieldLink (mY M).cls idx "RowTriggers$State" "log" "LRowTriggers$Log;" ∈ UU) (kk : PW M d n (pc + 3) ls (.ref (16 * b + 4) :: st) (hp x) Q) : PW M d n pc ls (.ref (16 * b) :: st) (hp x) Q :=
  pw_getfield (k := 3) clX4 hd (hp_st x hb (by decide : 0 < 16)) (by decide) hlk kk
theorem g4_rulesUsed {idx : Nat} {b : Nat} (hb : b < 10) (hd : decode (mC M) pc = .ok (.getfield idx, 3)) (hlk : Cond.fieldLink (mY M).cls idx "RowTriggers$State" "rulesUsed" "I" ∈ UU) (kk : PW M d n (pc + 3) ls (.int (sSc (cSt x.1 b) 0) :: st) (hp x) Q) : PW M d n pc ls (.ref (16 * b) :: st) (hp x) Q :=
  pw_getfield (k := 4) clX4 hd (hp_st x hb (by decide : 0 < 16)) (by decide) hlk kk
theorem g4_depth {idx : Nat} {b : Nat} (hb : b < 10) (hd : decode (mC M) pc = .ok (.getfield idx, 3)) (hlk : Cond.fieldLink (mY M).cls idx "RowTriggers$State" "depth" "I" ∈ UU) (kk : PW M d n (pc + 3) ls (.int (sSc (cSt x.1 b) 1) :: st) (hp x) Q) : PW M d n pc ls (.ref (16 * b) :: st) (hp x) Q :=
  pw_getfield (k := 5) clX4 hd (hp_st x hb (by decide : 0 < 16)) (by decide) hlk kk
theorem g4_events {idx : Nat} {b : Nat} (hb : b < 10) (hd : decode (mC M) pc = .ok (.getfield idx, 3)) (hlk : Cond.fieldLink (mY M).cls idx "RowTriggers$State" "events" "I" ∈ UU) (kk : PW M d n (pc + 3) ls (.int (sSc (cSt x.1 b) 2) :: st) (hp x) Q) : PW M d n pc ls (.ref (16 * b) :: st) (hp x) Q :=
  pw_getfield (k := 6) clX4 hd (hp_st x hb (by decide : 0 < 16)) (by decide) hlk kk
theorem stcSc (b j : Nat) (σ : SS) (f : Nat → Int32) (h : j ≠ 0) : stc b j (uS7 σ f) = stc b j σ := by
  unfold stc
  rw [if_neg h, if_neg h]
  rfl
theorem stcLs (b j : Nat) (σ : SS) (f : Nat → Int32) (h : j ≠ 4) : stc b j (uS6 σ f) = stc b j σ := by
  unfold stc
  by_cases h0 : j = 0
  · rw [if_pos h0, if_pos h0]; rfl
  · simp only [if_neg h0, if_neg h]
    rfl
theorem stcTh (b j : Nat) (σ : SS) (f : Nat → Int32) (h : j ≠ 1) : stc b j (uS1 σ f) = stc b j σ := by
  unfold stc
  by_cases h0 : j = 0
  · rw [if_pos h0, if_pos h0]; rfl
  · simp only [if_neg h0, if_neg h]
    rfl
theorem stcVa (b j : Nat) (σ : SS) (f : Nat → Int32) (h : j ≠ 2) : stc b j (uS2 σ f) = stc b j σ := by
  unfold stc
  by_cases h0 : j = 0
  · rw [if_pos h0, if_pos h0]; rfl
  · simp only [if_neg h0, if_neg h]
    rfl
theorem stcLr (b j : Nat) (σ : SS) (f : Nat → Int32) (h : j ≠ 5) : stc b j (uS4 σ f) = stc b j σ := by
  unfold stc
  by_cases h0 : j = 0
  · rw [if_pos h0, if_pos h0]; rfl
  · simp only [if_neg h0, if_neg h]
    rfl
theorem stcLd (b j : Nat) (σ : SS) (f : Nat → Int32) (h : j ≠ 6) : stc b j (uS5 σ f) = stc b j σ := by
  unfold stc
  by_cases h0 : j = 0
  · rw [if_pos h0, if_pos h0]; rfl
  · simp only [if_neg h0, if_neg h]
    rfl
theorem stcRu (b j i : Nat) (σ : SS) (r : Nat → Int32) (hi : i < 8) (h : j ≠ 7 + i) : stc b j (uS3 σ (upR (sRu σ) i r)) = stc b j σ := by
  unfold stc
  by_cases h7 : j < 7
  · match j, h7 with
    | 0, _ => rfl
    | 1, _ => rfl
    | 2, _ => rfl
    | 3, _ => rfl
    | 4, _ => rfl
    | 5, _ => rfl
    | 6, _ => rfl
    | j + 7, h => exact absurd h (by omega)
  · have a0 : ¬ j = 0 := by omega
    have a1 : ¬ j = 1 := by omega
    have a2 : ¬ j = 2 := by omega
    have a3 : ¬ j = 3 := by omega
    have a4 : ¬ j = 4 := by omega
    have a5 : ¬ j = 5 := by omega
    have a6 : ¬ j = 6 := by omega
    simp only [if_neg a0, if_neg a1, if_neg a2, if_neg a3, if_neg a4, if_neg a5, if_neg a6]
    have e1 : sRu (uS3 σ (upR (sRu σ) i r)) (j - 7) = sRu σ (j - 7) := if_neg (by omega)
    rw [e1]
theorem iA_st (f : Nat → Int32) (k : Nat) (v : Int32) : stF (iA f) k (.int v) = iA (upd f k v) := by
  funext j
  unfold stF iA upd
  by_cases e : j = k <;> simp [e]
theorem fnSc (b : Nat) (f : Nat → Int32) (k : Nat) (v : Int32) (hk : 4 ≤ k) : stF (fun j => if j = 0 then Value.ref (16 * b + 1) else if j = 1 then .ref (16 * b + 2) else if j = 2 then .ref (16 * b + 3) else if j = 3 then .ref (16 * b + 4) else .int (f (j - 4))) k (.int v) = (fun j => if j = 0 then Value.ref (16 * b + 1) else if j = 1 then .ref (16 * b + 2) else if j = 2 then .ref (16 * b + 3) else if j = 3 then .ref (16 * b + 4) else .int (upd f (k - 4) v (j - 4))) := by
  funext j
  unfold stF upd
  by_cases e : j = k
  · subst e
    rw [if_pos rfl, if_neg (by omega), if_neg (by omega), if_neg (by omega), if_neg (by omega), if_pos rfl]
  · rw [if_neg e]
    dsimp only
    by_cases e4 : j < 4
    · match j, e4 with
      | 0, _ => rfl
      | 1, _ => rfl
      | 2, _ => rfl
      | 3, _ => rfl
      | j + 4, h => exact absurd h (by omega)
    · rw [if_neg (by omega), if_neg (by omega), if_neg (by omega), if_neg (by omega), if_neg (by omega), if_neg (by omega), if_neg (by omega), if_neg (by omega), if_neg (by omega)]
theorem fnLs (b : Nat) (f : Nat → Int32) (k : Nat) (v : Int32) (hk : 2 ≤ k) : stF (fun j => if j = 0 then Value.ref (16 * b + 5) else if j = 1 then .ref (16 * b + 6) else .int (f (j - 2))) k (.int v) = (fun j => if j = 0 then Value.ref (16 * b + 5) else if j = 1 then .ref (16 * b + 6) else .int (upd f (k - 2) v (j - 2))) := by
  funext j
  unfold stF upd
  by_cases e : j = k
  · subst e
    rw [if_pos rfl, if_neg (by omega), if_neg (by omega), if_pos rfl]
  · rw [if_neg e]
    dsimp only
    by_cases e4 : j < 2
    · match j, e4 with
      | 0, _ => rfl
      | 1, _ => rfl
      | j + 2, h => exact absurd h (by omega)
    · rw [if_neg (by omega), if_neg (by omega), if_neg (by omega), if_neg (by omega), if_neg (by omega)]
theorem fn1 (a : Nat) (f : Nat → Int32) (k : Nat) (v : Int32) (hk : 1 ≤ k) : stF (fun j => if j = 0 then Value.ref a else .int (f (j - 1))) k (.int v) = (fun j => if j = 0 then Value.ref a else .int (upd f (k - 1) v (j - 1))) := by
  funext j
  unfold stF upd
  by_cases e : j = k
  · subst e
    rw [if_pos rfl, if_neg (by omega), if_pos rfl]
  · rw [if_neg e]
    dsimp only
    by_cases e4 : j = 0
    · rw [if_pos e4, if_pos e4]
    · rw [if_neg e4, if_neg e4, if_neg (by omega)]
theorem fnT (f : Nat → Int32) (k : Nat) (v : Int32) (hk : 1 ≤ k) (h4 : k ≠ 4) : stF (fun j => if j = 0 then Value.ref 165 else if j = 4 then .ref 166 else .int (f (j - 1))) k (.int v) = (fun j => if j = 0 then Value.ref 165 else if j = 4 then .ref 166 else .int (upd f (k - 1) v (j - 1))) := by
  funext j
  unfold stF upd
  by_cases e : j = k
  · subst e
    rw [if_pos rfl, if_neg (by omega), if_neg h4, if_pos rfl]
  · rw [if_neg e]
    dsimp only
    by_cases e4 : j = 0
    · rw [if_pos e4, if_pos e4]
    · rw [if_neg e4, if_neg e4, if_neg (show ¬ j - 1 = k - 1 by omega)]
theorem p4_rulesUsed {idx : Nat} {v : Int32} {b : Nat} (hb : b < 10) (hd : decode (mC M) pc = .ok (.putfield idx, 3)) (hlk : Cond.fieldLink (mY M).cls idx "RowTriggers$State" "rulesUsed" "I" ∈ UU) (kk : PW M d n (pc + 3) ls st (hp (uC1 x b (uS7 (cSt x.1 b) (upd (sSc (cSt x.1 b)) 0 v)))) Q) : PW M d n pc ls (.int v :: .ref (16 * b) :: st) (hp x) Q := by
  refine pw_putfield (k := 4) clX4 hd (hp_st x hb (by decide : 0 < 16)) (by decide) hlk rfl (fun G => narI G v) ?_
  rw [fnSc b _ 4 v (by decide)]
  have e := hp_us (x := x) (b := b) (o := 0) (uS7 (cSt x.1 b) (upd (sSc (cSt x.1 b)) 0 v)) hb (by decide) rfl (fun j _ hj => stcSc b j _ _ hj)
  rw [show 16 * b = 16 * b + 0 from rfl]
  erw [e]
  exact kk
theorem p4_depth {idx : Nat} {v : Int32} {b : Nat} (hb : b < 10) (hd : decode (mC M) pc = .ok (.putfield idx, 3)) (hlk : Cond.fieldLink (mY M).cls idx "RowTriggers$State" "depth" "I" ∈ UU) (kk : PW M d n (pc + 3) ls st (hp (uC1 x b (uS7 (cSt x.1 b) (upd (sSc (cSt x.1 b)) 1 v)))) Q) : PW M d n pc ls (.int v :: .ref (16 * b) :: st) (hp x) Q := by
  refine pw_putfield (k := 5) clX4 hd (hp_st x hb (by decide : 0 < 16)) (by decide) hlk rfl (fun G => narI G v) ?_
  rw [fnSc b _ 5 v (by decide)]
  have e := hp_us (x := x) (b := b) (o := 0) (uS7 (cSt x.1 b) (upd (sSc (cSt x.1 b)) 1 v)) hb (by decide) rfl (fun j _ hj => stcSc b j _ _ hj)
  rw [show 16 * b = 16 * b + 0 from rfl]
  erw [e]
  exact kk
theorem p4_events {idx : Nat} {v : Int32} {b : Nat} (hb : b < 10) (hd : decode (mC M) pc = .ok (.putfield idx, 3)) (hlk : Cond.fieldLink (mY M).cls idx "RowTriggers$State" "events" "I" ∈ UU) (kk : PW M d n (pc + 3) ls st (hp (uC1 x b (uS7 (cSt x.1 b) (upd (sSc (cSt x.1 b)) 2 v)))) Q) : PW M d n pc ls (.int v :: .ref (16 * b) :: st) (hp x) Q := by
  refine pw_putfield (k := 6) clX4 hd (hp_st x hb (by decide : 0 < 16)) (by decide) hlk rfl (fun G => narI G v) ?_
  rw [fnSc b _ 6 v (by decide)]
  have e := hp_us (x := x) (b := b) (o := 0) (uS7 (cSt x.1 b) (upd (sSc (cSt x.1 b)) 2 v)) hb (by decide) rfl (fun j _ hj => stcSc b j _ _ hj)
  rw [show 16 * b = 16 * b + 0 from rfl]
  erw [e]
  exact kk
theorem g2_rules {idx : Nat} {b : Nat} (hb : b < 10) (hd : decode (mC M) pc = .ok (.getfield idx, 3)) (hlk : Cond.fieldLink (mY M).cls idx "RowTriggers$Log" "rules" "[I" ∈ UU) (kk : PW M d n (pc + 3) ls (.ref (16 * b + 5) :: st) (hp x) Q) : PW M d n pc ls (.ref (16 * b + 4) :: st) (hp x) Q :=
  pw_getfield (k := 0) clX2 hd (hp_st x hb (by decide : 4 < 16)) (by decide) hlk kk
theorem g2_depths {idx : Nat} {b : Nat} (hb : b < 10) (hd : decode (mC M) pc = .ok (.getfield idx, 3)) (hlk : Cond.fieldLink (mY M).cls idx "RowTriggers$Log" "depths" "[I" ∈ UU) (kk : PW M d n (pc + 3) ls (.ref (16 * b + 6) :: st) (hp x) Q) : PW M d n pc ls (.ref (16 * b + 4) :: st) (hp x) Q :=
  pw_getfield (k := 1) clX2 hd (hp_st x hb (by decide : 4 < 16)) (by decide) hlk kk
theorem g2_size {idx : Nat} {b : Nat} (hb : b < 10) (hd : decode (mC M) pc = .ok (.getfield idx, 3)) (hlk : Cond.fieldLink (mY M).cls idx "RowTriggers$Log" "size" "I" ∈ UU) (kk : PW M d n (pc + 3) ls (.int (sLs (cSt x.1 b) 0) :: st) (hp x) Q) : PW M d n pc ls (.ref (16 * b + 4) :: st) (hp x) Q :=
  pw_getfield (k := 2) clX2 hd (hp_st x hb (by decide : 4 < 16)) (by decide) hlk kk
theorem g2_latest {idx : Nat} {b : Nat} (hb : b < 10) (hd : decode (mC M) pc = .ok (.getfield idx, 3)) (hlk : Cond.fieldLink (mY M).cls idx "RowTriggers$Log" "latest" "I" ∈ UU) (kk : PW M d n (pc + 3) ls (.int (sLs (cSt x.1 b) 1) :: st) (hp x) Q) : PW M d n pc ls (.ref (16 * b + 4) :: st) (hp x) Q :=
  pw_getfield (k := 3) clX2 hd (hp_st x hb (by decide : 4 < 16)) (by decide) hlk kk
theorem p2_size {idx : Nat} {v : Int32} {b : Nat} (hb : b < 10) (hd : decode (mC M) pc = .ok (.putfield idx, 3)) (hlk : Cond.fieldLink (mY M).cls idx "RowTriggers$Log" "size" "I" ∈ UU) (kk : PW M d n (pc + 3) ls st (hp (uC1 x b (uS6 (cSt x.1 b) (upd (sLs (cSt x.1 b)) 0 v)))) Q) : PW M d n pc ls (.int v :: .ref (16 * b + 4) :: st) (hp x) Q := by
  refine pw_putfield (k := 2) clX2 hd (hp_st x hb (by decide : 4 < 16)) (by decide) hlk rfl (fun G => narI G v) ?_
  rw [fnLs b _ 2 v (by decide)]
  have e := hp_us (x := x) (b := b) (o := 4) (uS6 (cSt x.1 b) (upd (sLs (cSt x.1 b)) 0 v)) hb (by decide) rfl (fun j _ hj => stcLs b j _ _ hj)
  erw [e]
  exact kk
theorem p2_latest {idx : Nat} {v : Int32} {b : Nat} (hb : b < 10) (hd : decode (mC M) pc = .ok (.putfield idx, 3)) (hlk : Cond.fieldLink (mY M).cls idx "RowTriggers$Log" "latest" "I" ∈ UU) (kk : PW M d n (pc + 3) ls st (hp (uC1 x b (uS6 (cSt x.1 b) (upd (sLs (cSt x.1 b)) 1 v)))) Q) : PW M d n pc ls (.int v :: .ref (16 * b + 4) :: st) (hp x) Q := by
  refine pw_putfield (k := 3) clX2 hd (hp_st x hb (by decide : 4 < 16)) (by decide) hlk rfl (fun G => narI G v) ?_
  rw [fnLs b _ 3 v (by decide)]
  have e := hp_us (x := x) (b := b) (o := 4) (uS6 (cSt x.1 b) (upd (sLs (cSt x.1 b)) 1 v)) hb (by decide) rfl (fun j _ hj => stcLs b j _ _ hj)
  erw [e]
  exact kk
theorem stc_ru (b i : Nat) (σ : SS) (hi : i < 8) : stc b (7 + i) σ = some (.inr (3, fun k => .int (sRu σ i k))) := by
  unfold stc
  rw [if_neg (by omega), if_neg (by omega), if_neg (by omega), if_neg (by omega), if_neg (by omega), if_neg (by omega), if_neg (by omega), if_pos (by omega), show 7 + i - 7 = i by omega]
theorem g3_event {idx : Nat} {b i : Nat} (hb : b < 10) (hi : i < 8) (hd : decode (mC M) pc = .ok (.getfield idx, 3)) (hlk : Cond.fieldLink (mY M).cls idx "RowTriggers$Rule" "event" "I" ∈ UU) (kk : PW M d n (pc + 3) ls (.int (sRu (cSt x.1 b) i 0) :: st) (hp x) Q) : PW M d n pc ls (.ref (16 * b + (7 + i)) :: st) (hp x) Q :=
  pw_getfield (k := 0) clX3 hd ((hp_st x hb (by omega : 7 + i < 16)).trans (stc_ru b i _ hi)) (by decide) hlk kk
theorem p3_event {idx : Nat} {v : Int32} {b i : Nat} (hb : b < 10) (hi : i < 8) (hd : decode (mC M) pc = .ok (.putfield idx, 3)) (hlk : Cond.fieldLink (mY M).cls idx "RowTriggers$Rule" "event" "I" ∈ UU) (kk : PW M d n (pc + 3) ls st (hp (uC1 x b (uS3 (cSt x.1 b) (upR (sRu (cSt x.1 b)) i (upd (sRu (cSt x.1 b) i) 0 v))))) Q) : PW M d n pc ls (.int v :: .ref (16 * b + (7 + i)) :: st) (hp x) Q := by
  refine pw_putfield (k := 0) clX3 hd ((hp_st x hb (by omega : 7 + i < 16)).trans (stc_ru b i _ hi)) (by decide) hlk rfl (fun G => narI G v) ?_
  have e := hp_us (x := x) (b := b) (o := 7 + i) (c := .inr (3, stF (fun k => .int (sRu (cSt x.1 b) i k)) 0 (.int v))) (uS3 (cSt x.1 b) (upR (sRu (cSt x.1 b)) i (upd (sRu (cSt x.1 b) i) 0 v))) hb (by omega) ((stc_ru b i _ hi).trans (congrArg (fun z => some (Sum.inr (3, z))) (by funext j; simp only [sRu, uS3, upR, if_pos, stF, upd]; by_cases e : j = 0 <;> simp [e]))) (fun j _ hj => stcRu b j i _ _ hi hj)
  rw [e]
  exact kk
theorem g3_column {idx : Nat} {b i : Nat} (hb : b < 10) (hi : i < 8) (hd : decode (mC M) pc = .ok (.getfield idx, 3)) (hlk : Cond.fieldLink (mY M).cls idx "RowTriggers$Rule" "column" "I" ∈ UU) (kk : PW M d n (pc + 3) ls (.int (sRu (cSt x.1 b) i 1) :: st) (hp x) Q) : PW M d n pc ls (.ref (16 * b + (7 + i)) :: st) (hp x) Q :=
  pw_getfield (k := 1) clX3 hd ((hp_st x hb (by omega : 7 + i < 16)).trans (stc_ru b i _ hi)) (by decide) hlk kk
theorem p3_column {idx : Nat} {v : Int32} {b i : Nat} (hb : b < 10) (hi : i < 8) (hd : decode (mC M) pc = .ok (.putfield idx, 3)) (hlk : Cond.fieldLink (mY M).cls idx "RowTriggers$Rule" "column" "I" ∈ UU) (kk : PW M d n (pc + 3) ls st (hp (uC1 x b (uS3 (cSt x.1 b) (upR (sRu (cSt x.1 b)) i (upd (sRu (cSt x.1 b) i) 1 v))))) Q) : PW M d n pc ls (.int v :: .ref (16 * b + (7 + i)) :: st) (hp x) Q := by
  refine pw_putfield (k := 1) clX3 hd ((hp_st x hb (by omega : 7 + i < 16)).trans (stc_ru b i _ hi)) (by decide) hlk rfl (fun G => narI G v) ?_
  have e := hp_us (x := x) (b := b) (o := 7 + i) (c := .inr (3, stF (fun k => .int (sRu (cSt x.1 b) i k)) 1 (.int v))) (uS3 (cSt x.1 b) (upR (sRu (cSt x.1 b)) i (upd (sRu (cSt x.1 b) i) 1 v))) hb (by omega) ((stc_ru b i _ hi).trans (congrArg (fun z => some (Sum.inr (3, z))) (by funext j; simp only [sRu, uS3, upR, if_pos, stF, upd]; by_cases e : j = 1 <;> simp [e]))) (fun j _ hj => stcRu b j i _ _ hi hj)
  rw [e]
  exact kk
theorem g3_least {idx : Nat} {b i : Nat} (hb : b < 10) (hi : i < 8) (hd : decode (mC M) pc = .ok (.getfield idx, 3)) (hlk : Cond.fieldLink (mY M).cls idx "RowTriggers$Rule" "least" "I" ∈ UU) (kk : PW M d n (pc + 3) ls (.int (sRu (cSt x.1 b) i 2) :: st) (hp x) Q) : PW M d n pc ls (.ref (16 * b + (7 + i)) :: st) (hp x) Q :=
  pw_getfield (k := 2) clX3 hd ((hp_st x hb (by omega : 7 + i < 16)).trans (stc_ru b i _ hi)) (by decide) hlk kk
theorem p3_least {idx : Nat} {v : Int32} {b i : Nat} (hb : b < 10) (hi : i < 8) (hd : decode (mC M) pc = .ok (.putfield idx, 3)) (hlk : Cond.fieldLink (mY M).cls idx "RowTriggers$Rule" "least" "I" ∈ UU) (kk : PW M d n (pc + 3) ls st (hp (uC1 x b (uS3 (cSt x.1 b) (upR (sRu (cSt x.1 b)) i (upd (sRu (cSt x.1 b) i) 2 v))))) Q) : PW M d n pc ls (.int v :: .ref (16 * b + (7 + i)) :: st) (hp x) Q := by
  refine pw_putfield (k := 2) clX3 hd ((hp_st x hb (by omega : 7 + i < 16)).trans (stc_ru b i _ hi)) (by decide) hlk rfl (fun G => narI G v) ?_
  have e := hp_us (x := x) (b := b) (o := 7 + i) (c := .inr (3, stF (fun k => .int (sRu (cSt x.1 b) i k)) 2 (.int v))) (uS3 (cSt x.1 b) (upR (sRu (cSt x.1 b)) i (upd (sRu (cSt x.1 b) i) 2 v))) hb (by omega) ((stc_ru b i _ hi).trans (congrArg (fun z => some (Sum.inr (3, z))) (by funext j; simp only [sRu, uS3, upR, if_pos, stF, upd]; by_cases e : j = 2 <;> simp [e]))) (fun j _ hj => stcRu b j i _ _ hi hj)
  rw [e]
  exact kk
theorem g3_action {idx : Nat} {b i : Nat} (hb : b < 10) (hi : i < 8) (hd : decode (mC M) pc = .ok (.getfield idx, 3)) (hlk : Cond.fieldLink (mY M).cls idx "RowTriggers$Rule" "action" "I" ∈ UU) (kk : PW M d n (pc + 3) ls (.int (sRu (cSt x.1 b) i 3) :: st) (hp x) Q) : PW M d n pc ls (.ref (16 * b + (7 + i)) :: st) (hp x) Q :=
  pw_getfield (k := 3) clX3 hd ((hp_st x hb (by omega : 7 + i < 16)).trans (stc_ru b i _ hi)) (by decide) hlk kk
theorem p3_action {idx : Nat} {v : Int32} {b i : Nat} (hb : b < 10) (hi : i < 8) (hd : decode (mC M) pc = .ok (.putfield idx, 3)) (hlk : Cond.fieldLink (mY M).cls idx "RowTriggers$Rule" "action" "I" ∈ UU) (kk : PW M d n (pc + 3) ls st (hp (uC1 x b (uS3 (cSt x.1 b) (upR (sRu (cSt x.1 b)) i (upd (sRu (cSt x.1 b) i) 3 v))))) Q) : PW M d n pc ls (.int v :: .ref (16 * b + (7 + i)) :: st) (hp x) Q := by
  refine pw_putfield (k := 3) clX3 hd ((hp_st x hb (by omega : 7 + i < 16)).trans (stc_ru b i _ hi)) (by decide) hlk rfl (fun G => narI G v) ?_
  have e := hp_us (x := x) (b := b) (o := 7 + i) (c := .inr (3, stF (fun k => .int (sRu (cSt x.1 b) i k)) 3 (.int v))) (uS3 (cSt x.1 b) (upR (sRu (cSt x.1 b)) i (upd (sRu (cSt x.1 b) i) 3 v))) hb (by omega) ((stc_ru b i _ hi).trans (congrArg (fun z => some (Sum.inr (3, z))) (by funext j; simp only [sRu, uS3, upR, if_pos, stF, upd]; by_cases e : j = 3 <;> simp [e]))) (fun j _ hj => stcRu b j i _ _ hi hj)
  rw [e]
  exact kk
theorem g3_targetRow {idx : Nat} {b i : Nat} (hb : b < 10) (hi : i < 8) (hd : decode (mC M) pc = .ok (.getfield idx, 3)) (hlk : Cond.fieldLink (mY M).cls idx "RowTriggers$Rule" "targetRow" "I" ∈ UU) (kk : PW M d n (pc + 3) ls (.int (sRu (cSt x.1 b) i 4) :: st) (hp x) Q) : PW M d n pc ls (.ref (16 * b + (7 + i)) :: st) (hp x) Q :=
  pw_getfield (k := 4) clX3 hd ((hp_st x hb (by omega : 7 + i < 16)).trans (stc_ru b i _ hi)) (by decide) hlk kk
theorem p3_targetRow {idx : Nat} {v : Int32} {b i : Nat} (hb : b < 10) (hi : i < 8) (hd : decode (mC M) pc = .ok (.putfield idx, 3)) (hlk : Cond.fieldLink (mY M).cls idx "RowTriggers$Rule" "targetRow" "I" ∈ UU) (kk : PW M d n (pc + 3) ls st (hp (uC1 x b (uS3 (cSt x.1 b) (upR (sRu (cSt x.1 b)) i (upd (sRu (cSt x.1 b) i) 4 v))))) Q) : PW M d n pc ls (.int v :: .ref (16 * b + (7 + i)) :: st) (hp x) Q := by
  refine pw_putfield (k := 4) clX3 hd ((hp_st x hb (by omega : 7 + i < 16)).trans (stc_ru b i _ hi)) (by decide) hlk rfl (fun G => narI G v) ?_
  have e := hp_us (x := x) (b := b) (o := 7 + i) (c := .inr (3, stF (fun k => .int (sRu (cSt x.1 b) i k)) 4 (.int v))) (uS3 (cSt x.1 b) (upR (sRu (cSt x.1 b)) i (upd (sRu (cSt x.1 b) i) 4 v))) hb (by omega) ((stc_ru b i _ hi).trans (congrArg (fun z => some (Sum.inr (3, z))) (by funext j; simp only [sRu, uS3, upR, if_pos, stF, upd]; by_cases e : j = 4 <;> simp [e]))) (fun j _ hj => stcRu b j i _ _ hi hj)
  rw [e]
  exact kk
theorem g3_targetColumn {idx : Nat} {b i : Nat} (hb : b < 10) (hi : i < 8) (hd : decode (mC M) pc = .ok (.getfield idx, 3)) (hlk : Cond.fieldLink (mY M).cls idx "RowTriggers$Rule" "targetColumn" "I" ∈ UU) (kk : PW M d n (pc + 3) ls (.int (sRu (cSt x.1 b) i 5) :: st) (hp x) Q) : PW M d n pc ls (.ref (16 * b + (7 + i)) :: st) (hp x) Q :=
  pw_getfield (k := 5) clX3 hd ((hp_st x hb (by omega : 7 + i < 16)).trans (stc_ru b i _ hi)) (by decide) hlk kk
theorem p3_targetColumn {idx : Nat} {v : Int32} {b i : Nat} (hb : b < 10) (hi : i < 8) (hd : decode (mC M) pc = .ok (.putfield idx, 3)) (hlk : Cond.fieldLink (mY M).cls idx "RowTriggers$Rule" "targetColumn" "I" ∈ UU) (kk : PW M d n (pc + 3) ls st (hp (uC1 x b (uS3 (cSt x.1 b) (upR (sRu (cSt x.1 b)) i (upd (sRu (cSt x.1 b) i) 5 v))))) Q) : PW M d n pc ls (.int v :: .ref (16 * b + (7 + i)) :: st) (hp x) Q := by
  refine pw_putfield (k := 5) clX3 hd ((hp_st x hb (by omega : 7 + i < 16)).trans (stc_ru b i _ hi)) (by decide) hlk rfl (fun G => narI G v) ?_
  have e := hp_us (x := x) (b := b) (o := 7 + i) (c := .inr (3, stF (fun k => .int (sRu (cSt x.1 b) i k)) 5 (.int v))) (uS3 (cSt x.1 b) (upR (sRu (cSt x.1 b)) i (upd (sRu (cSt x.1 b) i) 5 v))) hb (by omega) ((stc_ru b i _ hi).trans (congrArg (fun z => some (Sum.inr (3, z))) (by funext j; simp only [sRu, uS3, upR, if_pos, stF, upd]; by_cases e : j = 5 <;> simp [e]))) (fun j _ hj => stcRu b j i _ _ hi hj)
  rw [e]
  exact kk
theorem g3_amount {idx : Nat} {b i : Nat} (hb : b < 10) (hi : i < 8) (hd : decode (mC M) pc = .ok (.getfield idx, 3)) (hlk : Cond.fieldLink (mY M).cls idx "RowTriggers$Rule" "amount" "I" ∈ UU) (kk : PW M d n (pc + 3) ls (.int (sRu (cSt x.1 b) i 6) :: st) (hp x) Q) : PW M d n pc ls (.ref (16 * b + (7 + i)) :: st) (hp x) Q :=
  pw_getfield (k := 6) clX3 hd ((hp_st x hb (by omega : 7 + i < 16)).trans (stc_ru b i _ hi)) (by decide) hlk kk
theorem p3_amount {idx : Nat} {v : Int32} {b i : Nat} (hb : b < 10) (hi : i < 8) (hd : decode (mC M) pc = .ok (.putfield idx, 3)) (hlk : Cond.fieldLink (mY M).cls idx "RowTriggers$Rule" "amount" "I" ∈ UU) (kk : PW M d n (pc + 3) ls st (hp (uC1 x b (uS3 (cSt x.1 b) (upR (sRu (cSt x.1 b)) i (upd (sRu (cSt x.1 b) i) 6 v))))) Q) : PW M d n pc ls (.int v :: .ref (16 * b + (7 + i)) :: st) (hp x) Q := by
  refine pw_putfield (k := 6) clX3 hd ((hp_st x hb (by omega : 7 + i < 16)).trans (stc_ru b i _ hi)) (by decide) hlk rfl (fun G => narI G v) ?_
  have e := hp_us (x := x) (b := b) (o := 7 + i) (c := .inr (3, stF (fun k => .int (sRu (cSt x.1 b) i k)) 6 (.int v))) (uS3 (cSt x.1 b) (upR (sRu (cSt x.1 b)) i (upd (sRu (cSt x.1 b) i) 6 v))) hb (by omega) ((stc_ru b i _ hi).trans (congrArg (fun z => some (Sum.inr (3, z))) (by funext j; simp only [sRu, uS3, upR, if_pos, stF, upd]; by_cases e : j = 6 <;> simp [e]))) (fun j _ hj => stcRu b j i _ _ hi hj)
  rw [e]
  exact kk
theorem g3_muted {idx : Nat} {b i : Nat} (hb : b < 10) (hi : i < 8) (hd : decode (mC M) pc = .ok (.getfield idx, 3)) (hlk : Cond.fieldLink (mY M).cls idx "RowTriggers$Rule" "muted" "Z" ∈ UU) (kk : PW M d n (pc + 3) ls (.int (sRu (cSt x.1 b) i 7) :: st) (hp x) Q) : PW M d n pc ls (.ref (16 * b + (7 + i)) :: st) (hp x) Q :=
  pw_getfield (k := 7) clX3 hd ((hp_st x hb (by omega : 7 + i < 16)).trans (stc_ru b i _ hi)) (by decide) hlk kk
theorem p3_muted {idx : Nat} {v : Int32} {b i : Nat} (hb : b < 10) (hi : i < 8) (hd : decode (mC M) pc = .ok (.putfield idx, 3)) (hlk : Cond.fieldLink (mY M).cls idx "RowTriggers$Rule" "muted" "Z" ∈ UU) (hn : narrow .boolean (.int v) = .int v ∧ fits .boolean (.int v) = true) (kk : PW M d n (pc + 3) ls st (hp (uC1 x b (uS3 (cSt x.1 b) (upR (sRu (cSt x.1 b)) i (upd (sRu (cSt x.1 b) i) 7 v))))) Q) : PW M d n pc ls (.int v :: .ref (16 * b + (7 + i)) :: st) (hp x) Q := by
  refine pw_putfield (k := 7) clX3 hd ((hp_st x hb (by omega : 7 + i < 16)).trans (stc_ru b i _ hi)) (by decide) hlk rfl (fun _ => hn) ?_
  have e := hp_us (x := x) (b := b) (o := 7 + i) (c := .inr (3, stF (fun k => .int (sRu (cSt x.1 b) i k)) 7 (.int v))) (uS3 (cSt x.1 b) (upR (sRu (cSt x.1 b)) i (upd (sRu (cSt x.1 b) i) 7 v))) hb (by omega) ((stc_ru b i _ hi).trans (congrArg (fun z => some (Sum.inr (3, z))) (by funext j; simp only [sRu, uS3, upR, if_pos, stF, upd]; by_cases e : j = 7 <;> simp [e]))) (fun j _ hj => stcRu b j i _ _ hi hj)
  rw [e]
  exact kk
theorem g3_acts {idx : Nat} {b i : Nat} (hb : b < 10) (hi : i < 8) (hd : decode (mC M) pc = .ok (.getfield idx, 3)) (hlk : Cond.fieldLink (mY M).cls idx "RowTriggers$Rule" "acts" "I" ∈ UU) (kk : PW M d n (pc + 3) ls (.int (sRu (cSt x.1 b) i 8) :: st) (hp x) Q) : PW M d n pc ls (.ref (16 * b + (7 + i)) :: st) (hp x) Q :=
  pw_getfield (k := 8) clX3 hd ((hp_st x hb (by omega : 7 + i < 16)).trans (stc_ru b i _ hi)) (by decide) hlk kk
theorem p3_acts {idx : Nat} {v : Int32} {b i : Nat} (hb : b < 10) (hi : i < 8) (hd : decode (mC M) pc = .ok (.putfield idx, 3)) (hlk : Cond.fieldLink (mY M).cls idx "RowTriggers$Rule" "acts" "I" ∈ UU) (kk : PW M d n (pc + 3) ls st (hp (uC1 x b (uS3 (cSt x.1 b) (upR (sRu (cSt x.1 b)) i (upd (sRu (cSt x.1 b) i) 8 v))))) Q) : PW M d n pc ls (.int v :: .ref (16 * b + (7 + i)) :: st) (hp x) Q := by
  refine pw_putfield (k := 8) clX3 hd ((hp_st x hb (by omega : 7 + i < 16)).trans (stc_ru b i _ hi)) (by decide) hlk rfl (fun G => narI G v) ?_
  have e := hp_us (x := x) (b := b) (o := 7 + i) (c := .inr (3, stF (fun k => .int (sRu (cSt x.1 b) i k)) 8 (.int v))) (uS3 (cSt x.1 b) (upR (sRu (cSt x.1 b)) i (upd (sRu (cSt x.1 b) i) 8 v))) hb (by omega) ((stc_ru b i _ hi).trans (congrArg (fun z => some (Sum.inr (3, z))) (by funext j; simp only [sRu, uS3, upR, if_pos, stF, upd]; by_cases e : j = 8 <;> simp [e]))) (fun j _ hj => stcRu b j i _ _ hi hj)
  rw [e]
  exact kk
theorem g7_now {idx : Nat} (hd : decode (mC M) pc = .ok (.getfield idx, 3)) (hlk : Cond.fieldLink (mY M).cls idx "RowTriggers" "now" "LRowTriggers$State;" ∈ UU) (kk : PW M d n (pc + 3) ls (.ref (16 * 0) :: st) (hp x) Q) : PW M d n pc ls (.ref 160 :: st) (hp x) Q :=
  pw_getfield (k := 0) clX7 hd (hp_ot x 0) (by decide) hlk kk
theorem g7_trial {idx : Nat} (hd : decode (mC M) pc = .ok (.getfield idx, 3)) (hlk : Cond.fieldLink (mY M).cls idx "RowTriggers" "trial" "LRowTriggers$Statement;" ∈ UU) (kk : PW M d n (pc + 3) ls (.ref 161 :: st) (hp x) Q) : PW M d n pc ls (.ref 160 :: st) (hp x) Q :=
  pw_getfield (k := 1) clX7 hd (hp_ot x 0) (by decide) hlk kk
theorem g7_chains {idx : Nat} (hd : decode (mC M) pc = .ok (.getfield idx, 3)) (hlk : Cond.fieldLink (mY M).cls idx "RowTriggers" "chains" "LRowTriggers$Chains;" ∈ UU) (kk : PW M d n (pc + 3) ls (.ref 162 :: st) (hp x) Q) : PW M d n pc ls (.ref 160 :: st) (hp x) Q :=
  pw_getfield (k := 2) clX7 hd (hp_ot x 0) (by decide) hlk kk
theorem g7_text {idx : Nat} (hd : decode (mC M) pc = .ok (.getfield idx, 3)) (hlk : Cond.fieldLink (mY M).cls idx "RowTriggers" "text" "LRowTriggers$Text;" ∈ UU) (kk : PW M d n (pc + 3) ls (.ref 164 :: st) (hp x) Q) : PW M d n pc ls (.ref 160 :: st) (hp x) Q :=
  pw_getfield (k := 3) clX7 hd (hp_ot x 0) (by decide) hlk kk
theorem g7_history {idx : Nat} (hd : decode (mC M) pc = .ok (.getfield idx, 3)) (hlk : Cond.fieldLink (mY M).cls idx "RowTriggers" "history" "LRowTriggers$History;" ∈ UU) (kk : PW M d n (pc + 3) ls (.ref 167 :: st) (hp x) Q) : PW M d n pc ls (.ref 160 :: st) (hp x) Q :=
  pw_getfield (k := 4) clX7 hd (hp_ot x 0) (by decide) hlk kk
theorem g7_slots {idx : Nat} (hd : decode (mC M) pc = .ok (.getfield idx, 3)) (hlk : Cond.fieldLink (mY M).cls idx "RowTriggers" "slots" "[LRowTriggers$State;" ∈ UU) (kk : PW M d n (pc + 3) ls (.ref 169 :: st) (hp x) Q) : PW M d n pc ls (.ref 160 :: st) (hp x) Q :=
  pw_getfield (k := 5) clX7 hd (hp_ot x 0) (by decide) hlk kk
theorem g7_slotIsFilled {idx : Nat} (hd : decode (mC M) pc = .ok (.getfield idx, 3)) (hlk : Cond.fieldLink (mY M).cls idx "RowTriggers" "slotIsFilled" "[Z" ∈ UU) (kk : PW M d n (pc + 3) ls (.ref 170 :: st) (hp x) Q) : PW M d n pc ls (.ref 160 :: st) (hp x) Q :=
  pw_getfield (k := 6) clX7 hd (hp_ot x 0) (by decide) hlk kk
theorem g5_state {idx : Nat} (hd : decode (mC M) pc = .ok (.getfield idx, 3)) (hlk : Cond.fieldLink (mY M).cls idx "RowTriggers$Statement" "state" "LRowTriggers$State;" ∈ UU) (kk : PW M d n (pc + 3) ls (.ref (16 * 1) :: st) (hp x) Q) : PW M d n pc ls (.ref 161 :: st) (hp x) Q :=
  pw_getfield (k := 0) clX5 hd (hp_ot x 1) (by decide) hlk kk
theorem g5_events {idx : Nat} (hd : decode (mC M) pc = .ok (.getfield idx, 3)) (hlk : Cond.fieldLink (mY M).cls idx "RowTriggers$Statement" "events" "I" ∈ UU) (kk : PW M d n (pc + 3) ls (.int (cSm x.1 0) :: st) (hp x) Q) : PW M d n pc ls (.ref 161 :: st) (hp x) Q :=
  pw_getfield (k := 1) clX5 hd (hp_ot x 1) (by decide) hlk kk
theorem p5_events {idx : Nat} {v : Int32} (hd : decode (mC M) pc = .ok (.putfield idx, 3)) (hlk : Cond.fieldLink (mY M).cls idx "RowTriggers$Statement" "events" "I" ∈ UU) (kk : PW M d n (pc + 3) ls st (hp (uC2 x (upd (cSm x.1) 0 v))) Q) : PW M d n pc ls (.int v :: .ref 161 :: st) (hp x) Q := by
  refine pw_putfield (k := 1) clX5 hd (hp_ot x 1) (by decide) hlk rfl (fun G => narI G v) ?_
  rw [fn1 _ _ 1 v (by decide)]
  have e := hp_uo (x := x) (y := uC2 x (upd (cSm x.1) 0 v)) (o := 1) (fun _ => rfl) rfl (fun j hj => by simp only [otc, if_neg hj]; rfl)
  erw [e]
  exact kk
theorem g5_deepest {idx : Nat} (hd : decode (mC M) pc = .ok (.getfield idx, 3)) (hlk : Cond.fieldLink (mY M).cls idx "RowTriggers$Statement" "deepest" "I" ∈ UU) (kk : PW M d n (pc + 3) ls (.int (cSm x.1 1) :: st) (hp x) Q) : PW M d n pc ls (.ref 161 :: st) (hp x) Q :=
  pw_getfield (k := 2) clX5 hd (hp_ot x 1) (by decide) hlk kk
theorem p5_deepest {idx : Nat} {v : Int32} (hd : decode (mC M) pc = .ok (.putfield idx, 3)) (hlk : Cond.fieldLink (mY M).cls idx "RowTriggers$Statement" "deepest" "I" ∈ UU) (kk : PW M d n (pc + 3) ls st (hp (uC2 x (upd (cSm x.1) 1 v))) Q) : PW M d n pc ls (.int v :: .ref 161 :: st) (hp x) Q := by
  refine pw_putfield (k := 2) clX5 hd (hp_ot x 1) (by decide) hlk rfl (fun G => narI G v) ?_
  rw [fn1 _ _ 2 v (by decide)]
  have e := hp_uo (x := x) (y := uC2 x (upd (cSm x.1) 1 v)) (o := 1) (fun _ => rfl) rfl (fun j hj => by simp only [otc, if_neg hj]; rfl)
  erw [e]
  exact kk
theorem g5_refusal {idx : Nat} (hd : decode (mC M) pc = .ok (.getfield idx, 3)) (hlk : Cond.fieldLink (mY M).cls idx "RowTriggers$Statement" "refusal" "I" ∈ UU) (kk : PW M d n (pc + 3) ls (.int (cSm x.1 2) :: st) (hp x) Q) : PW M d n pc ls (.ref 161 :: st) (hp x) Q :=
  pw_getfield (k := 3) clX5 hd (hp_ot x 1) (by decide) hlk kk
theorem p5_refusal {idx : Nat} {v : Int32} (hd : decode (mC M) pc = .ok (.putfield idx, 3)) (hlk : Cond.fieldLink (mY M).cls idx "RowTriggers$Statement" "refusal" "I" ∈ UU) (kk : PW M d n (pc + 3) ls st (hp (uC2 x (upd (cSm x.1) 2 v))) Q) : PW M d n pc ls (.int v :: .ref 161 :: st) (hp x) Q := by
  refine pw_putfield (k := 3) clX5 hd (hp_ot x 1) (by decide) hlk rfl (fun G => narI G v) ?_
  rw [fn1 _ _ 3 v (by decide)]
  have e := hp_uo (x := x) (y := uC2 x (upd (cSm x.1) 2 v)) (o := 1) (fun _ => rfl) rfl (fun j hj => by simp only [otc, if_neg hj]; rfl)
  erw [e]
  exact kk
theorem g0_table {idx : Nat} (hd : decode (mC M) pc = .ok (.getfield idx, 3)) (hlk : Cond.fieldLink (mY M).cls idx "RowTriggers$Chains" "table" "[I" ∈ UU) (kk : PW M d n (pc + 3) ls (.ref 163 :: st) (hp x) Q) : PW M d n pc ls (.ref 162 :: st) (hp x) Q :=
  pw_getfield (k := 0) clX0 hd (hp_ot x 2) (by decide) hlk kk
theorem g6_signs {idx : Nat} (hd : decode (mC M) pc = .ok (.getfield idx, 3)) (hlk : Cond.fieldLink (mY M).cls idx "RowTriggers$Text" "signs" "[C" ∈ UU) (kk : PW M d n (pc + 3) ls (.ref 165 :: st) (hp x) Q) : PW M d n pc ls (.ref 164 :: st) (hp x) Q :=
  pw_getfield (k := 0) clX6 hd (hp_ot x 4) (by decide) hlk kk
theorem g6_length {idx : Nat} (hd : decode (mC M) pc = .ok (.getfield idx, 3)) (hlk : Cond.fieldLink (mY M).cls idx "RowTriggers$Text" "length" "I" ∈ UU) (kk : PW M d n (pc + 3) ls (.int (cTx x.1 0) :: st) (hp x) Q) : PW M d n pc ls (.ref 164 :: st) (hp x) Q :=
  pw_getfield (k := 1) clX6 hd (hp_ot x 4) (by decide) hlk kk
theorem p6_length {idx : Nat} {v : Int32} (hd : decode (mC M) pc = .ok (.putfield idx, 3)) (hlk : Cond.fieldLink (mY M).cls idx "RowTriggers$Text" "length" "I" ∈ UU) (kk : PW M d n (pc + 3) ls st (hp (uC5 x (upd (cTx x.1) 0 v))) Q) : PW M d n pc ls (.int v :: .ref 164 :: st) (hp x) Q := by
  refine pw_putfield (k := 1) clX6 hd (hp_ot x 4) (by decide) hlk rfl (fun G => narI G v) ?_
  rw [fnT _ 1 v (by decide) (by decide)]
  have e := hp_uo (x := x) (y := uC5 x (upd (cTx x.1) 0 v)) (o := 4) (fun _ => rfl) rfl (fun j hj => by simp only [otc, if_neg hj]; rfl)
  erw [e]
  exact kk
theorem g6_at {idx : Nat} (hd : decode (mC M) pc = .ok (.getfield idx, 3)) (hlk : Cond.fieldLink (mY M).cls idx "RowTriggers$Text" "at" "I" ∈ UU) (kk : PW M d n (pc + 3) ls (.int (cTx x.1 1) :: st) (hp x) Q) : PW M d n pc ls (.ref 164 :: st) (hp x) Q :=
  pw_getfield (k := 2) clX6 hd (hp_ot x 4) (by decide) hlk kk
theorem p6_at {idx : Nat} {v : Int32} (hd : decode (mC M) pc = .ok (.putfield idx, 3)) (hlk : Cond.fieldLink (mY M).cls idx "RowTriggers$Text" "at" "I" ∈ UU) (kk : PW M d n (pc + 3) ls st (hp (uC5 x (upd (cTx x.1) 1 v))) Q) : PW M d n pc ls (.int v :: .ref 164 :: st) (hp x) Q := by
  refine pw_putfield (k := 2) clX6 hd (hp_ot x 4) (by decide) hlk rfl (fun G => narI G v) ?_
  rw [fnT _ 2 v (by decide) (by decide)]
  have e := hp_uo (x := x) (y := uC5 x (upd (cTx x.1) 1 v)) (o := 4) (fun _ => rfl) rfl (fun j hj => by simp only [otc, if_neg hj]; rfl)
  erw [e]
  exact kk
theorem g6_command {idx : Nat} (hd : decode (mC M) pc = .ok (.getfield idx, 3)) (hlk : Cond.fieldLink (mY M).cls idx "RowTriggers$Text" "command" "C" ∈ UU) (kk : PW M d n (pc + 3) ls (.int (cTx x.1 2) :: st) (hp x) Q) : PW M d n pc ls (.ref 164 :: st) (hp x) Q :=
  pw_getfield (k := 3) clX6 hd (hp_ot x 4) (by decide) hlk kk
theorem p6_command {idx : Nat} {v : Int32} (hd : decode (mC M) pc = .ok (.putfield idx, 3)) (hlk : Cond.fieldLink (mY M).cls idx "RowTriggers$Text" "command" "C" ∈ UU) (hn : narrow .char (.int v) = .int v ∧ fits .char (.int v) = true) (kk : PW M d n (pc + 3) ls st (hp (uC5 x (upd (cTx x.1) 2 v))) Q) : PW M d n pc ls (.int v :: .ref 164 :: st) (hp x) Q := by
  refine pw_putfield (k := 3) clX6 hd (hp_ot x 4) (by decide) hlk rfl (fun _ => hn) ?_
  rw [fnT _ 3 v (by decide) (by decide)]
  have e := hp_uo (x := x) (y := uC5 x (upd (cTx x.1) 2 v)) (o := 4) (fun _ => rfl) rfl (fun j hj => by simp only [otc, if_neg hj]; rfl)
  erw [e]
  exact kk
theorem g6_numbers {idx : Nat} (hd : decode (mC M) pc = .ok (.getfield idx, 3)) (hlk : Cond.fieldLink (mY M).cls idx "RowTriggers$Text" "numbers" "[I" ∈ UU) (kk : PW M d n (pc + 3) ls (.ref 166 :: st) (hp x) Q) : PW M d n pc ls (.ref 164 :: st) (hp x) Q :=
  pw_getfield (k := 4) clX6 hd (hp_ot x 4) (by decide) hlk kk
theorem g1_states {idx : Nat} (hd : decode (mC M) pc = .ok (.getfield idx, 3)) (hlk : Cond.fieldLink (mY M).cls idx "RowTriggers$History" "states" "[LRowTriggers$State;" ∈ UU) (kk : PW M d n (pc + 3) ls (.ref 168 :: st) (hp x) Q) : PW M d n pc ls (.ref 167 :: st) (hp x) Q :=
  pw_getfield (k := 0) clX1 hd (hp_ot x 7) (by decide) hlk kk
theorem g1_size {idx : Nat} (hd : decode (mC M) pc = .ok (.getfield idx, 3)) (hlk : Cond.fieldLink (mY M).cls idx "RowTriggers$History" "size" "I" ∈ UU) (kk : PW M d n (pc + 3) ls (.int (cHi x.1 0) :: st) (hp x) Q) : PW M d n pc ls (.ref 167 :: st) (hp x) Q :=
  pw_getfield (k := 1) clX1 hd (hp_ot x 7) (by decide) hlk kk
theorem p1_size {idx : Nat} {v : Int32} (hd : decode (mC M) pc = .ok (.putfield idx, 3)) (hlk : Cond.fieldLink (mY M).cls idx "RowTriggers$History" "size" "I" ∈ UU) (kk : PW M d n (pc + 3) ls st (hp (uC7 x (upd (cHi x.1) 0 v))) Q) : PW M d n pc ls (.int v :: .ref 167 :: st) (hp x) Q := by
  refine pw_putfield (k := 1) clX1 hd (hp_ot x 7) (by decide) hlk rfl (fun G => narI G v) ?_
  rw [fn1 _ _ 1 v (by decide)]
  have e := hp_uo (x := x) (y := uC7 x (upd (cHi x.1) 0 v)) (o := 7) (fun _ => rfl) rfl (fun j hj => by simp only [otc, if_neg hj]; rfl)
  erw [e]
  exact kk
theorem g1_next {idx : Nat} (hd : decode (mC M) pc = .ok (.getfield idx, 3)) (hlk : Cond.fieldLink (mY M).cls idx "RowTriggers$History" "next" "I" ∈ UU) (kk : PW M d n (pc + 3) ls (.int (cHi x.1 1) :: st) (hp x) Q) : PW M d n pc ls (.ref 167 :: st) (hp x) Q :=
  pw_getfield (k := 2) clX1 hd (hp_ot x 7) (by decide) hlk kk
theorem p1_next {idx : Nat} {v : Int32} (hd : decode (mC M) pc = .ok (.putfield idx, 3)) (hlk : Cond.fieldLink (mY M).cls idx "RowTriggers$History" "next" "I" ∈ UU) (kk : PW M d n (pc + 3) ls st (hp (uC7 x (upd (cHi x.1) 1 v))) Q) : PW M d n pc ls (.int v :: .ref 167 :: st) (hp x) Q := by
  refine pw_putfield (k := 2) clX1 hd (hp_ot x 7) (by decide) hlk rfl (fun G => narI G v) ?_
  rw [fn1 _ _ 2 v (by decide)]
  have e := hp_uo (x := x) (y := uC7 x (upd (cHi x.1) 1 v)) (o := 7) (fun _ => rfl) rfl (fun j hj => by simp only [otc, if_neg hj]; rfl)
  erw [e]
  exact kk
theorem al_there {i : Int32} {b : Nat} (hb : b < 10) (hd : decode (mC M) pc = .ok (.baload, 1)) (hin : vp_in i 6) (kk : PW M d n (pc + 1) ls (.int (sTh (cSt x.1 b) i.toNatClampNeg) :: st) (hp x) Q) : PW M d n pc ls (.int i :: .ref (16 * b + 1) :: st) (hp x) Q :=
  pw_zald hd (hp_st x hb (by decide : 1 < 16)) hin kk
theorem as_there {i : Int32} {v : Int32} {b : Nat} (hb : b < 10) (hd : decode (mC M) pc = .ok (.bastore, 1)) (hin : vp_in i 6) (hn : narrow .boolean (.int v) = .int v) (kk : PW M d n (pc + 1) ls st (hp (uC1 x b (uS1 (cSt x.1 b) (upd (sTh (cSt x.1 b)) i.toNatClampNeg v)))) Q) : PW M d n pc ls (.int v :: .int i :: .ref (16 * b + 1) :: st) (hp x) Q := by
  refine pw_zast hd (hp_st x hb (by decide : 1 < 16)) hin hn ?_
  rw [iA_st]
  have e := hp_us (x := x) (b := b) (o := 1) (uS1 (cSt x.1 b) (upd (sTh (cSt x.1 b)) i.toNatClampNeg v)) hb (by decide) rfl (fun j _ hj => stcTh b j _ _ hj)
  erw [e]
  exact kk
theorem al_there_e {e : Nat} {i : Int32} {b : Nat} (hb : b < 10) (hd : decode (mC M) pc = .ok (.baload, 1)) (hi : i = nI e) (he : e < 6) (kk : PW M d n (pc + 1) ls (.int (sTh (cSt x.1 b) e) :: st) (hp x) Q) : PW M d n pc ls (.int i :: .ref (16 * b + 1) :: st) (hp x) Q := by
  subst hi
  exact al_there hb hd (vp_in_nI he (by decide)) (by rw [nI_clamp (by omega)]; exact kk)
theorem as_there_e {e : Nat} {i : Int32} {v : Int32} {b : Nat} (hb : b < 10) (hd : decode (mC M) pc = .ok (.bastore, 1)) (hi : i = nI e) (he : e < 6) (hn : narrow .boolean (.int v) = .int v) (kk : PW M d n (pc + 1) ls st (hp (uC1 x b (uS1 (cSt x.1 b) (upd (sTh (cSt x.1 b)) e v)))) Q) : PW M d n pc ls (.int v :: .int i :: .ref (16 * b + 1) :: st) (hp x) Q := by
  subst hi
  exact as_there hb hd (vp_in_nI he (by decide)) hn (by rw [nI_clamp (by omega)]; exact kk)
theorem al_values {i : Int32} {b : Nat} (hb : b < 10) (hd : decode (mC M) pc = .ok (.iaload, 1)) (hin : vp_in i 18) (kk : PW M d n (pc + 1) ls (.int (sVa (cSt x.1 b) i.toNatClampNeg) :: st) (hp x) Q) : PW M d n pc ls (.int i :: .ref (16 * b + 2) :: st) (hp x) Q :=
  pw_iald hd (hp_st x hb (by decide : 2 < 16)) hin kk
theorem as_values {i : Int32} {v : Int32} {b : Nat} (hb : b < 10) (hd : decode (mC M) pc = .ok (.iastore, 1)) (hin : vp_in i 18) (kk : PW M d n (pc + 1) ls st (hp (uC1 x b (uS2 (cSt x.1 b) (upd (sVa (cSt x.1 b)) i.toNatClampNeg v)))) Q) : PW M d n pc ls (.int v :: .int i :: .ref (16 * b + 2) :: st) (hp x) Q := by
  refine pw_iast hd (hp_st x hb (by decide : 2 < 16)) hin ?_
  rw [iA_st]
  have e := hp_us (x := x) (b := b) (o := 2) (uS2 (cSt x.1 b) (upd (sVa (cSt x.1 b)) i.toNatClampNeg v)) hb (by decide) rfl (fun j _ hj => stcVa b j _ _ hj)
  erw [e]
  exact kk
theorem al_values_e {e : Nat} {i : Int32} {b : Nat} (hb : b < 10) (hd : decode (mC M) pc = .ok (.iaload, 1)) (hi : i = nI e) (he : e < 18) (kk : PW M d n (pc + 1) ls (.int (sVa (cSt x.1 b) e) :: st) (hp x) Q) : PW M d n pc ls (.int i :: .ref (16 * b + 2) :: st) (hp x) Q := by
  subst hi
  exact al_values hb hd (vp_in_nI he (by decide)) (by rw [nI_clamp (by omega)]; exact kk)
theorem as_values_e {e : Nat} {i : Int32} {v : Int32} {b : Nat} (hb : b < 10) (hd : decode (mC M) pc = .ok (.iastore, 1)) (hi : i = nI e) (he : e < 18) (kk : PW M d n (pc + 1) ls st (hp (uC1 x b (uS2 (cSt x.1 b) (upd (sVa (cSt x.1 b)) e v)))) Q) : PW M d n pc ls (.int v :: .int i :: .ref (16 * b + 2) :: st) (hp x) Q := by
  subst hi
  exact as_values hb hd (vp_in_nI he (by decide)) (by rw [nI_clamp (by omega)]; exact kk)
theorem al_lr {i : Int32} {b : Nat} (hb : b < 10) (hd : decode (mC M) pc = .ok (.iaload, 1)) (hin : vp_in i 16) (kk : PW M d n (pc + 1) ls (.int (sLr (cSt x.1 b) i.toNatClampNeg) :: st) (hp x) Q) : PW M d n pc ls (.int i :: .ref (16 * b + 5) :: st) (hp x) Q :=
  pw_iald hd (hp_st x hb (by decide : 5 < 16)) hin kk
theorem as_lr {i : Int32} {v : Int32} {b : Nat} (hb : b < 10) (hd : decode (mC M) pc = .ok (.iastore, 1)) (hin : vp_in i 16) (kk : PW M d n (pc + 1) ls st (hp (uC1 x b (uS4 (cSt x.1 b) (upd (sLr (cSt x.1 b)) i.toNatClampNeg v)))) Q) : PW M d n pc ls (.int v :: .int i :: .ref (16 * b + 5) :: st) (hp x) Q := by
  refine pw_iast hd (hp_st x hb (by decide : 5 < 16)) hin ?_
  rw [iA_st]
  have e := hp_us (x := x) (b := b) (o := 5) (uS4 (cSt x.1 b) (upd (sLr (cSt x.1 b)) i.toNatClampNeg v)) hb (by decide) rfl (fun j _ hj => stcLr b j _ _ hj)
  erw [e]
  exact kk
theorem al_lr_e {e : Nat} {i : Int32} {b : Nat} (hb : b < 10) (hd : decode (mC M) pc = .ok (.iaload, 1)) (hi : i = nI e) (he : e < 16) (kk : PW M d n (pc + 1) ls (.int (sLr (cSt x.1 b) e) :: st) (hp x) Q) : PW M d n pc ls (.int i :: .ref (16 * b + 5) :: st) (hp x) Q := by
  subst hi
  exact al_lr hb hd (vp_in_nI he (by decide)) (by rw [nI_clamp (by omega)]; exact kk)
theorem as_lr_e {e : Nat} {i : Int32} {v : Int32} {b : Nat} (hb : b < 10) (hd : decode (mC M) pc = .ok (.iastore, 1)) (hi : i = nI e) (he : e < 16) (kk : PW M d n (pc + 1) ls st (hp (uC1 x b (uS4 (cSt x.1 b) (upd (sLr (cSt x.1 b)) e v)))) Q) : PW M d n pc ls (.int v :: .int i :: .ref (16 * b + 5) :: st) (hp x) Q := by
  subst hi
  exact as_lr hb hd (vp_in_nI he (by decide)) (by rw [nI_clamp (by omega)]; exact kk)
theorem al_ld {i : Int32} {b : Nat} (hb : b < 10) (hd : decode (mC M) pc = .ok (.iaload, 1)) (hin : vp_in i 16) (kk : PW M d n (pc + 1) ls (.int (sLd (cSt x.1 b) i.toNatClampNeg) :: st) (hp x) Q) : PW M d n pc ls (.int i :: .ref (16 * b + 6) :: st) (hp x) Q :=
  pw_iald hd (hp_st x hb (by decide : 6 < 16)) hin kk
theorem as_ld {i : Int32} {v : Int32} {b : Nat} (hb : b < 10) (hd : decode (mC M) pc = .ok (.iastore, 1)) (hin : vp_in i 16) (kk : PW M d n (pc + 1) ls st (hp (uC1 x b (uS5 (cSt x.1 b) (upd (sLd (cSt x.1 b)) i.toNatClampNeg v)))) Q) : PW M d n pc ls (.int v :: .int i :: .ref (16 * b + 6) :: st) (hp x) Q := by
  refine pw_iast hd (hp_st x hb (by decide : 6 < 16)) hin ?_
  rw [iA_st]
  have e := hp_us (x := x) (b := b) (o := 6) (uS5 (cSt x.1 b) (upd (sLd (cSt x.1 b)) i.toNatClampNeg v)) hb (by decide) rfl (fun j _ hj => stcLd b j _ _ hj)
  erw [e]
  exact kk
theorem al_ld_e {e : Nat} {i : Int32} {b : Nat} (hb : b < 10) (hd : decode (mC M) pc = .ok (.iaload, 1)) (hi : i = nI e) (he : e < 16) (kk : PW M d n (pc + 1) ls (.int (sLd (cSt x.1 b) e) :: st) (hp x) Q) : PW M d n pc ls (.int i :: .ref (16 * b + 6) :: st) (hp x) Q := by
  subst hi
  exact al_ld hb hd (vp_in_nI he (by decide)) (by rw [nI_clamp (by omega)]; exact kk)
theorem as_ld_e {e : Nat} {i : Int32} {v : Int32} {b : Nat} (hb : b < 10) (hd : decode (mC M) pc = .ok (.iastore, 1)) (hi : i = nI e) (he : e < 16) (kk : PW M d n (pc + 1) ls st (hp (uC1 x b (uS5 (cSt x.1 b) (upd (sLd (cSt x.1 b)) e v)))) Q) : PW M d n pc ls (.int v :: .int i :: .ref (16 * b + 6) :: st) (hp x) Q := by
  subst hi
  exact as_ld hb hd (vp_in_nI he (by decide)) (by rw [nI_clamp (by omega)]; exact kk)
theorem al_table {i : Int32} (hd : decode (mC M) pc = .ok (.iaload, 1)) (hin : vp_in i 8) (kk : PW M d n (pc + 1) ls (.int (cCt x.1 i.toNatClampNeg) :: st) (hp x) Q) : PW M d n pc ls (.int i :: .ref 163 :: st) (hp x) Q :=
  pw_iald hd (hp_ot x 3) hin kk
theorem as_table {i : Int32} {v : Int32} (hd : decode (mC M) pc = .ok (.iastore, 1)) (hin : vp_in i 8) (kk : PW M d n (pc + 1) ls st (hp (uC3 x (upd (cCt x.1) i.toNatClampNeg v))) Q) : PW M d n pc ls (.int v :: .int i :: .ref 163 :: st) (hp x) Q := by
  refine pw_iast hd (hp_ot x 3) hin ?_
  rw [iA_st]
  have e := hp_uo (x := x) (y := uC3 x (upd (cCt x.1) i.toNatClampNeg v)) (o := 3) (fun _ => rfl) rfl (fun j hj => by simp only [otc, if_neg hj]; rfl)
  erw [e]
  exact kk
theorem al_table_e {e : Nat} {i : Int32} (hd : decode (mC M) pc = .ok (.iaload, 1)) (hi : i = nI e) (he : e < 8) (kk : PW M d n (pc + 1) ls (.int (cCt x.1 e) :: st) (hp x) Q) : PW M d n pc ls (.int i :: .ref 163 :: st) (hp x) Q := by
  subst hi
  exact al_table hd (vp_in_nI he (by decide)) (by rw [nI_clamp (by omega)]; exact kk)
theorem as_table_e {e : Nat} {i : Int32} {v : Int32} (hd : decode (mC M) pc = .ok (.iastore, 1)) (hi : i = nI e) (he : e < 8) (kk : PW M d n (pc + 1) ls st (hp (uC3 x (upd (cCt x.1) e v))) Q) : PW M d n pc ls (.int v :: .int i :: .ref 163 :: st) (hp x) Q := by
  subst hi
  exact as_table hd (vp_in_nI he (by decide)) (by rw [nI_clamp (by omega)]; exact kk)
theorem al_signs {i : Int32} (hd : decode (mC M) pc = .ok (.caload, 1)) (hin : vp_in i 80) (kk : PW M d n (pc + 1) ls (.int (cSg x.1 i.toNatClampNeg) :: st) (hp x) Q) : PW M d n pc ls (.int i :: .ref 165 :: st) (hp x) Q :=
  pw_cald hd (hp_ot x 5) hin kk
theorem as_signs {i : Int32} {v : Int32} (hd : decode (mC M) pc = .ok (.castore, 1)) (hin : vp_in i 80) (hn : narrow .char (.int v) = .int v) (kk : PW M d n (pc + 1) ls st (hp (uC4 x (upd (cSg x.1) i.toNatClampNeg v))) Q) : PW M d n pc ls (.int v :: .int i :: .ref 165 :: st) (hp x) Q := by
  refine pw_cast hd (hp_ot x 5) hin hn ?_
  rw [iA_st]
  have e := hp_uo (x := x) (y := uC4 x (upd (cSg x.1) i.toNatClampNeg v)) (o := 5) (fun _ => rfl) rfl (fun j hj => by simp only [otc, if_neg hj]; rfl)
  erw [e]
  exact kk
theorem al_signs_e {e : Nat} {i : Int32} (hd : decode (mC M) pc = .ok (.caload, 1)) (hi : i = nI e) (he : e < 80) (kk : PW M d n (pc + 1) ls (.int (cSg x.1 e) :: st) (hp x) Q) : PW M d n pc ls (.int i :: .ref 165 :: st) (hp x) Q := by
  subst hi
  exact al_signs hd (vp_in_nI he (by decide)) (by rw [nI_clamp (by omega)]; exact kk)
theorem as_signs_e {e : Nat} {i : Int32} {v : Int32} (hd : decode (mC M) pc = .ok (.castore, 1)) (hi : i = nI e) (he : e < 80) (hn : narrow .char (.int v) = .int v) (kk : PW M d n (pc + 1) ls st (hp (uC4 x (upd (cSg x.1) e v))) Q) : PW M d n pc ls (.int v :: .int i :: .ref 165 :: st) (hp x) Q := by
  subst hi
  exact as_signs hd (vp_in_nI he (by decide)) hn (by rw [nI_clamp (by omega)]; exact kk)
theorem al_numbers {i : Int32} (hd : decode (mC M) pc = .ok (.iaload, 1)) (hin : vp_in i 4) (kk : PW M d n (pc + 1) ls (.int (cNu x.1 i.toNatClampNeg) :: st) (hp x) Q) : PW M d n pc ls (.int i :: .ref 166 :: st) (hp x) Q :=
  pw_iald hd (hp_ot x 6) hin kk
theorem as_numbers {i : Int32} {v : Int32} (hd : decode (mC M) pc = .ok (.iastore, 1)) (hin : vp_in i 4) (kk : PW M d n (pc + 1) ls st (hp (uC6 x (upd (cNu x.1) i.toNatClampNeg v))) Q) : PW M d n pc ls (.int v :: .int i :: .ref 166 :: st) (hp x) Q := by
  refine pw_iast hd (hp_ot x 6) hin ?_
  rw [iA_st]
  have e := hp_uo (x := x) (y := uC6 x (upd (cNu x.1) i.toNatClampNeg v)) (o := 6) (fun _ => rfl) rfl (fun j hj => by simp only [otc, if_neg hj]; rfl)
  erw [e]
  exact kk
theorem al_numbers_e {e : Nat} {i : Int32} (hd : decode (mC M) pc = .ok (.iaload, 1)) (hi : i = nI e) (he : e < 4) (kk : PW M d n (pc + 1) ls (.int (cNu x.1 e) :: st) (hp x) Q) : PW M d n pc ls (.int i :: .ref 166 :: st) (hp x) Q := by
  subst hi
  exact al_numbers hd (vp_in_nI he (by decide)) (by rw [nI_clamp (by omega)]; exact kk)
theorem as_numbers_e {e : Nat} {i : Int32} {v : Int32} (hd : decode (mC M) pc = .ok (.iastore, 1)) (hi : i = nI e) (he : e < 4) (kk : PW M d n (pc + 1) ls st (hp (uC6 x (upd (cNu x.1) e v))) Q) : PW M d n pc ls (.int v :: .int i :: .ref 166 :: st) (hp x) Q := by
  subst hi
  exact as_numbers hd (vp_in_nI he (by decide)) (by rw [nI_clamp (by omega)]; exact kk)
theorem al_filled {i : Int32} (hd : decode (mC M) pc = .ok (.baload, 1)) (hin : vp_in i 2) (kk : PW M d n (pc + 1) ls (.int (cSf x.1 i.toNatClampNeg) :: st) (hp x) Q) : PW M d n pc ls (.int i :: .ref 170 :: st) (hp x) Q :=
  pw_zald hd (hp_ot x 10) hin kk
theorem as_filled {i : Int32} {v : Int32} (hd : decode (mC M) pc = .ok (.bastore, 1)) (hin : vp_in i 2) (hn : narrow .boolean (.int v) = .int v) (kk : PW M d n (pc + 1) ls st (hp (uC8 x (upd (cSf x.1) i.toNatClampNeg v))) Q) : PW M d n pc ls (.int v :: .int i :: .ref 170 :: st) (hp x) Q := by
  refine pw_zast hd (hp_ot x 10) hin hn ?_
  rw [iA_st]
  have e := hp_uo (x := x) (y := uC8 x (upd (cSf x.1) i.toNatClampNeg v)) (o := 10) (fun _ => rfl) rfl (fun j hj => by simp only [otc, if_neg hj]; rfl)
  erw [e]
  exact kk
theorem al_filled_e {e : Nat} {i : Int32} (hd : decode (mC M) pc = .ok (.baload, 1)) (hi : i = nI e) (he : e < 2) (kk : PW M d n (pc + 1) ls (.int (cSf x.1 e) :: st) (hp x) Q) : PW M d n pc ls (.int i :: .ref 170 :: st) (hp x) Q := by
  subst hi
  exact al_filled hd (vp_in_nI he (by decide)) (by rw [nI_clamp (by omega)]; exact kk)
theorem as_filled_e {e : Nat} {i : Int32} {v : Int32} (hd : decode (mC M) pc = .ok (.bastore, 1)) (hi : i = nI e) (he : e < 2) (hn : narrow .boolean (.int v) = .int v) (kk : PW M d n (pc + 1) ls st (hp (uC8 x (upd (cSf x.1) e v))) Q) : PW M d n pc ls (.int v :: .int i :: .ref 170 :: st) (hp x) Q := by
  subst hi
  exact as_filled hd (vp_in_nI he (by decide)) hn (by rw [nI_clamp (by omega)]; exact kk)
theorem al_out {i : Int32} (hd : decode (mC M) pc = .ok (.iaload, 1)) (hin : vp_in i 1) (kk : PW M d n (pc + 1) ls (.int (x.2.2 i.toNatClampNeg) :: st) (hp x) Q) : PW M d n pc ls (.int i :: .ref 171 :: st) (hp x) Q :=
  pw_iald hd (hp_ot x 11) hin kk
theorem as_out {i : Int32} {v : Int32} (hd : decode (mC M) pc = .ok (.iastore, 1)) (hin : vp_in i 1) (kk : PW M d n (pc + 1) ls st (hp (uO x (upd (x.2.2) i.toNatClampNeg v))) Q) : PW M d n pc ls (.int v :: .int i :: .ref 171 :: st) (hp x) Q := by
  refine pw_iast hd (hp_ot x 11) hin ?_
  rw [iA_st]
  have e := hp_uo (x := x) (y := uO x (upd (x.2.2) i.toNatClampNeg v)) (o := 11) (fun _ => rfl) rfl (fun j hj => by simp only [otc, if_neg hj]; rfl)
  erw [e]
  exact kk
theorem al_out_e {e : Nat} {i : Int32} (hd : decode (mC M) pc = .ok (.iaload, 1)) (hi : i = nI e) (he : e < 1) (kk : PW M d n (pc + 1) ls (.int (x.2.2 e) :: st) (hp x) Q) : PW M d n pc ls (.int i :: .ref 171 :: st) (hp x) Q := by
  subst hi
  exact al_out hd (vp_in_nI he (by decide)) (by rw [nI_clamp (by omega)]; exact kk)
theorem as_out_e {e : Nat} {i : Int32} {v : Int32} (hd : decode (mC M) pc = .ok (.iastore, 1)) (hi : i = nI e) (he : e < 1) (kk : PW M d n (pc + 1) ls st (hp (uO x (upd (x.2.2) e v))) Q) : PW M d n pc ls (.int v :: .int i :: .ref 171 :: st) (hp x) Q := by
  subst hi
  exact as_out hd (vp_in_nI he (by decide)) (by rw [nI_clamp (by omega)]; exact kk)
theorem al_rules {i : Int32} {b : Nat} (hb : b < 10) (hd : decode (mC M) pc = .ok (.aaload, 1)) (hin : vp_in i 8) (kk : PW M d n (pc + 1) ls (.ref (16 * b + (7 + i.toNatClampNeg)) :: st) (hp x) Q) : PW M d n pc ls (.int i :: .ref (16 * b + 3) :: st) (hp x) Q :=
  pw_aald (t0 := 4) hd (hp_st x hb (by decide : 3 < 16)) rfl hin kk
theorem al_rules_e {e : Nat} {i : Int32} {b : Nat} (hb : b < 10) (hd : decode (mC M) pc = .ok (.aaload, 1)) (hi : i = nI e) (he : e < 8) (kk : PW M d n (pc + 1) ls (.ref (16 * b + (7 + e)) :: st) (hp x) Q) : PW M d n pc ls (.int i :: .ref (16 * b + 3) :: st) (hp x) Q := by
  subst hi
  exact al_rules hb hd (vp_in_nI he (by decide)) (by rw [nI_clamp (by omega)]; exact kk)
theorem al_hstates_e {e : Nat} {i : Int32} (hd : decode (mC M) pc = .ok (.aaload, 1)) (hi : i = nI e) (he : e < 6) (kk : PW M d n (pc + 1) ls (.ref (16 * (2 + e)) :: st) (hp x) Q) : PW M d n pc ls (.int i :: .ref 168 :: st) (hp x) Q := by
  subst hi
  exact pw_aald (t0 := 5) hd (hp_ot x 8) rfl (vp_in_nI he (by decide)) (by rw [nI_clamp (by omega)]; exact kk)
theorem al_slots_e {e : Nat} {i : Int32} (hd : decode (mC M) pc = .ok (.aaload, 1)) (hi : i = nI e) (he : e < 2) (kk : PW M d n (pc + 1) ls (.ref (16 * (8 + e)) :: st) (hp x) Q) : PW M d n pc ls (.int i :: .ref 169 :: st) (hp x) Q := by
  subst hi
  exact pw_aald (t0 := 5) hd (hp_ot x 9) rfl (vp_in_nI he (by decide)) (by rw [nI_clamp (by omega)]; exact kk)
theorem al_hstates {i : Int32} (hd : decode (mC M) pc = .ok (.aaload, 1)) (hin : vp_in i 6) (kk : PW M d n (pc + 1) ls (.ref (16 * (2 + i.toNatClampNeg)) :: st) (hp x) Q) : PW M d n pc ls (.int i :: .ref 168 :: st) (hp x) Q :=
  pw_aald (t0 := 5) hd (hp_ot x 8) rfl hin kk
theorem al_slots {i : Int32} (hd : decode (mC M) pc = .ok (.aaload, 1)) (hin : vp_in i 2) (kk : PW M d n (pc + 1) ls (.ref (16 * (8 + i.toNatClampNeg)) :: st) (hp x) Q) : PW M d n pc ls (.int i :: .ref 169 :: st) (hp x) Q :=
  pw_aald (t0 := 5) hd (hp_ot x 9) rfl hin kk
end PWD
