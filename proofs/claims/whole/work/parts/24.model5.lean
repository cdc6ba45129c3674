theorem mkM_cg {p q : Nat → Bool} : ∀ (u : Nat), (∀ j, j < u → p j = q j) → mkM p u = mkM q u
  | 0, _ => rfl
  | u + 1, h => by
    show mkM p u ||| _ = mkM q u ||| _
    rw [mkM_cg u (fun j hj => h j (by omega)), h u (by omega)]
theorem mkM_up {q : Nat → Bool} (u : Nat) : ∀ (k : Nat), (∀ j, u ≤ j → q j = false) → mkM q (u + k) = mkM q u
  | 0, _ => rfl
  | k + 1, h => by
    show mkM q (u + k) ||| (if q (u + k) = true then _ else 0) = _
    rw [h (u + k) (by omega), if_neg (by decide), mkM_up u k h]
    exact Int32.or_zero
theorem mkM_8 (q : Nat → Bool) {u : Nat} (hu : u ≤ 8) : mkM q u = mkM (fun j => q j && decide (j < u)) 8 := by
  have e := mkM_up (q := fun j => q j && decide (j < u)) u (8 - u) (fun j hj => by rw [decide_eq_false (by omega), Bool.and_false])
  rw [show u + (8 - u) = 8 by omega] at e
  rw [e]
  exact mkM_cg u (fun j hj => by rw [decide_eq_true hj, Bool.and_true])
def b8 (a b c d e f g h : Bool) : Nat → Bool
  | 0 => a
  | 1 => b
  | 2 => c
  | 3 => d
  | 4 => e
  | 5 => f
  | 6 => g
  | 7 => h
  | _ => false
theorem mk_b8 (q : Nat → Bool) : mkM q 8 = mkM (b8 (q 0) (q 1) (q 2) (q 3) (q 4) (q 5) (q 6) (q 7)) 8 := rfl
theorem b8_bit : ∀ (a b c d e f g h : Bool) (r : Fin 8), (mkM (b8 a b c d e f g h) 8 >>> (nI r.val &&& 31)) &&& 1 = bI (b8 a b c d e f g h r.val) := by decide +kernel
theorem b8_and : ∀ (a b c d e f g h : Bool) (r : Fin 8), mkM (b8 a b c d e f g h) 8 &&& ((1 : Int32) <<< (nI r.val &&& 31)) = if b8 a b c d e f g h r.val = true then (1 : Int32) <<< (nI r.val &&& 31) else 0 := by decide +kernel
theorem b8_clr : ∀ (a b c d e f g h : Bool) (r : Fin 8), mkM (b8 a b c d e f g h) 8 &&& (((1 : Int32) <<< (nI r.val &&& 31)) ^^^ (-1)) = mkM (fun j => b8 a b c d e f g h j && decide (j ≠ r.val)) 8 := by decide +kernel
theorem b8_ne : ∀ (a b c d e f g h : Bool) (r : Fin 8), b8 a b c d e f g h r.val = true → ¬ mkM (b8 a b c d e f g h) 8 = 0 := by decide +kernel
theorem b8_at (q : Nat → Bool) {r : Nat} (hr : r < 8) : b8 (q 0) (q 1) (q 2) (q 3) (q 4) (q 5) (q 6) (q 7) r = q r := by
  match r, hr with
  | 0, _ => rfl
  | 1, _ => rfl
  | 2, _ => rfl
  | 3, _ => rfl
  | 4, _ => rfl
  | 5, _ => rfl
  | 6, _ => rfl
  | 7, _ => rfl
  | r + 8, h => exact absurd h (by omega)
theorem mk_bit (q : Nat → Bool) {u r : Nat} (hu : u ≤ 8) (hr : r < u) : (mkM q u >>> (nI r &&& 31)) &&& 1 = bI (q r) := by
  rw [mkM_8 q hu, mk_b8]
  refine (b8_bit _ _ _ _ _ _ _ _ ⟨r, by omega⟩).trans ?_
  rw [b8_at (fun j => q j && decide (j < u)) (by omega)]
  dsimp only
  rw [decide_eq_true hr, Bool.and_true]
theorem sh_ne : ∀ (r : Fin 8), ¬ (1 : Int32) <<< (nI r.val &&& 31) = 0 := by decide +kernel
theorem mk_and (q : Nat → Bool) {u r : Nat} (hu : u ≤ 8) (hr : r < u) : mkM q u &&& ((1 : Int32) <<< (nI r &&& 31)) = if q r = true then (1 : Int32) <<< (nI r &&& 31) else 0 := by
  rw [mkM_8 q hu, mk_b8]
  refine (b8_and _ _ _ _ _ _ _ _ ⟨r, by omega⟩).trans ?_
  rw [b8_at (fun j => q j && decide (j < u)) (by omega)]
  dsimp only
  rw [decide_eq_true hr, Bool.and_true]
theorem mk_and0 (q : Nat → Bool) {u r : Nat} (hu : u ≤ 8) (hr : r < u) : mkM q u &&& ((1 : Int32) <<< (nI r &&& 31)) = 0 ↔ q r = false := by
  rw [mk_and q hu hr]
  by_cases h : q r = true
  · rw [if_pos h]; exact ⟨fun e => absurd e (sh_ne ⟨r, by omega⟩), fun e => by rw [h] at e; cases e⟩
  · rw [if_neg h]; exact ⟨fun _ => by cases e : q r <;> first | rfl | exact absurd e h, fun _ => rfl⟩
theorem mk_clr (q : Nat → Bool) {u r : Nat} (hu : u ≤ 8) (hr : r < u) : mkM q u &&& (((1 : Int32) <<< (nI r &&& 31)) ^^^ (-1)) = mkM (fun j => q j && decide (j ≠ r)) u := by
  rw [mkM_8 q hu, mk_b8]
  refine (b8_clr _ _ _ _ _ _ _ _ ⟨r, by omega⟩).trans ?_
  rw [mkM_8 (fun j => q j && decide (j ≠ r)) hu]
  refine mkM_cg 8 (fun j hj => ?_)
  rw [b8_at (fun j => q j && decide (j < u)) hj]
  dsimp only
  cases q j <;> cases decide (j < u) <;> cases decide (j ≠ r) <;> rfl
theorem mk_ne (q : Nat → Bool) {u r : Nat} (hu : u ≤ 8) (hr : r < u) (h : q r = true) : ¬ mkM q u = 0 := by
  rw [mkM_8 q hu, mk_b8]
  refine b8_ne _ _ _ _ _ _ _ _ ⟨r, by omega⟩ ?_
  rw [b8_at (fun j => q j && decide (j < u)) (by omega)]
  dsimp only
  rw [decide_eq_true hr, Bool.and_true, h]
theorem mk_0 (q : Nat → Bool) : ∀ (u : Nat), (∀ j, j < u → q j = false) → mkM q u = 0
  | 0, _ => rfl
  | u + 1, h => by
    show mkM q u ||| (if q u = true then _ else 0) = 0
    rw [mk_0 q u (fun j hj => h j (by omega)), h u (by omega), if_neg (by decide)]
    exact Int32.or_zero
def pge (p : Nat → Bool) (i : Nat) : Nat → Bool := fun j => p j && decide (i ≤ j)
theorem pge_0 (p : Nat → Bool) (u : Nat) : mkM p u = mkM (pge p 0) u := mkM_cg u (fun j _ => by unfold pge; rw [decide_eq_true (by omega), Bool.and_true])
theorem pge_u (p : Nat → Bool) (u : Nat) : mkM (pge p u) u = 0 := mk_0 _ u (fun j hj => by unfold pge; rw [decide_eq_false (by omega), Bool.and_false])
theorem pge_f (p : Nat → Bool) (i u : Nat) (h : p i = false) : mkM (pge p i) u = mkM (pge p (i + 1)) u := mkM_cg u (fun j _ => by
  unfold pge
  by_cases e : j = i
  · rw [e, h]; rfl
  · rw [show decide (i ≤ j) = decide (i + 1 ≤ j) from by by_cases q : i ≤ j <;> simp [q] <;> omega])
theorem pge_t (p : Nat → Bool) {i u : Nat} (hu : u ≤ 8) (hi : i < u) : mkM (pge p i) u &&& (((1 : Int32) <<< (nI i &&& 31)) ^^^ (-1)) = mkM (pge p (i + 1)) u := by
  rw [mk_clr _ hu hi]
  refine mkM_cg u (fun j _ => ?_)
  unfold pge
  rw [Bool.and_assoc]
  refine congrArg (fun b => p j && b) ?_
  by_cases q : i ≤ j <;> by_cases w : j = i <;> simp [q, w] <;> omega
/-- a statement under way: the numbers, happened, deepest, refused -/
abbrev TT : Type := (Nat → Int32) × Int32 × Int32 × Int32
abbrev tX (x : XW) : TT := (mS x.2.1, mF x.2.1 12, mF x.2.1 11, mF x.2.1 13)
def bgT (u : Nat) (t : TT) (ev : Int32) (r c : Nat) (v : Int32) (its : Nat) : TT :=
  if bgC t.1 u t.2.1 ev r c v (nI its) = 0 then (alt t.1 ev r c v, t.2.1 + 1, mx (nI its) t.2.2.1, 0) else (t.1, t.2.1, t.2.2.1, bgC t.1 u t.2.1 ev r c v (nI its))
def lpT (F : Nat → TT → TT) (p : Nat → Bool) : Nat → Nat → TT → TT
  | 0, _, t => t
  | k + 1, i, t => lpT F p k (i + 1) (if p i = true ∧ t.2.2.2 = 0 then F i t else t)
def acT (H : TT → Int32 → Nat → Nat → Int32 → Nat → TT) (d i : Nat) (t : TT) : TT :=
  if rN t.1 i 3 = 0 ∨ lgS t.1 i (nI d) (ro t.1 i) = 0 then (lgS t.1 i (nI d), t.2)
  else if rN t.1 i 3 = 3 then H (lgS t.1 i (nI d), t.2) 2 (ro t.1 i) 0 0 (d + 1)
  else if inR (lgS t.1 i (nI d) (6 + 3 * ro t.1 i + co t.1 i) + rN t.1 i 6) 0 999 = false then (lgS t.1 i (nI d), t.2.1, t.2.2.1, 2)
  else if lgS t.1 i (nI d) (6 + 3 * ro t.1 i + co t.1 i) + rN t.1 i 6 = lgS t.1 i (nI d) (6 + 3 * ro t.1 i + co t.1 i) then (lgS t.1 i (nI d), t.2)
  else H (lgS t.1 i (nI d), t.2) 1 (ro t.1 i) (co t.1 i) (lgS t.1 i (nI d) (6 + 3 * ro t.1 i + co t.1 i) + rN t.1 i 6) (d + 1)
def hapT (u : Nat) : Nat → TT → Int32 → Nat → Nat → Int32 → Nat → TT
  | 0, t, ev, r, c, v, its => bgT u t ev r c v its
  | f + 1, t, ev, r, c, v, its => if bgC t.1 u t.2.1 ev r c v (nI its) = 0 then lpT (acT (hapT u f) its) (mtC t.1 ev r (nI c) v false) u 0 (bgT u t ev r c v its) else bgT u t ev r c v its
theorem lpT_stop (F : Nat → TT → TT) (p : Nat → Bool) : ∀ (k i : Nat) (t : TT), ¬ t.2.2.2 = 0 → lpT F p k i t = t
  | 0, _, _, _ => rfl
  | k + 1, i, t, h => by
    show lpT F p k (i + 1) (if _ then _ else _) = _
    rw [if_neg (fun q => h q.2), lpT_stop F p k (i + 1) t h]
theorem hapT_bad (u f : Nat) (t : TT) (ev : Int32) (r c : Nat) (v : Int32) (its : Nat) (h : ¬ bgC t.1 u t.2.1 ev r c v (nI its) = 0) : hapT u f t ev r c v its = bgT u t ev r c v its := by
  cases f with
  | zero => rfl
  | succ f => exact if_neg h
theorem tX_bg (x : XW) (u : Nat) (ev : Int32) (r c : Nat) (v : Int32) (its : Nat) : tX (bgX x u ev r c v its) = bgT u (tX x) ev r c v its := by
  unfold bgX bgT
  by_cases h : bgC (mS x.2.1) u (mF x.2.1 12) ev r c v (nI its) = 0
  · rw [if_pos h, if_pos h]; rfl
  · rw [if_neg h, if_neg h]; rfl
/-- what acts does, in three kinds -/
theorem acX_cs (x : XW) {u i : Nat} (d : Nat) (hv : VS u (mS x.2.1)) (hi : i < u) :
    (∃ b x2, acX x u i d = (b, x2) ∧ (b = decide (mF x2.2.1 13 = mF x.2.1 13) ∨ mF x2.2.1 13 = 2) ∧ (b = true → x2 = uM1 x (lgS (mS x.2.1) i (nI d))) ∧ (b = false → x2 = uM7 (uM1 x (lgS (mS x.2.1) i (nI d))) (upd (mF x.2.1) 13 2)) ∧ ∀ H, acT H d i (tX x) = tX x2) ∨
    (∃ ev r c v, r < 6 ∧ c < 3 ∧ acX x u i d = (decide (bgC (lgS (mS x.2.1) i (nI d)) u (mF x.2.1 12) ev r c v (nI (d + 1)) = 0), bgX (uM1 x (lgS (mS x.2.1) i (nI d))) u ev r c v (d + 1)) ∧ ∀ H, acT H d i (tX x) = H (lgS (mS x.2.1) i (nI d), (tX x).2) ev r c v (d + 1)) := by
  obtain ⟨er, hr⟩ := ro_e hv hi
  obtain ⟨ec, hc⟩ := co_e hv hi
  unfold acX acT
  dsimp only
  by_cases h1 : rN (mS x.2.1) i 3 = 0 ∨ lgS (mS x.2.1) i (nI d) (ro (mS x.2.1) i) = 0
  · refine .inl ⟨true, uM1 x (lgS (mS x.2.1) i (nI d)), if_pos h1, .inl ?_, fun _ => rfl, fun h => (by cases h), fun H => if_pos h1⟩
    exact (decide_eq_true rfl).symm
  · by_cases h2 : rN (mS x.2.1) i 3 = 3
    · exact .inr ⟨2, _, 0, 0, hr, by decide, (if_neg h1).trans (if_pos h2), fun H => (if_neg h1).trans (if_pos h2)⟩
    · by_cases h3 : inR (lgS (mS x.2.1) i (nI d) (6 + 3 * ro (mS x.2.1) i + co (mS x.2.1) i) + rN (mS x.2.1) i 6) 0 999 = false
      · exact .inl ⟨false, _, (if_neg h1).trans ((if_neg h2).trans (if_pos h3)), .inr rfl, fun h => (by cases h), fun _ => rfl, fun H => (if_neg h1).trans ((if_neg h2).trans (if_pos h3))⟩
      · by_cases h4 : lgS (mS x.2.1) i (nI d) (6 + 3 * ro (mS x.2.1) i + co (mS x.2.1) i) + rN (mS x.2.1) i 6 = lgS (mS x.2.1) i (nI d) (6 + 3 * ro (mS x.2.1) i + co (mS x.2.1) i)
        · refine .inl ⟨true, uM1 x (lgS (mS x.2.1) i (nI d)), (if_neg h1).trans ((if_neg h2).trans ((if_neg h3).trans (if_pos h4))), .inl ?_, fun _ => rfl, fun h => (by cases h), fun H => (if_neg h1).trans ((if_neg h2).trans ((if_neg h3).trans (if_pos h4)))⟩
          exact (decide_eq_true rfl).symm
        · exact .inr ⟨1, _, _, _, hr, hc, (if_neg h1).trans ((if_neg h2).trans ((if_neg h3).trans (if_neg h4))), fun H => (if_neg h1).trans ((if_neg h2).trans ((if_neg h3).trans (if_neg h4)))⟩
/-- what stays of T through a run -/
def KV (u : Nat) (s : Nat → Int32) (t : TT) : Prop := VS u t.1 ∧ SR s t.1
theorem bgT_KV {u : Nat} {s : Nat → Int32} {t : TT} (h : KV u s t) (ev : Int32) {r c : Nat} (v : Int32) (its : Nat) (hr : r < 6) (hc : c < 3) : KV u s (bgT u t ev r c v its) := by
  unfold bgT
  by_cases e : bgC t.1 u t.2.1 ev r c v (nI its) = 0
  · rw [if_pos e]; exact ⟨alt_VS h.1 ev v hr hc, h.2.tr (fun j a _ _ => alt_nt _ ev v hr hc a)⟩
  · rw [if_neg e]; exact h
theorem lpT_KV {u : Nat} {s : Nat → Int32} {F : Nat → TT → TT} (hF : ∀ i t, i < u → KV u s t → KV u s (F i t)) (p : Nat → Bool) : ∀ (k i : Nat) (t : TT), i + k = u → KV u s t → KV u s (lpT F p k i t)
  | 0, _, _, _, h => h
  | k + 1, i, t, e, h => by
    refine lpT_KV hF p k (i + 1) _ (by omega) ?_
    by_cases q : p i = true ∧ t.2.2.2 = 0
    · rw [if_pos q]; exact hF i t (by omega) h
    · rw [if_neg q]; exact h
theorem acT_KV {u : Nat} {s : Nat → Int32} {H : TT → Int32 → Nat → Nat → Int32 → Nat → TT} (hH : ∀ t ev r c v d, r < 6 → c < 3 → KV u s t → KV u s (H t ev r c v d)) (d : Nat) (i : Nat) (t : TT) (hi : i < u) (h : KV u s t) : KV u s (acT H d i t) := by
  obtain ⟨er, hr⟩ := ro_e h.1 hi
  obtain ⟨ec, hc⟩ := co_e h.1 hi
  have h1 : ∀ w, KV u s (lgS t.1 i (nI d), w) := fun w => ⟨lgS_VS h.1 _ hi, h.2.tr (lgS_SR _ _ _)⟩
  unfold acT
  split
  · exact h1 _
  · split
    · exact hH _ _ _ _ _ _ hr (by decide) (h1 _)
    · split
      · exact h1 _
      · split
        · exact h1 _
        · exact hH _ _ _ _ _ _ hr hc (h1 _)
theorem hapT_KV (u : Nat) (s : Nat → Int32) : ∀ (f : Nat) (t : TT) (ev : Int32) (r c : Nat) (v : Int32) (d : Nat), r < 6 → c < 3 → KV u s t → KV u s (hapT u f t ev r c v d)
  | 0, t, ev, r, c, v, d, hr, hc, h => bgT_KV h ev v d hr hc
  | f + 1, t, ev, r, c, v, d, hr, hc, h => by
    show KV u s (if _ then _ else _)
    split
    · exact lpT_KV (fun i t hi ht => acT_KV (fun t ev r c v d => hapT_KV u s f t ev r c v d) d i t hi ht) _ u 0 _ (by omega) (bgT_KV h ev v d hr hc)
    · exact bgT_KV h ev v d hr hc
/-- all but the statement's own numbers, and the waiting ones from a level on -/
def FR (j : Nat) (x y : XW) : Prop := y.1 = x.1 ∧ y.2.2 = x.2.2 ∧ mA y.2.1 = mA x.2.1 ∧ mHi y.2.1 = mHi x.2.1 ∧ mSl y.2.1 = mSl x.2.1 ∧ mTx y.2.1 = mTx x.2.1 ∧ (∀ k, k ≠ 10 → k ≠ 11 → k ≠ 12 → k ≠ 13 → mF y.2.1 k = mF x.2.1 k) ∧ ∀ k, k < j → mWa y.2.1 k = mWa x.2.1 k
theorem FR.rf (j : Nat) (x : XW) : FR j x x := ⟨rfl, rfl, rfl, rfl, rfl, rfl, fun _ _ _ _ _ => rfl, fun _ _ => rfl⟩
theorem FR.tr {j : Nat} {x y z : XW} (h : FR j x y) (g : FR j y z) : FR j x z := by
  obtain ⟨a1, a2, a3, a4, a5, a6, a7, a8⟩ := h
  obtain ⟨b1, b2, b3, b4, b5, b6, b7, b8⟩ := g
  exact ⟨b1.trans a1, b2.trans a2, b3.trans a3, b4.trans a4, b5.trans a5, b6.trans a6, fun k q w e r => (b7 k q w e r).trans (a7 k q w e r), fun k hk => (b8 k hk).trans (a8 k hk)⟩
theorem FR.lo {j i : Nat} {x y : XW} (h : FR j x y) (hi : i ≤ j) : FR i x y := by
  obtain ⟨a1, a2, a3, a4, a5, a6, a7, a8⟩ := h
  exact ⟨a1, a2, a3, a4, a5, a6, a7, fun k hk => a8 k (by omega)⟩
theorem FR.s {j : Nat} (x : XW) (f : Nat → Int32) : FR j x (uM1 x f) := ⟨rfl, rfl, rfl, rfl, rfl, rfl, fun _ _ _ _ _ => rfl, fun _ _ => rfl⟩
theorem FR.w {j : Nat} (x : XW) (i : Nat) (v : Int32) (h : j ≤ i) : FR j x (uM6 x (upd (mWa x.2.1) i v)) := ⟨rfl, rfl, rfl, rfl, rfl, rfl, fun _ _ _ _ _ => rfl, fun k hk => upd_nt _ _ (by omega)⟩
theorem FR.f {j : Nat} (x : XW) (i : Nat) (v : Int32) (h : i = 10 ∨ i = 11 ∨ i = 12 ∨ i = 13) : FR j x (uM7 x (upd (mF x.2.1) i v)) := ⟨rfl, rfl, rfl, rfl, rfl, rfl, fun k _ _ _ _ => upd_nt _ _ (by omega), fun k hk => rfl⟩
theorem FR.bg {j : Nat} (x : XW) (u : Nat) (ev : Int32) (r c : Nat) (v : Int32) (its : Nat) (h : j ≤ its) : FR j x (bgX x u ev r c v its) := by
  unfold bgX
  split
  · exact ⟨rfl, rfl, rfl, rfl, rfl, rfl, fun k a b c d => by show upd _ _ _ k = _; rw [upd_nt _ _ c, upd_nt _ _ b, upd_nt _ _ a, upd_nt _ _ d], fun k hk => upd_nt _ _ (by omega)⟩
  · exact FR.f x 13 _ (by omega)
