def inR (v lo hi : Int32) : Bool := decide (¬ v < lo) && decide (¬ hi < v)
def smN (f : Nat → Int32) : Nat → Int32
  | 0 => 0
  | k + 1 => smN f k + f k
theorem upd_at (f : Nat → Int32) (k : Nat) (x : Int32) : upd f k x k = x := if_pos rfl
theorem upd_nt (f : Nat → Int32) {k j : Nat} (x : Int32) (h : j ≠ k) : upd f k x j = f j := if_neg h
def rN (s : Nat → Int32) (i k : Nat) : Int32 := s (26 + 9 * i + k)
def mkM (p : Nat → Bool) : Nat → Int32
  | 0 => 0
  | k + 1 => mkM p k ||| (if p k = true then 1 <<< (nI k &&& 31) else 0)
def seeN (s : Nat → Int32) (ev : Int32) (r : Nat) (v : Int32) (i : Nat) : Int32 := if ev = 1 then v else s (6 + 3 * r + (rN s i 1).toNatClampNeg)
def mtB (s : Nat → Int32) (ev : Int32) (r : Nat) (col v : Int32) (i : Nat) : Bool :=
  decide (rN s i 7 = 0) && (decide (rN s i 0 = ev) && ((decide (¬ ev = 1) || decide (rN s i 1 = col)) && decide (¬ seeN s ev r v i < rN s i 2)))
def mtC (s : Nat → Int32) (ev : Int32) (r : Nat) (col v : Int32) (isR : Bool) (i : Nat) : Bool := mtB s ev r col v i && (decide (rN s i 3 = 1) == isR)
/-- what the model's numbers keep between calls -/
def VS (u : Nat) (s : Nat → Int32) : Prop := u ≤ 8 ∧ s 25 = nI u ∧ (∃ dp, dp ≤ 5 ∧ s 24 = nI dp) ∧ (∃ l, l ≤ 16 ∧ s 99 = nI l) ∧ (∀ j, j < 6 → s j = 0 ∨ s j = 1) ∧ ∀ i, i < u → (∃ c, c < 3 ∧ rN s i 1 = nI c) ∧ (∃ r, r < 6 ∧ rN s i 4 = nI r) ∧ (∃ c, c < 3 ∧ rN s i 5 = nI c) ∧ (rN s i 7 = 0 ∨ rN s i 7 = 1) ∧ (rN s i 3 = 0 ∨ rN s i 3 = 1 ∨ rN s i 3 = 2 ∨ rN s i 3 = 3)
/-- the same rules, acts aside -/
def SR (s t : Nat → Int32) : Prop := ∀ j, 24 ≤ j → j < 98 → (∀ i, j ≠ 26 + 9 * i + 8) → t j = s j
theorem SR.rf (s : Nat → Int32) : SR s s := fun _ _ _ _ => rfl
theorem SR.tr {s t w : Nat → Int32} (h : SR s t) (g : SR t w) : SR s w := fun j a b c => (g j a b c).trans (h j a b c)
theorem SR.ru {s t : Nat → Int32} (h : SR s t) {i k : Nat} (hi : i < 8) (hk : k < 8) : rN t i k = rN s i k := h _ (by omega) (by omega) (fun j => by omega)
theorem VS.of {u : Nat} {s t : Nat → Int32} (h : VS u s) (g : SR s t) (h5 : ∃ l, l ≤ 16 ∧ t 99 = nI l) (h6 : ∀ j, j < 6 → t j = 0 ∨ t j = 1) : VS u t := by
  obtain ⟨a, b, c, d, e, f⟩ := h
  refine ⟨a, by rw [g 25 (by omega) (by omega) (fun i => by omega)]; exact b, by rw [g 24 (by omega) (by omega) (fun i => by omega)]; exact c, h5, h6, fun i hi => ?_⟩
  rw [g.ru (k := 1) (by omega) (by omega), g.ru (k := 4) (by omega) (by omega), g.ru (k := 5) (by omega) (by omega), g.ru (k := 7) (by omega) (by omega), g.ru (k := 3) (by omega) (by omega)]
  exact f i hi
def lgL (s : Nat → Int32) : Nat := if s 99 = 16 then 15 else (s 99).toNatClampNeg
def shD (L k : Nat) (s : Nat → Int32) : Nat → Int32 := fun j => if (100 + k < j ∧ j ≤ 100 + L) ∨ (116 + k < j ∧ j ≤ 116 + L) then s (j - 1) else s j
def lgS (s : Nat → Int32) (i : Nat) (d : Int32) : Nat → Int32 :=
  upd (upd (upd (upd (shD (lgL s) 0 s) 100 (nI i)) 116 d) 99 (nI (lgL s + 1))) (26 + 9 * i + 8) (s (26 + 9 * i + 8) + 1)
theorem lgS_nt (s : Nat → Int32) (i : Nat) (d : Int32) {j : Nat} (h : j < 99) (hi : j ≠ 26 + 9 * i + 8) : lgS s i d j = s j := by
  unfold lgS; rw [upd_nt _ _ hi, upd_nt _ _ (by omega), upd_nt _ _ (by omega), upd_nt _ _ (by omega)]; unfold shD; rw [if_neg (by omega)]
theorem lgS_99 (s : Nat → Int32) {i : Nat} (d : Int32) (hi : i < 8) : lgS s i d 99 = nI (lgL s + 1) := by
  unfold lgS; rw [upd_nt _ _ (by omega), upd_at]
theorem lgS_SR (s : Nat → Int32) (i : Nat) (d : Int32) : SR s (lgS s i d) := fun j _ b c => lgS_nt s i d (by omega) (c i)
theorem lgL_le {u : Nat} {s : Nat → Int32} (h : VS u s) : lgL s ≤ 15 := by
  obtain ⟨_, _, _, ⟨l, hl, e⟩, _⟩ := h
  unfold lgL
  by_cases c : s 99 = 16
  · rw [if_pos c]; exact Nat.le_refl _
  · rw [if_neg c, e, nI_clamp (by omega)]
    have : l ≠ 16 := fun q => c (by rw [e, q]; rfl)
    omega
theorem lgS_VS {u : Nat} {s : Nat → Int32} (h : VS u s) {i : Nat} (d : Int32) (hi : i < u) : VS u (lgS s i d) :=
  h.of (lgS_SR s i d) ⟨_, Nat.succ_le_succ (lgL_le h), lgS_99 s d (by have := h.1; omega)⟩ (fun j hj => by rw [lgS_nt s i d (by omega) (by omega)]; exact h.2.2.2.2.1 j hj)
def alt (s : Nat → Int32) (ev : Int32) (r c : Nat) (v : Int32) : Nat → Int32 := if ev = 1 then upd s (6 + 3 * r + c) v else upd s r (if ev = 0 then 1 else 0)
theorem alt_nt (s : Nat → Int32) (ev : Int32) {r c : Nat} (v : Int32) {j : Nat} (hr : r < 6) (hc : c < 3) (h : 24 ≤ j) : alt s ev r c v j = s j := by
  unfold alt; by_cases e : ev = 1
  · rw [if_pos e]; exact upd_nt _ _ (by omega)
  · rw [if_neg e]; exact upd_nt _ _ (by omega)
theorem alt_VS {u : Nat} {s : Nat → Int32} (h : VS u s) (ev : Int32) {r c : Nat} (v : Int32) (hr : r < 6) (hc : c < 3) : VS u (alt s ev r c v) := by
  refine h.of (fun j a _ _ => alt_nt s ev v hr hc a) (by rw [alt_nt s ev v hr hc (by omega)]; exact h.2.2.2.1) (fun j hj => ?_)
  unfold alt; by_cases e : ev = 1
  · rw [if_pos e, upd_nt _ _ (by omega)]; exact h.2.2.2.2.1 j hj
  · rw [if_neg e]
    unfold upd
    by_cases q : j = r
    · rw [if_pos q]; by_cases z : ev = 0
      · rw [if_pos z]; exact .inr rfl
      · rw [if_neg z]; exact .inl rfl
    · rw [if_neg q]; exact h.2.2.2.2.1 j hj
def bgC (s : Nat → Int32) (u : Nat) (hp : Int32) (ev : Int32) (r c : Nat) (v its : Int32) : Int32 :=
  if ¬ its ≤ s 24 then 3 else if hp = 100 then 4 else if ¬ mkM (mtC s ev r (nI c) v true) u = 0 then 5 else 0
theorem bgC_cs (s : Nat → Int32) (u : Nat) (hp : Int32) (ev : Int32) (r c : Nat) (v its : Int32) : bgC s u hp ev r c v its = 3 ∨ bgC s u hp ev r c v its = 4 ∨ bgC s u hp ev r c v its = 5 ∨ (bgC s u hp ev r c v its = 0 ∧ its ≤ s 24) := by
  unfold bgC
  by_cases a : ¬ its ≤ s 24
  · rw [if_pos a]; exact .inl rfl
  · rw [if_neg a]; by_cases b : hp = 100
    · rw [if_pos b]; exact .inr (.inl rfl)
    · rw [if_neg b]; by_cases c : ¬ mkM (mtC s ev r (nI ‹Nat›) v true) u = 0
      · exact .inr (.inr (.inl (by first | exact if_pos c | (split <;> simp_all))))
      · exact .inr (.inr (by split <;> simp_all))
def mx (a b : Int32) : Int32 := if a ≤ b then b else a
def ro (s : Nat → Int32) (i : Nat) : Nat := (rN s i 4).toNatClampNeg
def co (s : Nat → Int32) (i : Nat) : Nat := (rN s i 5).toNatClampNeg
theorem ro_e {u : Nat} {s : Nat → Int32} (h : VS u s) {i : Nat} (hi : i < u) : rN s i 4 = nI (ro s i) ∧ ro s i < 6 := by
  obtain ⟨r, h6, e⟩ := (h.2.2.2.2.2 i hi).2.1
  unfold ro; rw [e, nI_clamp (by omega)]; exact ⟨rfl, h6⟩
theorem co_e {u : Nat} {s : Nat → Int32} (h : VS u s) {i : Nat} (hi : i < u) : rN s i 5 = nI (co s i) ∧ co s i < 3 := by
  obtain ⟨r, h6, e⟩ := (h.2.2.2.2.2 i hi).2.2.1
  unfold co; rw [e, nI_clamp (by omega)]; exact ⟨rfl, h6⟩
theorem mkM_cg {p q : Nat → Bool} : ∀ (u : Nat), (∀ j, j < u → p j = q j) → mkM p u = mkM q u
  | 0, _ => rfl
  | u + 1, h => by
    show mkM p u ||| _ = mkM q u ||| _
    rw [mkM_cg u (fun j hj => h j (by omega)), h u (by omega)]
theorem mkM_up {q : Nat → Bool} (u : Nat) : ∀ (k : Nat), (∀ j, u ≤ j → q j = false) → mkM q (u + k) = mkM q u
  | 0, _ => rfl
  | k + 1, h => by
    show mkM q (u + k) ||| (if q (u + k) = true then _ else 0) = _
    rw [h (u + k) (by omega), if_neg (by decide), mkM_up u k h]
    exact Int32.or_zero
theorem mkM_8 (q : Nat → Bool) {u : Nat} (hu : u ≤ 8) : mkM q u = mkM (fun j => q j && decide (j < u)) 8 := by
  have e := mkM_up (q := fun j => q j && decide (j < u)) u (8 - u) (fun j hj => by rw [decide_eq_false (by omega), Bool.and_false])
  rw [show u + (8 - u) = 8 by omega] at e
  rw [e]
  exact mkM_cg u (fun j hj => by rw [decide_eq_true hj, Bool.and_true])
def b8 (a b c d e f g h : Bool) : Nat → Bool
  | 0 => a
  | 1 => b
  | 2 => c
  | 3 => d
  | 4 => e
  | 5 => f
  | 6 => g
  | 7 => h
  | _ => false
theorem mk_b8 (q : Nat → Bool) : mkM q 8 = mkM (b8 (q 0) (q 1) (q 2) (q 3) (q 4) (q 5) (q 6) (q 7)) 8 := rfl
theorem b8_and : ∀ (a b c d e f g h : Bool) (r : Fin 8), mkM (b8 a b c d e f g h) 8 &&& ((1 : Int32) <<< (nI r.val &&& 31)) = if b8 a b c d e f g h r.val = true then (1 : Int32) <<< (nI r.val &&& 31) else 0 := by decide +kernel
theorem b8_ne : ∀ (a b c d e f g h : Bool) (r : Fin 8), b8 a b c d e f g h r.val = true → ¬ mkM (b8 a b c d e f g h) 8 = 0 := by decide +kernel
theorem b8_at (q : Nat → Bool) {r : Nat} (hr : r < 8) : b8 (q 0) (q 1) (q 2) (q 3) (q 4) (q 5) (q 6) (q 7) r = q r := by
  match r, hr with
  | 0, _ => rfl
  | 1, _ => rfl
  | 2, _ => rfl
  | 3, _ => rfl
  | 4, _ => rfl
  | 5, _ => rfl
  | 6, _ => rfl
  | 7, _ => rfl
  | r + 8, h => exact absurd h (by omega)
theorem sh_ne : ∀ (r : Fin 8), ¬ (1 : Int32) <<< (nI r.val &&& 31) = 0 := by decide +kernel
theorem mk_and (q : Nat → Bool) {u r : Nat} (hu : u ≤ 8) (hr : r < u) : mkM q u &&& ((1 : Int32) <<< (nI r &&& 31)) = if q r = true then (1 : Int32) <<< (nI r &&& 31) else 0 := by
  rw [mkM_8 q hu, mk_b8]
  refine (b8_and _ _ _ _ _ _ _ _ ⟨r, by omega⟩).trans ?_
  rw [b8_at (fun j => q j && decide (j < u)) (by omega)]
  dsimp only
  rw [decide_eq_true hr, Bool.and_true]
theorem mk_and0 (q : Nat → Bool) {u r : Nat} (hu : u ≤ 8) (hr : r < u) : mkM q u &&& ((1 : Int32) <<< (nI r &&& 31)) = 0 ↔ q r = false := by
  rw [mk_and q hu hr]
  by_cases h : q r = true
  · rw [if_pos h]; exact ⟨fun e => absurd e (sh_ne ⟨r, by omega⟩), fun e => by rw [h] at e; cases e⟩
  · rw [if_neg h]; exact ⟨fun _ => by cases e : q r <;> first | rfl | exact absurd e h, fun _ => rfl⟩
theorem mk_ne (q : Nat → Bool) {u r : Nat} (hu : u ≤ 8) (hr : r < u) (h : q r = true) : ¬ mkM q u = 0 := by
  rw [mkM_8 q hu, mk_b8]
  refine b8_ne _ _ _ _ _ _ _ _ ⟨r, by omega⟩ ?_
  rw [b8_at (fun j => q j && decide (j < u)) (by omega)]
  dsimp only
  rw [decide_eq_true hr, Bool.and_true, h]
theorem mk_0 (q : Nat → Bool) : ∀ (u : Nat), (∀ j, j < u → q j = false) → mkM q u = 0
  | 0, _ => rfl
  | u + 1, h => by
    show mkM q u ||| (if q u = true then _ else 0) = 0
    rw [mk_0 q u (fun j hj => h j (by omega)), h u (by omega), if_neg (by decide)]
    exact Int32.or_zero
/-- a statement under way: the numbers, happened, deepest, refused -/
abbrev TT : Type := (Nat → Int32) × Int32 × Int32 × Int32
def bgT (u : Nat) (t : TT) (ev : Int32) (r c : Nat) (v : Int32) (its : Nat) : TT :=
  if bgC t.1 u t.2.1 ev r c v (nI its) = 0 then (alt t.1 ev r c v, t.2.1 + 1, mx (nI its) t.2.2.1, 0) else (t.1, t.2.1, t.2.2.1, bgC t.1 u t.2.1 ev r c v (nI its))
def lpT (F : Nat → TT → TT) (p : Nat → Bool) : Nat → Nat → TT → TT
  | 0, _, t => t
  | k + 1, i, t => lpT F p k (i + 1) (if p i = true ∧ t.2.2.2 = 0 then F i t else t)
def acT (H : TT → Int32 → Nat → Nat → Int32 → Nat → TT) (d i : Nat) (t : TT) : TT :=
  if rN t.1 i 3 = 0 ∨ lgS t.1 i (nI d) (ro t.1 i) = 0 then (lgS t.1 i (nI d), t.2)
  else if rN t.1 i 3 = 3 then H (lgS t.1 i (nI d), t.2) 2 (ro t.1 i) 0 0 (d + 1)
  else if inR (lgS t.1 i (nI d) (6 + 3 * ro t.1 i + co t.1 i) + rN t.1 i 6) 0 999 = false then (lgS t.1 i (nI d), t.2.1, t.2.2.1, 2)
  else if lgS t.1 i (nI d) (6 + 3 * ro t.1 i + co t.1 i) + rN t.1 i 6 = lgS t.1 i (nI d) (6 + 3 * ro t.1 i + co t.1 i) then (lgS t.1 i (nI d), t.2)
  else H (lgS t.1 i (nI d), t.2) 1 (ro t.1 i) (co t.1 i) (lgS t.1 i (nI d) (6 + 3 * ro t.1 i + co t.1 i) + rN t.1 i 6) (d + 1)
def hapT (u : Nat) : Nat → TT → Int32 → Nat → Nat → Int32 → Nat → TT
  | 0, t, ev, r, c, v, its => bgT u t ev r c v its
  | f + 1, t, ev, r, c, v, its => if bgC t.1 u t.2.1 ev r c v (nI its) = 0 then lpT (acT (hapT u f) its) (mtC t.1 ev r (nI c) v false) u 0 (bgT u t ev r c v its) else bgT u t ev r c v its
theorem lpT_stop (F : Nat → TT → TT) (p : Nat → Bool) : ∀ (k i : Nat) (t : TT), ¬ t.2.2.2 = 0 → lpT F p k i t = t
  | 0, _, _, _ => rfl
  | k + 1, i, t, h => by
    show lpT F p k (i + 1) (if _ then _ else _) = _
    rw [if_neg (fun q => h q.2), lpT_stop F p k (i + 1) t h]
theorem hapT_bad (u f : Nat) (t : TT) (ev : Int32) (r c : Nat) (v : Int32) (its : Nat) (h : ¬ bgC t.1 u t.2.1 ev r c v (nI its) = 0) : hapT u f t ev r c v its = bgT u t ev r c v its := by
  cases f with
  | zero => rfl
  | succ f => exact if_neg h
/-- what stays of T through a run -/
def KV (u : Nat) (s : Nat → Int32) (t : TT) : Prop := VS u t.1 ∧ SR s t.1
theorem bgT_KV {u : Nat} {s : Nat → Int32} {t : TT} (h : KV u s t) (ev : Int32) {r c : Nat} (v : Int32) (its : Nat) (hr : r < 6) (hc : c < 3) : KV u s (bgT u t ev r c v its) := by
  unfold bgT
  by_cases e : bgC t.1 u t.2.1 ev r c v (nI its) = 0
  · rw [if_pos e]; exact ⟨alt_VS h.1 ev v hr hc, h.2.tr (fun j a _ _ => alt_nt _ ev v hr hc a)⟩
  · rw [if_neg e]; exact h
theorem lpT_KV {u : Nat} {s : Nat → Int32} {F : Nat → TT → TT} (hF : ∀ i t, i < u → KV u s t → KV u s (F i t)) (p : Nat → Bool) : ∀ (k i : Nat) (t : TT), i + k = u → KV u s t → KV u s (lpT F p k i t)
  | 0, _, _, _, h => h
  | k + 1, i, t, e, h => by
    refine lpT_KV hF p k (i + 1) _ (by omega) ?_
    by_cases q : p i = true ∧ t.2.2.2 = 0
    · rw [if_pos q]; exact hF i t (by omega) h
    · rw [if_neg q]; exact h
theorem acT_KV {u : Nat} {s : Nat → Int32} {H : TT → Int32 → Nat → Nat → Int32 → Nat → TT} (hH : ∀ t ev r c v d, r < 6 → c < 3 → KV u s t → KV u s (H t ev r c v d)) (d : Nat) (i : Nat) (t : TT) (hi : i < u) (h : KV u s t) : KV u s (acT H d i t) := by
  obtain ⟨er, hr⟩ := ro_e h.1 hi
  obtain ⟨ec, hc⟩ := co_e h.1 hi
  have h1 : ∀ w, KV u s (lgS t.1 i (nI d), w) := fun w => ⟨lgS_VS h.1 _ hi, h.2.tr (lgS_SR _ _ _)⟩
  unfold acT
  split
  · exact h1 _
  · split
    · exact hH _ _ _ _ _ _ hr (by decide) (h1 _)
    · split
      · exact h1 _
      · split
        · exact h1 _
        · exact hH _ _ _ _ _ _ hr hc (h1 _)
theorem hapT_KV (u : Nat) (s : Nat → Int32) : ∀ (f : Nat) (t : TT) (ev : Int32) (r c : Nat) (v : Int32) (d : Nat), r < 6 → c < 3 → KV u s t → KV u s (hapT u f t ev r c v d)
  | 0, t, ev, r, c, v, d, hr, hc, h => bgT_KV h ev v d hr hc
  | f + 1, t, ev, r, c, v, d, hr, hc, h => by
    show KV u s (if _ then _ else _)
    split
    · exact lpT_KV (fun i t hi ht => acT_KV (fun t ev r c v d => hapT_KV u s f t ev r c v d) d i t hi ht) _ u 0 _ (by omega) (bgT_KV h ev v d hr hc)
    · exact bgT_KV h ev v d hr hc
def E132 (f g : Nat → Int32) : Prop := ∀ j, j < 132 → f j = g j
def fin (R : TT) (s : Nat → Int32) : Nat → Int32 := if R.2.2.2 = 0 then upd R.1 98 (R.1 98 + R.2.1) else s
theorem VS_val {u : Nat} {s : Nat → Int32} (h : VS u s) {k : Nat} (v : Int32) (h6 : 6 ≤ k) (hk : k < 24) : VS u (upd s k v) :=
  h.of (fun j a _ _ => upd_nt _ _ (by omega)) (by rw [upd_nt _ _ (by omega)]; exact h.2.2.2.1) (fun j hj => by rw [upd_nt _ _ (by omega)]; exact h.2.2.2.2.1 j hj)
def insR (u : Nat) (s : Nat → Int32) (r : Nat) (a b c : Int32) : TT := if s r = 1 then (s, 0, -1, 1) else hapT u 6 (upd (upd (upd s (6 + 3 * r + 0) a) (6 + 3 * r + 1) b) (6 + 3 * r + 2) c, 0, -1, 0) 0 r 0 0 0
def updR (u : Nat) (s : Nat → Int32) (r c : Nat) (v : Int32) : TT := if s r = 0 then (s, 0, -1, 1) else if s (6 + 3 * r + c) = v then (s, 0, -1, 0) else hapT u 6 (s, 0, -1, 0) 1 r c v 0
def remR (u : Nat) (s : Nat → Int32) (r : Nat) : TT := if s r = 1 then hapT u 6 (s, 0, -1, 0) 2 r 0 0 0 else (s, 0, -1, 1)
/-- the abstract machine: the numbers; how many are recorded and they; kept and slots; the text's length and signs -/
abbrev AM : Type := (Nat → Int32) × (Nat × (Nat → Nat → Int32)) × ((Nat → Bool) × (Nat → Nat → Int32)) × (Nat × (Nat → Int32))
abbrev aS (a : AM) : Nat → Int32 := a.1
abbrev aK (a : AM) : Nat := a.2.1.1
abbrev aH (a : AM) : Nat → Nat → Int32 := a.2.1.2
abbrev aB (a : AM) : Nat → Bool := a.2.2.1.1
abbrev aL (a : AM) : Nat → Nat → Int32 := a.2.2.1.2
abbrev aN (a : AM) : Nat := a.2.2.2.1
abbrev aT (a : AM) : Nat → Int32 := a.2.2.2.2
def uN (s : Nat → Int32) : Nat := (s 25).toNatClampNeg
/-- the end of a call of the model: thrown, the answer, the new machine -/
abbrev RS3 : Type := Int32 × Int32 × AM
theorem ne_f {b : Bool} (h : b = true) : ¬ b = false := fun e => Bool.noConfusion (h.symm.trans e)
theorem inR_nI {v hi : Int32} {n : Nat} (hM : hi.toInt = n) (h : inR v 0 hi = true) : ∃ r, r ≤ n ∧ v = nI r := by
  unfold inR at h
  rw [Bool.and_eq_true] at h
  exact nI_of2 hM (of_decide_eq_true h.1) (Int32.not_lt.mp (of_decide_eq_true h.2))
theorem inR_row {v : Int32} (h : inR v 0 5 = true) : ∃ r, r < 6 ∧ v = nI r ∧ v.toNatClampNeg = r := by
  obtain ⟨r, h1, h2⟩ := inR_nI (n := 5) (by decide) h
  exact ⟨r, by omega, h2, by rw [h2, nI_clamp (by omega)]⟩
theorem inR_col {v : Int32} (h : inR v 0 2 = true) : ∃ r, r < 3 ∧ v = nI r ∧ v.toNatClampNeg = r := by
  obtain ⟨r, h1, h2⟩ := inR_nI (n := 2) (by decide) h
  exact ⟨r, by omega, h2, by rw [h2, nI_clamp (by omega)]⟩
theorem inR_lt {v w : Int32} {u : Nat} (hw : w = nI u) (hu : u < 2 ^ 30) (h : inR v 0 (w - 1) = true) : ∃ r, r < u ∧ v = nI r ∧ v.toNatClampNeg = r := by
  cases u with
  | zero =>
    unfold inR at h
    rw [Bool.and_eq_true, hw] at h
    exact absurd (of_decide_eq_true h.2) (fun q => (of_decide_eq_true h.1 : ¬ v < 0) (Int32.lt_of_le_of_lt (Int32.not_lt.mp q) (by decide)))
  | succ u =>
    rw [hw, nI_pred] at h
    obtain ⟨r, h1, h2⟩ := inR_nI (n := u) (nI_toInt (by omega)) h
    exact ⟨r, by omega, h2, by rw [h2, nI_clamp (by omega)]⟩
def shasRow (a : AM) (r : Int32) : RS3 := if inR r 0 5 = false then (1, 0, a) else if aS a r.toNatClampNeg = 1 then (0, 1, a) else (0, 0, a)
def svalueAt (a : AM) (r c : Int32) : RS3 := if inR r 0 5 = false then (1, 0, a) else if inR c 0 2 = false then (1, 0, a) else if aS a r.toNatClampNeg = 0 then (2, 0, a) else (0, aS a (6 + 3 * r.toNatClampNeg + c.toNatClampNeg), a)
def sactionOf (a : AM) (r : Int32) : RS3 := if inR r 0 (aS a 25 - 1) = false then (1, 0, a) else (0, rN (aS a) r.toNatClampNeg 3, a)
def sactsOf (a : AM) (r : Int32) : RS3 := if inR r 0 (aS a 25 - 1) = false then (1, 0, a) else (0, rN (aS a) r.toNatClampNeg 8, a)
def sisMuted (a : AM) (r : Int32) : RS3 := if inR r 0 (aS a 25 - 1) = false then (1, 0, a) else if rN (aS a) r.toNatClampNeg 7 = 1 then (0, 1, a) else (0, 0, a)
def sloggedRule (a : AM) (r : Int32) : RS3 := if inR r 0 (aS a 99 - 1) = false then (1, 0, a) else (0, aS a (100 + r.toNatClampNeg), a)
def sloggedDepth (a : AM) (r : Int32) : RS3 := if inR r 0 (aS a 99 - 1) = false then (1, 0, a) else (0, aS a (116 + r.toNatClampNeg), a)
def sruleCount (a : AM)  : RS3 := (0, aS a 25, a)
def seventCount (a : AM)  : RS3 := (0, aS a 98, a)
def slogSize (a : AM)  : RS3 := (0, aS a 99, a)
def srowCount (a : AM)  : RS3 := (0, smN (aS a) 6, a)
def sundoCount (a : AM)  : RS3 := (0, nI (aK a), a)
def recH (a : AM) (s0 : Nat → Int32) : Nat × (Nat → Nat → Int32) := if aK a = 6 then (6, fun i => if i = 5 then s0 else aH a (i + 1)) else (aK a + 1, fun i => if i = aK a then s0 else aH a i)
theorem uN_of {s t : Nat → Int32} (h : t 25 = s 25) : uN t = uN s := by unfold uN; rw [h]
def ssetDepth (a : AM) (v : Int32) : RS3 := if inR v 0 5 = false then (1, 0, a) else (0, aS a 24, (upd (aS a) 24 v, recH a (aS a), a.2.2))
def sturnMute (a : AM) (r : Int32) : RS3 := if inR r 0 (aS a 25 - 1) = false then (1, 0, a) else (0, (if 1 - rN (aS a) r.toNatClampNeg 7 = 1 then 1 else 0), (upd (aS a) (26 + 9 * r.toNatClampNeg + 7) (1 - rN (aS a) r.toNatClampNeg 7), recH a (aS a), a.2.2))
def ssetAction (a : AM) (r k ro c m : Int32) : RS3 := if inR r 0 (aS a 25 - 1) = false then (1, 0, a) else if inR k 0 3 = false then (2, 0, a) else if inR ro 0 5 = false then (2, 0, a) else if inR c 0 2 = false then (2, 0, a) else if inR m (-999) 999 = false then (2, 0, a)
  else (0, rN (aS a) r.toNatClampNeg 3, (upd (upd (upd (upd (aS a) (26 + 9 * r.toNatClampNeg + 3) k) (26 + 9 * r.toNatClampNeg + 4) ro) (26 + 9 * r.toNatClampNeg + 5) c) (26 + 9 * r.toNatClampNeg + 6) m, recH a (aS a), a.2.2))
def zrN (k p : Nat) (f : Nat → Int32) : Nat → Int32 := fun j => if p ≤ j ∧ j < p + k then 0 else f j
def newR (s : Nat → Int32) (u : Nat) (e c l : Int32) : Nat → Int32 := upd (upd (upd (upd (zrN 9 (26 + 9 * u) s) (26 + 9 * u) e) (26 + 9 * u + 1) c) (26 + 9 * u + 2) l) 25 (nI (u + 1))
theorem newR_nt (s : Nat → Int32) (u : Nat) (e c l : Int32) {j : Nat} (h : j ≠ 25) (h2 : j < 26 + 9 * u ∨ 26 + 9 * u + 9 ≤ j) : newR s u e c l j = s j := by
  unfold newR; rw [upd_nt _ _ h, upd_nt _ _ (by omega), upd_nt _ _ (by omega), upd_nt _ _ (by omega)]; unfold zrN; rw [if_neg (by omega)]
theorem newR_z (s : Nat → Int32) (u : Nat) (e c l : Int32) {k : Nat} (h : 3 ≤ k) (h9 : k < 9) : newR s u e c l (26 + 9 * u + k) = 0 := by
  unfold newR; rw [upd_nt _ _ (by omega), upd_nt _ _ (by omega), upd_nt _ _ (by omega), upd_nt _ _ (by omega)]; unfold zrN; rw [if_pos (by omega)]
theorem VS.E {u : Nat} {s t : Nat → Int32} (h : VS u s) (e : E132 s t) : VS u t := by
  obtain ⟨b1, b2, b3, b4, b5, b6⟩ := h
  refine ⟨b1, by rw [← e 25 (by omega)]; exact b2, (by rw [← e 24 (by omega)]; exact b3), (by rw [← e 99 (by omega)]; exact b4), fun j hj => by rw [← e j (by omega)]; exact b5 j hj, fun i hi => ?_⟩
  have g : ∀ w, w < 9 → rN t i w = rN s i w := fun w hw => (e _ (by omega)).symm
  rw [g 1 (by omega), g 4 (by omega), g 5 (by omega), g 7 (by omega), g 3 (by omega)]
  exact b6 i hi
theorem uN_E {s t : Nat → Int32} (e : E132 s t) : uN t = uN s := by unfold uN; rw [e 25 (by omega)]
/-- what is recorded and saved is as the numbers are -/
def VA (a : AM) : Prop := (∀ i, i < aK a → VS (uN (aH a i)) (aH a i)) ∧ ∀ i, i < 2 → aB a i = true → VS (uN (aL a i)) (aL a i)
def saddRule (a : AM) (e c l : Int32) : RS3 := if inR e 0 2 = false then (1, 0, a) else if inR c 0 2 = false then (1, 0, a) else if inR l 0 999 = false then (1, 0, a) else if aS a 25 = 8 then (2, 0, a) else (0, nI (uN (aS a)), (newR (aS a) (uN (aS a)) e c l, recH a (aS a), a.2.2))
def sundo (a : AM) : RS3 := if aK a = 0 then (1, 0, a) else (0, nI (aK a - 1), (aH a (aK a - 1), (aK a - 1, aH a), a.2.2))
theorem VS.un {u : Nat} {t : Nat → Int32} (h : VS u t) : uN t = u := by unfold uN; rw [h.2.1, nI_clamp (by have := h.1; omega)]
theorem hap_VS {u : Nat} {s : Nat → Int32} (h : VS u s) (f : Nat) (a b : Int32) (c0 : Int32) (ev : Int32) {r c : Nat} (v : Int32) (d : Nat) (hr : r < 6) (hc : c < 3) : VS u (hapT u f (s, a, b, c0) ev r c v d).1 :=
  (hapT_KV u s f (s, a, b, c0) ev r c v d hr hc ⟨h, SR.rf s⟩).1
theorem insR_VS {u : Nat} {s : Nat → Int32} (h : VS u s) {r : Nat} (a b c : Int32) (hr : r < 6) : VS u (insR u s r a b c).1 := by
  unfold insR; split
  · exact h
  · exact hap_VS (VS_val (VS_val (VS_val h a (by omega) (by omega)) b (by omega) (by omega)) c (by omega) (by omega)) 6 _ _ _ 0 0 0 hr (by decide)
theorem updR_VS {u : Nat} {s : Nat → Int32} (h : VS u s) {r c : Nat} (v : Int32) (hr : r < 6) (hc : c < 3) : VS u (updR u s r c v).1 := by
  unfold updR; split
  · exact h
  · split
    · exact h
    · exact hap_VS h 6 _ _ _ 1 v 0 hr hc
theorem remR_VS {u : Nat} {s : Nat → Int32} (h : VS u s) {r : Nat} (hr : r < 6) : VS u (remR u s r).1 := by
  unfold remR; split
  · exact hap_VS h 6 _ _ _ 2 0 0 hr (by decide)
  · exact h
theorem E132.tr {f g w : Nat → Int32} (h : E132 f g) (k : E132 g w) : E132 f w := fun j hj => (h j hj).trans (k j hj)
/-- the answer of a statement -/
def stA (a : AM) (R : TT) (bad : Int32) : RS3 := if decide (R.2.2.2 = 0) = false then (bad, 0, a) else (0, R.2.1, (fin R (aS a), recH a (aS a), a.2.2))
theorem stA_bad {a : AM} {R : TT} (b : Int32) (h : decide (R.2.2.2 = 0) = false) : stA a R b = (b, 0, a) := if_pos h
theorem stA_ok {a : AM} {R : TT} (b : Int32) (h : decide (R.2.2.2 = 0) = true) : stA a R b = (0, R.2.1, (fin R (aS a), recH a (aS a), a.2.2)) := if_neg (ne_f h)
def sinsert (a : AM) (r p q w : Int32) : RS3 := if inR r 0 5 = false then (1, 0, a) else if inR p 0 999 = false then (2, 0, a) else if inR q 0 999 = false then (2, 0, a) else if inR w 0 999 = false then (2, 0, a) else stA a (insR (uN (aS a)) (aS a) r.toNatClampNeg p q w) 3
def supdate (a : AM) (r c v : Int32) : RS3 := if inR r 0 5 = false then (1, 0, a) else if inR c 0 2 = false then (1, 0, a) else if inR v 0 999 = false then (2, 0, a) else stA a (updR (uN (aS a)) (aS a) r.toNatClampNeg c.toNatClampNeg v) 3
def sremove (a : AM) (r : Int32) : RS3 := if inR r 0 5 = false then (1, 0, a) else stA a (remR (uN (aS a)) (aS a) r.toNatClampNeg) 2
def tuC (r c v : Int32) : Int32 := if inR r 0 5 = false then 1 else if inR c 0 2 = false then 1 else if inR v 0 999 = false then 2 else 0
def tuR (a : AM) (r c v : Int32) : TT := updR (uN (aS a)) (aS a) r.toNatClampNeg c.toNatClampNeg v
def swhyNotUpdate (a : AM) (r c v : Int32) : RS3 := (tuC r c v, (if tuC r c v = 0 then (tuR a r c v).2.2.2 else 0), a)
def seventsOfUpdate (a : AM) (r c v : Int32) : RS3 := (tuC r c v, (if tuC r c v = 0 then (if (tuR a r c v).2.2.2 ≤ 0 then (tuR a r c v).2.1 else -1) else 0), a)
def sdepthOfUpdate (a : AM) (r c v : Int32) : RS3 := (tuC r c v, (if tuC r c v = 0 then (if (tuR a r c v).2.2.2 ≤ 0 then (tuR a r c v).2.2.1 else -1) else 0), a)
theorem or_if (w : Int32) (a b : Bool) : (if a = true then w else 0) ||| (if b = true then w else 0) = if (a || b) = true then w else 0 := by cases a <;> cases b <;> simp
theorem mk_or (p q : Nat → Bool) : ∀ (u : Nat), mkM p u ||| mkM q u = mkM (fun j => p j || q j) u
  | 0 => (Int32.or_zero : (0 : Int32) ||| 0 = 0)
  | u + 1 => by
    have e : ∀ a b c d : Int32, (a ||| c) ||| (b ||| d) = (a ||| b) ||| (c ||| d) := fun a b c d => by
      rw [Int32.or_assoc, Int32.or_assoc, ← Int32.or_assoc c b d, Int32.or_comm c b, Int32.or_assoc b c d]
    exact (e _ _ _ _).trans (by rw [mk_or p q u, or_if]; rfl)
def sumF (s : Nat → Int32) (c : Nat) : Nat → Int32
  | 0 => 0
  | k + 1 => sumF s c k + (if s k = 1 then s (6 + 3 * k + c) else 0)
def ssumOf (a : AM) (c : Int32) : RS3 := if inR c 0 2 = false then (1, 0, a) else (0, sumF (aS a) c.toNatClampNeg 6, a)
def stO (s : Nat → Int32) (i j : Nat) : Bool := decide (rN s i 7 = 0) && (decide (rN s j 7 = 0) && ((decide (rN s i 3 = 2) && (decide (rN s j 0 = 1) && decide (rN s j 1 = rN s i 5))) || (decide (rN s i 3 = 3) && decide (rN s j 0 = 2))))
def moN (s : Nat → Int32) (p : Nat → Bool) : Nat → Nat → Bool
  | 0 => p
  | k + 1 => fun j => moN s p k j || (p k && stO s k j)
def rcN (s : Nat → Int32) (u r : Nat) : Nat → Nat → Bool
  | 0 => stO s r
  | t + 1 => moN s (rcN s u r t) u
def scanSetOff (a : AM) (r q : Int32) : RS3 := if inR r 0 (aS a 25 - 1) = false then (1, 0, a) else if inR q 0 (aS a 25 - 1) = false then (1, 0, a) else (0, bI (stO (aS a) r.toNatClampNeg q.toNatClampNeg), a)
def sreachOf (a : AM) (r : Int32) : RS3 := if inR r 0 (aS a 25 - 1) = false then (1, 0, a) else (0, mkM (rcN (aS a) (uN (aS a)) r.toNatClampNeg 8) (uN (aS a)), a)
def sreachByTable (a : AM) (r : Int32) : RS3 := sreachOf a r
def scircularRules (a : AM) : RS3 := (0, mkM (fun i => rcN (aS a) (uN (aS a)) i 8 i) (uN (aS a)), a)
def shR (r n : Nat) (s : Nat → Int32) : Nat → Int32 := fun j => if 26 + 9 * r ≤ j ∧ j < 26 + 9 * r + n then s (j + 9) else s j
def drV (t : Nat → Int32) (r k : Nat) : Int32 := if t (100 + k) ≤ nI r then t (100 + k) else t (100 + k) - 1
def drL (s : Nat → Int32) (r : Nat) : Nat → (Nat → Int32) × Nat
  | 0 => (s, 0)
  | k + 1 => (upd (upd (drL s r k).1 (100 + (drL s r k).2) (drV (drL s r k).1 r k)) (116 + (drL s r k).2) (upd (drL s r k).1 (100 + (drL s r k).2) (drV (drL s r k).1 r k) (116 + k)), (drL s r k).2 + (if (drL s r k).1 (100 + k) = nI r then 0 else 1))
theorem drL_le (s : Nat → Int32) (r : Nat) : ∀ k, (drL s r k).2 ≤ k
  | 0 => Nat.le_refl _
  | k + 1 => by
    have := drL_le s r k
    show (drL s r k).2 + (if _ then 0 else 1) ≤ k + 1
    split <;> omega
theorem drL_nt (s : Nat → Int32) (r : Nat) {j : Nat} (h : j < 100) : ∀ k, (drL s r k).1 j = s j
  | 0 => rfl
  | k + 1 => by
    show upd (upd _ _ _) _ _ j = s j
    rw [upd_nt _ _ (by omega), upd_nt _ _ (by omega), drL_nt s r h k]
def drB (s : Nat → Int32) (u r : Nat) : Nat → Int32 := shR r (9 * (u - 1 - r)) (upd s 25 (nI (u - 1)))
def drS (s : Nat → Int32) (u r l : Nat) : Nat → Int32 := upd (drL (drB s u r) r l).1 99 (nI (drL (drB s u r) r l).2)
theorem drB_hi (s : Nat → Int32) {u r : Nat} (hr : r < u) (hu : u ≤ 8) {j : Nat} (h : j ≠ 25) (h2 : j < 26 ∨ 98 ≤ j) : drB s u r j = s j := by
  unfold drB shR; rw [if_neg (by omega), upd_nt _ _ h]
theorem drB_ru (s : Nat → Int32) {u r : Nat} (hr : r < u) {i k : Nat} (hi : i < u - 1) (hk : k < 9) : rN (drB s u r) i k = rN s (if i < r then i else i + 1) k := by
  unfold rN drB shR
  by_cases q : i < r
  · rw [if_neg (by omega), upd_nt _ _ (by omega), if_pos q]
  · rw [if_pos (by omega), upd_nt _ _ (by omega), if_neg q, show 26 + 9 * i + k + 9 = 26 + 9 * (i + 1) + k by omega]
def sdropRule (a : AM) (r : Int32) : RS3 := if inR r 0 (aS a 25 - 1) = false then (1, 0, a) else (0, rN (aS a) r.toNatClampNeg 8, (drS (aS a) (uN (aS a)) r.toNatClampNeg (aS a 99).toNatClampNeg, recH a (aS a), a.2.2))
