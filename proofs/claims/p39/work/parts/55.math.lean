/-! ===== WHAT HOLDS OF THE NUMBERS: values, the log and the acts; what a statement comes to ===== -/
def cnL (i : Nat) : LL → Nat
  | [] => 0
  | p :: t => cnL i t + (if p.1 = nI i then 1 else 0)
theorem cnL_take (i : Nat) : ∀ (n : Nat) (l : LL), cnL i (l.take n) ≤ cnL i l
  | 0, l => by rw [List.take_zero]; exact Nat.zero_le _
  | n + 1, [] => Nat.le_refl _
  | n + 1, p :: t => by
    rw [List.take_succ_cons]
    show cnL i (t.take n) + _ ≤ cnL i t + _
    exact Nat.add_le_add_right (cnL_take i n t) _
theorem mem_take {α : Type} {a : α} {n : Nat} {l : List α} (h : a ∈ l.take n) : a ∈ l := List.mem_of_mem_take h
/-- a row's values are in range -/
def VR (s : Nat → Int32) (r : Nat) : Prop := ∀ c, c < 3 → ∃ k, k < 1000 ∧ s (6 + 3 * r + c) = nI k
/-- of the log: its acts are of rules, their depths below 6; no rule is logged more often than it acted -/
def LI (B u : Nat) (s : Nat → Int32) (l : LL) : Prop := LM s l ∧ (∀ p ∈ l, (∃ i, i < u ∧ p.1 = nI i) ∧ ∃ d, d < 6 ∧ p.2 = nI d) ∧ ∀ i, i < u → ∃ m, m ≤ B ∧ rN s i 8 = nI m ∧ cnL i l ≤ m
def TI (B u : Nat) (s : Nat → Int32) : Prop := VS u s ∧ (∀ r, r < 6 → s r = 1 → VR s r) ∧ ∃ l, LI B u s l
theorem TI.up {B C u : Nat} {s : Nat → Int32} (h : TI B u s) (hB : B ≤ C) : TI C u s := by
  obtain ⟨h1, h2, l, h3, h4, h5⟩ := h
  exact ⟨h1, h2, l, h3, h4, fun i hi => by obtain ⟨m, a, b⟩ := h5 i hi; exact ⟨m, Nat.le_trans a hB, b⟩⟩
/-- numbers that differ in what doesn't count here alone -/
theorem TI.eq {B u : Nat} {s t : Nat → Int32} (h : TI B u s) (hv : VS u t) (h1 : ∀ j, j < 24 → t j = s j) (h2 : ∀ i, i < u → rN t i 8 = rN s i 8) (h3 : ∀ j, 99 ≤ j → j < 132 → t j = s j) : TI B u t := by
  obtain ⟨a, b, l, ⟨c1, c2, c3⟩, d, e⟩ := h
  refine ⟨hv, fun r hr q c hc => ?_, l, ⟨c1, by rw [h3 99 (by omega) (by omega)]; exact c2, fun k p hk => ?_⟩, d, fun i hi => ?_⟩
  · rw [h1 _ (by omega)] at q ⊢; exact b r hr q c hc
  · have := qlt hk
    rw [h3 _ (by omega) (by omega), h3 _ (by omega) (by omega)]; exact c3 k p hk
  · rw [h2 i hi]; exact e i hi
theorem TI.log {B u : Nat} {s : Nat → Int32} (h : TI B u s) {i d : Nat} (hi : i < u) (hd : d < 6) : TI (B + 1) u (lgS s i (nI d)) := by
  obtain ⟨a, b, l, c, g, e⟩ := h
  have hu8 := a.1
  refine ⟨lgS_VS a _ hi, fun r hr q w hw => ?_, _, LM_note c (by omega) _, fun p hp => ?_, fun k hk => ?_⟩
  · rw [lgS_nt _ _ _ (by omega) (by omega)] at q ⊢; exact b r hr q w hw
  · rcases List.mem_cons.mp (mem_take hp) with q | q
    · subst q; exact ⟨⟨i, hi, rfl⟩, d, hd, rfl⟩
    · exact g p q
  · obtain ⟨m, m1, m2, m3⟩ := e k hk
    have q := cnL_take k 16 ((nI i, nI d) :: l)
    have q2 : cnL k ((nI i, nI d) :: l) = cnL k l + (if nI i = nI k then 1 else 0) := rfl
    by_cases ek : k = i
    · subst ek
      rw [if_pos rfl] at q2
      refine ⟨m + 1, by omega, ?_, by omega⟩
      show lgS s k (nI d) (26 + 9 * k + 8) = _
      unfold lgS; rw [upd_at, ← nI_1]; exact congrArg (· + 1) m2
    · rw [if_neg (fun z => ek ((nI_eq (by omega) (by omega)).mp z).symm)] at q2
      refine ⟨m, by omega, ?_, by omega⟩
      show lgS s i (nI d) (26 + 9 * k + 8) = _
      rw [lgS_nt _ _ _ (by omega) (by omega)]; exact m2
/-- a change that may be made -/
def EV (ev : Int32) (r : Nat) (v : Int32) (s : Nat → Int32) : Prop := (ev = 1 → ∃ k, k < 1000 ∧ v = nI k) ∧ (ev = 0 → VR s r)
theorem TI.altr {B u : Nat} {s : Nat → Int32} (h : TI B u s) {ev : Int32} {r c : Nat} {v : Int32} (hr : r < 6) (hc : c < 3) (he : EV ev r v s) : TI B u (alt s ev r c v) := by
  obtain ⟨a, b, l, ⟨c1, c2, c3⟩, g, e⟩ := h
  have nt : ∀ j, 24 ≤ j → alt s ev r c v j = s j := fun j hj => alt_nt s ev v hr hc hj
  refine ⟨alt_VS a ev v hr hc, fun r1 hr1 q w hw => ?_, l, ⟨c1, by rw [nt 99 (by omega)]; exact c2, fun k p hk => by rw [nt _ (by omega), nt _ (by omega)]; exact c3 k p hk⟩, g, fun i hi => ?_⟩
  · by_cases e1 : ev = 1
    · have e2 : alt s ev r c v = upd s (6 + 3 * r + c) v := if_pos e1
      rw [e2] at q ⊢
      rw [upd_nt _ _ (by omega)] at q
      unfold upd
      by_cases z : 6 + 3 * r1 + w = 6 + 3 * r + c
      · rw [if_pos z]; exact he.1 e1
      · rw [if_neg z]; exact b r1 hr1 q w hw
    · have e2 : alt s ev r c v = upd s r (if ev = 0 then 1 else 0) := if_neg e1
      rw [e2] at q ⊢
      rw [upd_nt _ _ (by omega)]
      unfold upd at q
      by_cases z : r1 = r
      · rw [if_pos z] at q
        by_cases e0 : ev = 0
        · rw [z]; exact he.2 e0 w hw
        · rw [if_neg e0] at q; exact absurd q (by decide)
      · rw [if_neg z] at q; exact b r1 hr1 q w hw
  · rw [show rN (alt s ev r c v) i 8 = rN s i 8 from nt _ (by omega)]; exact e i hi
/-- of a statement under way, begun at s0: numbers as they should be; the count of events; the log doesn't shrink -/
def SI2 (B u : Nat) (s0 : Nat → Int32) (t : TT) : Prop := TI B u t.1 ∧ t.1 98 = s0 98 ∧ ∃ a b, a ≤ b ∧ b ≤ 16 ∧ s0 99 = nI a ∧ t.1 99 = nI b
theorem SI2.up {B C u : Nat} {s0 : Nat → Int32} {t : TT} (h : SI2 B u s0 t) (hB : B ≤ C) : SI2 C u s0 t := ⟨h.1.up hB, h.2⟩
theorem SI2.t1 {B u : Nat} {s0 : Nat → Int32} {t t' : TT} (h : SI2 B u s0 t) (e : t'.1 = t.1) : SI2 B u s0 t' := by
  unfold SI2; rw [e]; exact h
theorem SI2.log {B u : Nat} {s0 : Nat → Int32} {t : TT} (h : SI2 B u s0 t) {i d : Nat} (hi : i < u) (hd : d < 6) (w : Int32 × Int32 × Int32) : SI2 (B + 1) u s0 (lgS t.1 i (nI d), w) := by
  obtain ⟨h1, h2, a, b, h3, h4, h5, h6⟩ := h
  have hu8 := h1.1.1
  have hl := lgL_le h1.1
  refine ⟨h1.log hi hd, by show lgS t.1 i (nI d) 98 = _; rw [lgS_nt _ _ _ (by omega) (by omega)]; exact h2, a, lgL t.1 + 1, ?_, by omega, h5, lgS_99 _ _ (by omega)⟩
  unfold lgL
  by_cases c : t.1 99 = 16
  · rw [if_pos c]; omega
  · rw [if_neg c, h6, nI_clamp (by omega)]; omega
theorem SI2.bg {B u : Nat} {s0 : Nat → Int32} {t : TT} (h : SI2 B u s0 t) {ev : Int32} {r c : Nat} {v : Int32} (its : Nat) (hr : r < 6) (hc : c < 3) (he : EV ev r v t.1) : SI2 B u s0 (bgT u t ev r c v its) := by
  unfold bgT
  split
  · obtain ⟨h1, h2, a, b, h3, h4, h5, h6⟩ := h
    exact ⟨h1.altr hr hc he, by show alt t.1 ev r c v 98 = _; rw [alt_nt _ _ _ hr hc (by omega)]; exact h2, a, b, h3, h4, h5, by show alt t.1 ev r c v 99 = _; rw [alt_nt _ _ _ hr hc (by omega)]; exact h6⟩
  · exact h
def bdN : Nat → Nat
  | 0 => 0
  | f + 1 => 8 * (1 + bdN f)
theorem lpT_SI {u K : Nat} {s0 : Nat → Int32} {F : Nat → TT → TT} (hF : ∀ B i t, i < u → SI2 B u s0 t → SI2 (B + K) u s0 (F i t)) (p : Nat → Bool) : ∀ (k i B : Nat) (t : TT), i + k = u → SI2 B u s0 t → SI2 (B + k * K) u s0 (lpT F p k i t)
  | 0, _, B, t, _, h => by rw [Nat.zero_mul]; exact h
  | k + 1, i, B, t, e, h => by
    show SI2 _ u s0 (lpT F p k (i + 1) (if _ then _ else _))
    have e2 : (k + 1) * K = K + k * K := by rw [Nat.succ_mul, Nat.add_comm]
    rw [e2, ← Nat.add_assoc]
    refine lpT_SI hF p k (i + 1) (B + K) _ (by omega) ?_
    by_cases q : p i = true ∧ t.2.2.2 = 0
    · rw [if_pos q]; exact hF B i t (by omega) h
    · rw [if_neg q]; exact h.up (by omega)
theorem inR_va {v : Int32} (h : inR v 0 999 = true) : ∃ k, k < 1000 ∧ v = nI k := by
  obtain ⟨r, h1, h2⟩ := inR_nI (n := 999) (by decide) h
  exact ⟨r, by omega, h2⟩
theorem bnf {b : Bool} (h : ¬ b = false) : b = true := by cases b <;> first | rfl | exact absurd rfl h
theorem acT_SI {u K d : Nat} {s0 : Nat → Int32} {H : TT → Int32 → Nat → Nat → Int32 → Nat → TT} (hd : d < 6) (hH : ∀ B t ev r c v, r < 6 → c < 3 → EV ev r v t.1 → SI2 B u s0 t → SI2 (B + K) u s0 (H t ev r c v (d + 1))) (B i : Nat) (t : TT) (hi : i < u) (h : SI2 B u s0 t) : SI2 (B + (1 + K)) u s0 (acT H d i t) := by
  obtain ⟨er, hr⟩ := ro_e h.1.1 hi
  obtain ⟨ec, hc⟩ := co_e h.1.1 hi
  rw [← Nat.add_assoc]
  have h1 : ∀ w, SI2 (B + 1) u s0 (lgS t.1 i (nI d), w) := fun w => h.log hi hd w
  have h2 : ∀ w, SI2 (B + 1 + K) u s0 (lgS t.1 i (nI d), w) := fun w => (h1 w).up (by omega)
  unfold acT
  split
  · exact h2 _
  · split
    · exact hH _ _ _ _ _ _ hr (by decide) ⟨fun q => absurd q (by decide), fun q => absurd q (by decide)⟩ (h1 _)
    · split
      · exact h2 _
      · rename_i q1 q2 q3
        split
        · exact h2 _
        · exact hH _ _ _ _ _ _ hr hc ⟨fun _ => inR_va (bnf q3), fun q => absurd q (by decide)⟩ (h1 _)
theorem hapT_SI {u : Nat} {s0 : Nat → Int32} : ∀ (f B : Nat) (t : TT) (ev : Int32) (r c : Nat) (v : Int32) (d : Nat), d + f = 6 → r < 6 → c < 3 → EV ev r v t.1 → SI2 B u s0 t → SI2 (B + bdN f) u s0 (hapT u f t ev r c v d)
  | 0, B, t, ev, r, c, v, d, hd, hr, hc, he, h => h.bg d hr hc he
  | f + 1, B, t, ev, r, c, v, d, hd, hr, hc, he, h => by
    show SI2 _ u s0 (if _ then _ else _)
    split
    · have w := lpT_SI (K := 1 + bdN f) (fun B i t hi ht => acT_SI (K := bdN f) (show d < 6 by omega) (fun B t ev r c v hr hc he ht => hapT_SI f B t ev r c v (d + 1) (by omega) hr hc he ht) B i t hi ht) (mtC t.1 ev r (nI c) v false) u 0 B _ (by omega) (h.bg d hr hc he)
      refine w.up ?_
      have hu8 := h.1.1.1
      show B + u * (1 + bdN f) ≤ B + 8 * (1 + bdN f)
      exact Nat.add_le_add_left (Nat.mul_le_mul_right _ hu8) _
    · exact (h.bg d hr hc he).up (Nat.le_add_right _ _)
/-- of a statement that has begun: how often, how deep, why not -/
def HD (t : TT) : Prop := (∃ k, 1 ≤ k ∧ k ≤ 100 ∧ t.2.1 = nI k) ∧ (∃ d, d ≤ 5 ∧ t.2.2.1 = nI d) ∧ (t.2.2.2 = 0 ∨ t.2.2.2 = 2 ∨ t.2.2.2 = 3 ∨ t.2.2.2 = 4 ∨ t.2.2.2 = 5)
theorem mx_nI {a b : Nat} (ha : a < 2 ^ 31) (hb : b < 2 ^ 31) : ∃ d, (d = a ∨ d = b) ∧ mx (nI a) (nI b) = nI d := by
  unfold mx
  split
  · exact ⟨b, .inr rfl, rfl⟩
  · exact ⟨a, .inl rfl, rfl⟩
theorem bgC_0 {s : Nat → Int32} {u : Nat} {hp ev : Int32} {r c : Nat} {v its : Int32} (h : bgC s u hp ev r c v its = 0) : its ≤ s 24 ∧ ¬ hp = 100 := by
  unfold bgC at h
  by_cases a : ¬ its ≤ s 24
  · rw [if_pos a] at h; exact absurd h (by decide)
  · rw [if_neg a] at h
    by_cases b : hp = 100
    · rw [if_pos b] at h; exact absurd h (by decide)
    · exact ⟨Classical.not_not.mp a, b⟩
theorem bgT_HD {u : Nat} {t : TT} (hv : VS u t.1) (h : HD t) (ev : Int32) (r c : Nat) (v : Int32) {its : Nat} (hi : its ≤ 6) : HD (bgT u t ev r c v its) := by
  obtain ⟨⟨k, k1, k2, k3⟩, ⟨d, d1, d2⟩, h3⟩ := h
  unfold bgT
  by_cases e : bgC t.1 u t.2.1 ev r c v (nI its) = 0
  · rw [if_pos e]
    obtain ⟨e1, e2⟩ := bgC_0 e
    obtain ⟨dp, p1, p2⟩ := hv.2.2.1
    rw [p2, nI_leI (by omega) (by omega)] at e1
    have hk : k ≠ 100 := fun q => e2 (by rw [k3, q]; rfl)
    refine ⟨⟨k + 1, by omega, by omega, by show t.2.1 + 1 = _; rw [k3, nI_1]⟩, ?_, .inl rfl⟩
    obtain ⟨w, hw, ew⟩ := mx_nI (a := its) (b := d) (by omega) (by omega)
    exact ⟨w, by omega, by show mx (nI its) t.2.2.1 = _; rw [d2, ew]⟩
  · rw [if_neg e]
    refine ⟨⟨k, k1, k2, k3⟩, ⟨d, d1, d2⟩, ?_⟩
    show bgC _ _ _ _ _ _ _ _ = 0 ∨ _
    rcases bgC_cs t.1 u t.2.1 ev r c v (nI its) with q | q | q | ⟨q, _⟩
    · exact .inr (.inr (.inl q))
    · exact .inr (.inr (.inr (.inl q)))
    · exact .inr (.inr (.inr (.inr q)))
    · exact .inl q
def HV (u : Nat) (t : TT) : Prop := VS u t.1 ∧ HD t
theorem lpT_HV {u : Nat} {F : Nat → TT → TT} (hF : ∀ i t, i < u → HV u t → HV u (F i t)) (p : Nat → Bool) : ∀ (k i : Nat) (t : TT), i + k = u → HV u t → HV u (lpT F p k i t)
  | 0, _, _, _, h => h
  | k + 1, i, t, e, h => by
    refine lpT_HV hF p k (i + 1) _ (by omega) ?_
    by_cases q : p i = true ∧ t.2.2.2 = 0
    · rw [if_pos q]; exact hF i t (by omega) h
    · rw [if_neg q]; exact h
theorem acT_HV {u d : Nat} {H : TT → Int32 → Nat → Nat → Int32 → Nat → TT} (hH : ∀ t ev r c v, r < 6 → c < 3 → HV u t → HV u (H t ev r c v (d + 1))) (i : Nat) (t : TT) (hi : i < u) (h : HV u t) : HV u (acT H d i t) := by
  obtain ⟨er, hr⟩ := ro_e h.1 hi
  obtain ⟨ec, hc⟩ := co_e h.1 hi
  have hv : VS u (lgS t.1 i (nI d)) := lgS_VS h.1 _ hi
  have h1 : HV u (lgS t.1 i (nI d), t.2) := ⟨hv, h.2⟩
  unfold acT
  split
  · exact h1
  · split
    · exact hH _ _ _ _ _ hr (by decide) h1
    · split
      · exact ⟨hv, h.2.1, h.2.2.1, .inr (.inl rfl)⟩
      · split
        · exact h1
        · exact hH _ _ _ _ _ hr hc h1
theorem hapT_HV {u : Nat} : ∀ (f : Nat) (t : TT) (ev : Int32) (r c : Nat) (v : Int32) (d : Nat), d + f = 6 → r < 6 → c < 3 → HV u t → HV u (hapT u f t ev r c v d)
  | 0, t, ev, r, c, v, d, hd, hr, hc, h => ⟨(bgT_KV (s := t.1) ⟨h.1, SR.rf _⟩ ev v d hr hc).1, bgT_HD h.1 h.2 ev r c v (by omega)⟩
  | f + 1, t, ev, r, c, v, d, hd, hr, hc, h => by
    have hb : HV u (bgT u t ev r c v d) := ⟨(bgT_KV (s := t.1) ⟨h.1, SR.rf _⟩ ev v d hr hc).1, bgT_HD h.1 h.2 ev r c v (by omega)⟩
    show HV u (if _ then _ else _)
    split
    · exact lpT_HV (fun i t hi ht => acT_HV (fun t ev r c v hr hc ht => hapT_HV f t ev r c v (d + 1) (by omega) hr hc ht) i t hi ht) _ u 0 _ (by omega) hb
    · exact hb
/-- a statement from its beginning: it has begun, or it could not -/
theorem hapT_top {u : Nat} {s : Nat → Int32} (hv : VS u s) {ev : Int32} {r c : Nat} {v : Int32} (hr : r < 6) (hc : c < 3) : HV u (hapT u 6 (s, 0, -1, 0) ev r c v 0) ∨ (hapT u 6 (s, 0, -1, 0) ev r c v 0).2.2.2 = 3 ∨ (hapT u 6 (s, 0, -1, 0) ev r c v 0).2.2.2 = 4 ∨ (hapT u 6 (s, 0, -1, 0) ev r c v 0).2.2.2 = 5 := by
  by_cases e : bgC s u 0 ev r c v (nI 0) = 0
  · have eb : bgT u (s, 0, -1, 0) ev r c v 0 = (alt s ev r c v, 0 + 1, mx (nI 0) (-1), 0) := if_pos e
    have hb : HV u (bgT u (s, 0, -1, 0) ev r c v 0) := by
      rw [eb]
      exact ⟨alt_VS hv ev v hr hc, ⟨1, by omega, by omega, show (0 : Int32) + 1 = nI 1 by decide⟩, ⟨0, by omega, show mx (nI 0) (-1) = nI 0 by decide⟩, .inl rfl⟩
    have eh : hapT u 6 (s, 0, -1, 0) ev r c v 0 = lpT (acT (hapT u 5) 0) (mtC s ev r (nI c) v false) u 0 (bgT u (s, 0, -1, 0) ev r c v 0) := if_pos e
    rw [eh]
    exact .inl (lpT_HV (fun i t hi ht => acT_HV (fun t ev r c v hr hc ht => hapT_HV 5 t ev r c v 1 (by omega) hr hc ht) i t hi ht) _ u 0 _ (by omega) hb)
  · have eh : hapT u 6 (s, 0, -1, 0) ev r c v 0 = (s, 0, -1, bgC s u 0 ev r c v (nI 0)) := (hapT_bad u 6 (s, 0, -1, 0) ev r c v 0 e).trans (if_neg e)
    rw [eh]
    rcases bgC_cs s u 0 ev r c v (nI 0) with q | q | q | ⟨q, _⟩
    · exact .inr (.inl q)
    · exact .inr (.inr (.inl q))
    · exact .inr (.inr (.inr q))
    · exact absurd q e
/-- without rules there is one event -/
theorem hapT_u0 {s : Nat → Int32} {ev : Int32} {r c : Nat} {v : Int32} (h : (hapT 0 6 (s, 0, -1, 0) ev r c v 0).2.2.2 = 0) : (hapT 0 6 (s, 0, -1, 0) ev r c v 0).2.1 = 1 := by
  by_cases e : bgC s 0 0 ev r c v (nI 0) = 0
  · have eh : hapT 0 6 (s, 0, -1, 0) ev r c v 0 = bgT 0 (s, 0, -1, 0) ev r c v 0 := if_pos e
    have eb : bgT 0 (s, 0, -1, 0) ev r c v 0 = (alt s ev r c v, 0 + 1, mx (nI 0) (-1), 0) := if_pos e
    rw [eh, eb]
    show (0 : Int32) + 1 = 1
    decide
  · have eh : hapT 0 6 (s, 0, -1, 0) ev r c v 0 = (s, 0, -1, bgC s 0 0 ev r c v (nI 0)) := (hapT_bad 0 6 (s, 0, -1, 0) ev r c v 0 e).trans (if_neg e)
    rw [eh] at h
    exact absurd h e
