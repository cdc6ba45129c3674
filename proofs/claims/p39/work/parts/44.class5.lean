/-- the numbers' log, as a list, the latest first -/
def LM (s : Nat → Int32) (l : LL) : Prop := l.length ≤ 16 ∧ s 99 = nI l.length ∧ ∀ k p, l[k]? = some p → s (100 + k) = p.1 ∧ s (116 + k) = p.2
def RS1 (σ : SS) (s : Nat → Int32) (e : Int32) : Prop := (∀ j, j < 6 → sTh σ j = s j) ∧ (∀ j, j < 18 → sVa σ j = s (6 + j)) ∧ sSc σ 0 = s 25 ∧ sSc σ 1 = s 24 ∧ sSc σ 2 = e ∧ (∀ i k, i < uN s → k < 9 → sRu σ i k = rN s i k) ∧ ∃ l, LR σ l ∧ LM s l
theorem LM.E {s t : Nat → Int32} {l : LL} (h : LM s l) (e : E132 s t) : LM t l := by
  obtain ⟨a, b, c⟩ := h
  refine ⟨a, by rw [← e 99 (by omega)]; exact b, fun k p hk => ?_⟩
  have := qlt hk
  rw [← e _ (by omega), ← e _ (by omega)]
  exact c k p hk
theorem RS1.E {σ : SS} {s t : Nat → Int32} {v : Int32} (h : RS1 σ s v) (hu : uN s ≤ 8) (e : E132 s t) : RS1 σ t v := by
  obtain ⟨a, b, c, d, f, g, l, l1, l2⟩ := h
  refine ⟨fun j hj => (a j hj).trans (e j (by omega)), fun j hj => (b j hj).trans (e _ (by omega)), c.trans (e 25 (by omega)), d.trans (e 24 (by omega)), f, fun i k hi hk => ?_, l, l1, l2.E e⟩
  rw [uN_E e] at hi
  exact (g i k hi hk).trans (e _ (by omega))
theorem RS1.wb {σ : SS} {s : Nat → Int32} {v : Int32} (h : RS1 σ s v) {u : Nat} (hv : VS u s) : WB u σ := by
  obtain ⟨a, b, c, d, f, g, l, l1, l2⟩ := h
  have eu := hv.un
  refine ⟨hv.1, c.trans hv.2.1, fun j hj => by rw [a j hj]; exact hv.2.2.2.2.1 j hj, fun i hi => ?_⟩
  rw [g i 7 (by omega) (by omega)]
  exact (hv.2.2.2.2.2 i hi).2.2.2.1
theorem LR_cp {σ τ : SS} {l : LL} (u : Nat) (h : LR τ l) : LR (cpS u σ τ) l := by
  obtain ⟨a, b, la, c, d, e⟩ := h
  refine ⟨a, b, la, c, d, fun k p hk => ?_⟩
  have h16 : (la + 16 - k) % 16 < 16 := Nat.mod_lt _ (by decide)
  obtain ⟨q1, q2⟩ := e k p hk
  exact ⟨(if_pos h16).trans q1, (if_pos h16).trans q2⟩
theorem RS1.cp {τ : SS} {s : Nat → Int32} {v : Int32} (h : RS1 τ s v) (σ : SS) {u : Nat} (eu : uN s = u) : RS1 (cpS u σ τ) s v := by
  obtain ⟨a, b, c, d, f, g, l, l1, l2⟩ := h
  refine ⟨fun j hj => (if_pos hj).trans (a j hj), fun j hj => (if_pos hj).trans (b j hj), c, d, f, fun i k hi hk => ?_, l, LR_cp _ l1, l2⟩
  have hi2 : i < u := by omega
  show ruN u (sRu τ) (sRu σ) i k = _
  unfold ruN
  rw [if_pos hi2, cp9_at _ _ _ hk]
  exact g i k hi hk
def altS (σ : SS) (ev : Int32) (r c : Nat) (v : Int32) : SS := if ev = 1 then uS2 σ (upd (sVa σ) (3 * r + c) v) else uS1 σ (upd (sTh σ) r (if ev = 0 then 1 else 0))
theorem alt_lo {s : Nat → Int32} {ev : Int32} {r c : Nat} {v : Int32} (hr : r < 6) (hc : c < 3) : ∀ j, 24 ≤ j → alt s ev r c v j = s j := fun j hj => alt_nt s ev v hr hc hj
theorem RS1_alt {σ : SS} {s : Nat → Int32} {w : Int32} (h : RS1 σ s w) (ev : Int32) {r c : Nat} (v : Int32) (hr : r < 6) (hc : c < 3) : RS1 (altS σ ev r c v) (alt s ev r c v) w := by
  obtain ⟨a, b, c', d, f, g, l, l1, l2⟩ := h
  have lo := @alt_lo s ev r c v hr hc
  have eu : uN (alt s ev r c v) = uN s := uN_of (lo 25 (by omega))
  have hl : LM (alt s ev r c v) l := ⟨l2.1, by rw [lo 99 (by omega)]; exact l2.2.1, fun k p hk => by rw [lo _ (by omega), lo _ (by omega)]; exact l2.2.2 k p hk⟩
  have hru : ∀ i k, rN (alt s ev r c v) i k = rN s i k := fun i k => lo _ (by omega)
  by_cases e : ev = 1
  · have e1 : altS σ ev r c v = uS2 σ (upd (sVa σ) (3 * r + c) v) := if_pos e
    have e2 : alt s ev r c v = upd s (6 + 3 * r + c) v := if_pos e
    rw [e1]
    refine ⟨fun j hj => ?_, fun j hj => ?_, by rw [lo 25 (by omega)]; exact c', by rw [lo 24 (by omega)]; exact d, f, fun i k hi hk => ?_, l, l1, hl⟩
    · rw [e2, upd_nt _ _ (by omega)]; exact a j hj
    · rw [e2]
      show upd (sVa σ) (3 * r + c) v j = _
      unfold upd
      by_cases q : j = 3 * r + c
      · rw [if_pos q, if_pos (by omega)]
      · rw [if_neg q, if_neg (by omega)]; exact b j hj
    · rw [hru]; exact g i k (by omega) hk
  · have e1 : altS σ ev r c v = uS1 σ (upd (sTh σ) r (if ev = 0 then 1 else 0)) := if_neg e
    have e2 : alt s ev r c v = upd s r (if ev = 0 then 1 else 0) := if_neg e
    rw [e1]
    refine ⟨fun j hj => ?_, fun j hj => ?_, by rw [lo 25 (by omega)]; exact c', by rw [lo 24 (by omega)]; exact d, f, fun i k hi hk => ?_, l, l1, hl⟩
    · rw [e2]
      show upd (sTh σ) r _ j = _
      unfold upd
      by_cases q : j = r
      · rw [if_pos q, if_pos q]
      · rw [if_neg q, if_neg q]; exact a j hj
    · rw [e2, upd_nt _ _ (by omega)]; exact b j hj
    · rw [hru]; exact g i k (by omega) hk
theorem lgL_l {s : Nat → Int32} {l : LL} (h : LM s l) : lgL s = min l.length 15 := by
  obtain ⟨a, b, _⟩ := h
  unfold lgL
  by_cases e : l.length = 16
  · rw [if_pos (by rw [b, e]; rfl), e]; rfl
  · rw [if_neg (show ¬ s 99 = 16 from fun q => e ((nI_eq (by omega) (by decide)).mp (b.symm.trans q))), b, nI_clamp (by omega)]; omega
theorem LM_note {s : Nat → Int32} {l : LL} (h : LM s l) {i : Nat} (hi : i < 8) (d : Int32) : LM (lgS s i d) (((nI i, d) :: l).take 16) := by
  have eL := lgL_l h
  obtain ⟨a, b, c⟩ := h
  refine ⟨by rw [take16_len]; omega, ?_, fun k p hk => ?_⟩
  · rw [lgS_99 s d hi, eL, take16_len]; congr 1; omega
  · obtain ⟨h1, ⟨h2, h3⟩ | ⟨j, h2, h3⟩⟩ := take16 hk
    · subst h2; subst h3
      constructor
      · show lgS s i d 100 = _
        unfold lgS; rw [upd_nt _ _ (by omega), upd_nt _ _ (by omega), upd_nt _ _ (by omega), upd_at]
      · show lgS s i d 116 = _
        unfold lgS; rw [upd_nt _ _ (by omega), upd_nt _ _ (by omega), upd_at]
    · subst h2
      have hj := qlt h3
      obtain ⟨q1, q2⟩ := c j p h3
      constructor
      · unfold lgS; rw [upd_nt _ _ (by omega), upd_nt _ _ (by omega), upd_nt _ _ (by omega), upd_nt _ _ (by omega)]; unfold shD; rw [if_pos (by omega)]; exact q1
      · unfold lgS; rw [upd_nt _ _ (by omega), upd_nt _ _ (by omega), upd_nt _ _ (by omega), upd_nt _ _ (by omega)]; unfold shD; rw [if_pos (by omega)]; exact q2
theorem RS1.act {σ : SS} {s : Nat → Int32} {w : Int32} (h : RS1 σ s w) {i : Nat} (hi : i < uN s) (hu : uN s ≤ 8) (d : Int32) {l : LL} {la : Nat} (hl : l.length ≤ 16) (ha : la < 16) (hk : ∀ k p, l[k]? = some p → sLr σ ((la + 16 - k) % 16) = p.1 ∧ sLd σ ((la + 16 - k) % 16) = p.2) (hm : LM s l) : RS1 (ntS (uS3 σ (upR (sRu σ) i (upd (sRu σ i) 8 (sRu σ i 8 + 1)))) la l.length (nI i) d) (lgS s i d) w := by
  obtain ⟨a, b, c', e, f, g, _, _, _⟩ := h
  have nt : ∀ j, j < 99 → j ≠ 26 + 9 * i + 8 → lgS s i d j = s j := fun j h1 h2 => lgS_nt s i d h1 h2
  have eu : uN (lgS s i d) = uN s := uN_of (nt 25 (by omega) (by omega))
  refine ⟨fun j hj => by rw [nt j (by omega) (by omega)]; exact a j hj, fun j hj => by rw [nt _ (by omega) (by omega)]; exact b j hj, by rw [nt 25 (by omega) (by omega)]; exact c', by rw [nt 24 (by omega) (by omega)]; exact e, f, fun i2 k hi2 hk2 => ?_, _, LR_note (σ := uS3 σ _) hl ha hk (nI i) d, LM_note hm (by omega) d⟩
  rw [eu] at hi2
  show upR (sRu σ) i (upd (sRu σ i) 8 (sRu σ i 8 + 1)) i2 k = lgS s i d (26 + 9 * i2 + k)
  unfold upR
  by_cases q : i2 = i
  · subst q
    rw [if_pos rfl]
    by_cases q8 : k = 8
    · subst q8
      rw [upd_at, g i2 8 hi2 (by omega)]
      unfold lgS; rw [upd_at]; rfl
    · rw [upd_nt _ _ q8, nt _ (by omega) (by omega)]; exact g i2 k hi2 hk2
  · rw [if_neg q, nt _ (by omega) (by omega)]; exact g i2 k hi2 hk2
theorem ad_0 (v a : Int32) : v + a = v ↔ a = 0 := by
  constructor
  · intro h
    have e : -v + (v + a) = -v + v := by rw [h]
    rw [← Int32.add_assoc, Int32.add_left_neg, Int32.zero_add] at e
    exact e
  · intro h; rw [h, Int32.add_zero]
