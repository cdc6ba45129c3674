/-! ===== WHAT EACH CALL MAKES OF THE NUMBERS ===== -/
abbrev ST : Type := Nat → Int32
/-- as it should be between calls; no rule has acted more than B times -/
def IV (B : Nat) (s : ST) : Prop := TI B (uN s) s
theorem IV.up {B C : Nat} {s : ST} (h : IV B s) (hB : B ≤ C) : IV C s := TI.up h hB
theorem IV.of {B u : Nat} {s : ST} (h : TI B u s) : IV B s := by unfold IV; rw [h.1.un]; exact h
theorem IV.vs {B : Nat} {s : ST} (h : IV B s) : VS (uN s) s := h.1
theorem cnL_0 {u : Nat} (hu : u ≤ 8) : ∀ (l : LL), (∀ p ∈ l, ∃ i, i < u ∧ p.1 = nI i) → cnL u l = 0
  | [], _ => rfl
  | p :: t, h => by
    obtain ⟨i, hi, e⟩ := h p List.mem_cons_self
    show cnL u t + (if p.1 = nI u then 1 else 0) = 0
    rw [cnL_0 hu t (fun q hq => h q (List.mem_cons_of_mem _ hq)), e, if_neg (fun z => by have := (nI_eq (by omega) (by omega)).mp z; omega)]
theorem iv_add {B : Nat} {s : ST} (h : IV B s) {e c l : Int32} (hc : inR c 0 2 = true) (h8 : ¬ s 25 = 8) : IV B (newR s (uN s) e c l) := by
  obtain ⟨u, eu⟩ : ∃ u, u = uN s := ⟨_, rfl⟩
  unfold IV at h
  rw [← eu] at h ⊢
  obtain ⟨⟨v1, v2, v3, v4, v5, v6⟩, b, l0, ⟨c1, c2, c3⟩, g, w⟩ := h
  obtain ⟨cc, hcc, ec, _⟩ := inR_col hc
  have hu : u < 8 := by
    rcases Nat.lt_or_ge u 8 with q | q
    · exact q
    · exact absurd (by rw [v2, show u = 8 by omega]; rfl) h8
  have nt : ∀ j, j ≠ 25 → (j < 26 + 9 * u ∨ 26 + 9 * u + 9 ≤ j) → newR s u e c l j = s j := fun j h1 h2 => newR_nt s u e c l h1 h2
  have ru : ∀ i k, i < u → k < 9 → rN (newR s u e c l) i k = rN s i k := fun i k hi hk => nt _ (by omega) (by omega)
  have z : ∀ k, 3 ≤ k → k < 9 → rN (newR s u e c l) u k = 0 := fun k h1 h2 => newR_z s u e c l h1 h2
  have n1 : rN (newR s u e c l) u 1 = c := by
    show newR s u e c l (26 + 9 * u + 1) = c
    unfold newR; rw [upd_nt _ _ (by omega), upd_nt _ _ (by omega), upd_at]
  refine IV.of (u := u + 1) ⟨⟨by omega, by unfold newR; exact upd_at _ _ _, by rw [nt 24 (by omega) (by omega)]; exact v3, by rw [nt 99 (by omega) (by omega)]; exact v4, fun j hj => by rw [nt j (by omega) (by omega)]; exact v5 j hj, fun i hi => ?_⟩, fun r hr q k hk => ?_, l0, ⟨c1, by rw [nt 99 (by omega) (by omega)]; exact c2, fun k p hk => ?_⟩, fun p hp => ?_, fun i hi => ?_⟩
  · rcases Nat.lt_or_ge i u with q | q
    · rw [ru i 1 q (by omega), ru i 4 q (by omega), ru i 5 q (by omega), ru i 7 q (by omega), ru i 3 q (by omega)]; exact v6 i q
    · obtain rfl : i = u := by omega
      rw [n1, z 4 (by omega) (by omega), z 5 (by omega) (by omega), z 7 (by omega) (by omega), z 3 (by omega) (by omega)]
      exact ⟨⟨cc, hcc, ec⟩, ⟨0, by omega, rfl⟩, ⟨0, by omega, rfl⟩, .inl rfl, .inl rfl⟩
  · rw [nt _ (by omega) (by omega)] at q ⊢; exact b r hr q k hk
  · have := qlt hk
    rw [nt _ (by omega) (by omega), nt _ (by omega) (by omega)]; exact c3 k p hk
  · obtain ⟨⟨i, h1, h2⟩, h3⟩ := g p hp
    exact ⟨⟨i, by omega, h2⟩, h3⟩
  · rcases Nat.lt_or_ge i u with q | q
    · rw [ru i 8 q (by omega)]; exact w i q
    · obtain rfl : i = u := by omega
      exact ⟨0, Nat.zero_le _, z 8 (by omega) (by omega), by rw [cnL_0 v1 l0 (fun p hp => (g p hp).1)]; exact Nat.le_refl _⟩
/-- a change of one rule's numbers from 3 to 7 -/
theorem iv_ru {B u : Nat} {s t : ST} (h : TI B u s) {i : Nat} (hi : i < u) (nt : ∀ j, (j < 26 + 9 * i + 3 ∨ 26 + 9 * i + 8 ≤ j) → t j = s j) (a4 : ∃ r, r < 6 ∧ rN t i 4 = nI r) (a5 : ∃ c, c < 3 ∧ rN t i 5 = nI c) (a7 : rN t i 7 = 0 ∨ rN t i 7 = 1) (a3 : rN t i 3 = 0 ∨ rN t i 3 = 1 ∨ rN t i 3 = 2 ∨ rN t i 3 = 3) : TI B u t := by
  have hv := h.1
  obtain ⟨v1, v2, v3, v4, v5, v6⟩ := hv
  refine h.eq ⟨v1, by rw [nt 25 (by omega)]; exact v2, by rw [nt 24 (by omega)]; exact v3, by rw [nt 99 (by omega)]; exact v4, fun j hj => by rw [nt j (by omega)]; exact v5 j hj, fun k hk => ?_⟩ (fun j hj => nt j (by omega)) (fun k hk => ?_) (fun j h1 h2 => nt j (by omega))
  · by_cases q : k = i
    · subst q
      refine ⟨?_, a4, a5, a7, a3⟩
      rw [show rN t k 1 = rN s k 1 from nt _ (by omega)]; exact (v6 k hk).1
    · have e : ∀ w, w < 9 → rN t k w = rN s k w := fun w hw => nt _ (by omega)
      rw [e 1 (by omega), e 4 (by omega), e 5 (by omega), e 7 (by omega), e 3 (by omega)]; exact v6 k hk
  · exact nt _ (by omega)
theorem iv_mute {B : Nat} {s : ST} (h : IV B s) {r : Int32} (hr : inR r 0 (s 25 - 1) = true) : IV B (upd s (26 + 9 * r.toNatClampNeg + 7) (1 - rN s r.toNatClampNeg 7)) := by
  have hv := h.1
  obtain ⟨i, hi, _, er⟩ := inR_lt hv.2.1 (by have := hv.1; omega) hr
  rw [er]
  have h6 := hv.2.2.2.2.2 i hi
  have e : ∀ k, k ≠ 7 → rN (upd s (26 + 9 * i + 7) (1 - rN s i 7)) i k = rN s i k := fun k hk => upd_nt _ _ (by omega)
  refine IV.of (iv_ru h hi (fun j hj => upd_nt _ _ (by omega)) (by rw [e 4 (by omega)]; exact h6.2.1) (by rw [e 5 (by omega)]; exact h6.2.2.1) ?_ (by rw [e 3 (by omega)]; exact h6.2.2.2.2))
  rw [show rN (upd s (26 + 9 * i + 7) (1 - rN s i 7)) i 7 = 1 - rN s i 7 from upd_at _ _ _]
  rcases h6.2.2.2.1 with q | q <;> rw [q]
  · exact .inr rfl
  · exact .inl rfl
theorem iv_action {B : Nat} {s : ST} (h : IV B s) {r k ro c m : Int32} (hr : inR r 0 (s 25 - 1) = true) (hk : inR k 0 3 = true) (hro : inR ro 0 5 = true) (hc : inR c 0 2 = true) : IV B (upd (upd (upd (upd s (26 + 9 * r.toNatClampNeg + 3) k) (26 + 9 * r.toNatClampNeg + 4) ro) (26 + 9 * r.toNatClampNeg + 5) c) (26 + 9 * r.toNatClampNeg + 6) m) := by
  have hv := h.1
  obtain ⟨i, hi, _, er⟩ := inR_lt hv.2.1 (by have := hv.1; omega) hr
  rw [er]
  have h6 := hv.2.2.2.2.2 i hi
  obtain ⟨r1, h1, e1, _⟩ := inR_row hro
  obtain ⟨c1, h2, e2, _⟩ := inR_col hc
  obtain ⟨k1, h3, e3⟩ := inR_nI (n := 3) (by decide) hk
  obtain ⟨t, et⟩ : ∃ t, t = upd (upd (upd (upd s (26 + 9 * i + 3) k) (26 + 9 * i + 4) ro) (26 + 9 * i + 5) c) (26 + 9 * i + 6) m := ⟨_, rfl⟩
  rw [← et]
  have nt : ∀ j, j ≠ 26 + 9 * i + 3 → j ≠ 26 + 9 * i + 4 → j ≠ 26 + 9 * i + 5 → j ≠ 26 + 9 * i + 6 → t j = s j := fun j a b c d => by rw [et, upd_nt _ _ d, upd_nt _ _ c, upd_nt _ _ b, upd_nt _ _ a]
  have t3 : rN t i 3 = k := by show t (26 + 9 * i + 3) = k; rw [et, upd_nt _ _ (by omega), upd_nt _ _ (by omega), upd_nt _ _ (by omega), upd_at]
  have t4 : rN t i 4 = ro := by show t (26 + 9 * i + 4) = ro; rw [et, upd_nt _ _ (by omega), upd_nt _ _ (by omega), upd_at]
  have t5 : rN t i 5 = c := by show t (26 + 9 * i + 5) = c; rw [et, upd_nt _ _ (by omega), upd_at]
  refine IV.of (iv_ru h hi (fun j hj => nt j (by omega) (by omega) (by omega) (by omega)) ⟨r1, h1, t4.trans e1⟩ ⟨c1, h2, t5.trans e2⟩ ?_ ?_)
  · rw [show rN t i 7 = rN s i 7 from nt _ (by omega) (by omega) (by omega) (by omega)]; exact h6.2.2.2.1
  · rw [t3, e3]
    match k1, h3 with
    | 0, _ => exact .inl rfl
    | 1, _ => exact .inr (.inl rfl)
    | 2, _ => exact .inr (.inr (.inl rfl))
    | 3, _ => exact .inr (.inr (.inr rfl))
    | k1 + 4, h => exact absurd h (by omega)
theorem iv_depth {B : Nat} {s : ST} (h : IV B s) {v : Int32} (hv5 : inR v 0 5 = true) : IV B (upd s 24 v) := by
  obtain ⟨v1, v2, v3, v4, v5, v6⟩ := h.1
  obtain ⟨d, hd, ed⟩ := inR_nI (n := 5) (by decide) hv5
  have nt : ∀ j, j ≠ 24 → upd s 24 v j = s j := fun j hj => upd_nt _ _ hj
  have ru : ∀ i k, rN (upd s 24 v) i k = rN s i k := fun i k => nt _ (by omega)
  refine IV.of (TI.eq (u := uN s) h ⟨v1, by rw [nt 25 (by omega)]; exact v2, ⟨d, hd, by rw [upd_at]; exact ed⟩, by rw [nt 99 (by omega)]; exact v4, fun j hj => by rw [nt j (by omega)]; exact v5 j hj, fun i hi => ?_⟩ (fun j hj => nt j (by omega)) (fun i _ => ru i 8) (fun j h1 _ => nt j (by omega)))
  rw [ru, ru, ru, ru, ru]; exact v6 i hi
theorem LM_drop {s : ST} {u rl : Nat} {l : LL} (hv : VS u s) (hr : rl < u) (hm : LM s l) : LM (drS s u rl l.length) (fg rl l) := by
  have hu8 := hv.1
  obtain ⟨m1, m2, m3⟩ := hm
  obtain ⟨q1, q2, _⟩ := drL_l (rl := rl) (t := drB s u rl) m1 (fun k p hk => by have := qlt hk; rw [drB_hi s hr hu8 (by omega) (by omega), drB_hi s hr hu8 (by omega) (by omega)]; exact m3 k p hk) l.length (Nat.le_refl _)
  rw [List.take_length] at q1 q2
  have := fg_len rl l
  refine ⟨by omega, ?_, fun k p hk => ?_⟩
  · unfold drS; rw [upd_at, q1]
  · have := qlt hk
    unfold drS; rw [upd_nt _ _ (by omega), upd_nt _ _ (by omega)]
    exact q2 k p hk
theorem rnm_nI {rl i : Nat} (hi : i < 9) (hr : rl < 9) (h : i ≠ rl) : rnm rl (nI i) = nI (if i < rl then i else i - 1) := by
  unfold rnm
  by_cases q : i < rl
  · rw [if_pos ((nI_leI (by omega) (by omega)).mpr (by omega)), if_pos q]
  · rw [if_neg (fun z => by have := (nI_leI (by omega) (by omega)).mp z; omega), if_neg q]
    exact pk_sub (b := 1) (by omega)
theorem fg_mem {rl : Nat} {q : Int32 × Int32} : ∀ {l : LL}, q ∈ fg rl l → ∃ p ∈ l, ¬ p.1 = nI rl ∧ q = (rnm rl p.1, p.2)
  | [], h => nomatch h
  | p :: t, h => by
    have h2 : q ∈ (if p.1 = nI rl then fg rl t else (rnm rl p.1, p.2) :: fg rl t) := h
    by_cases c : p.1 = nI rl
    · rw [if_pos c] at h2
      obtain ⟨p', h3, h4⟩ := fg_mem h2
      exact ⟨p', List.mem_cons_of_mem _ h3, h4⟩
    · rw [if_neg c] at h2
      rcases List.mem_cons.mp h2 with h5 | h5
      · exact ⟨p, List.mem_cons_self, c, h5⟩
      · obtain ⟨p', h3, h4⟩ := fg_mem h5
        exact ⟨p', List.mem_cons_of_mem _ h3, h4⟩
theorem cnL_fg {u rl k : Nat} (hu : u ≤ 8) (hr : rl < u) (hk : k < u - 1) : ∀ (l : LL), (∀ p ∈ l, ∃ i, i < u ∧ p.1 = nI i) → cnL k (fg rl l) = cnL (if k < rl then k else k + 1) l
  | [], _ => rfl
  | p :: t, h => by
    obtain ⟨i, hi, e⟩ := h p List.mem_cons_self
    have ih := cnL_fg hu hr hk t (fun q hq => h q (List.mem_cons_of_mem _ hq))
    show cnL k (if p.1 = nI rl then fg rl t else (rnm rl p.1, p.2) :: fg rl t) = cnL (if k < rl then k else k + 1) t + (if p.1 = nI (if k < rl then k else k + 1) then 1 else 0)
    by_cases c : p.1 = nI rl
    · have hne : ¬ p.1 = nI (if k < rl then k else k + 1) := fun z => by
        rw [c] at z
        have := (nI_eq (by omega) (by split <;> omega)).mp z
        split at this <;> omega
      rw [if_pos c, ih, if_neg hne]
      exact (Nat.add_zero _).symm
    · rw [if_neg c]
      have ci : i ≠ rl := fun z => c (by rw [e, z])
      show cnL k (fg rl t) + (if rnm rl p.1 = nI k then 1 else 0) = _
      rw [ih, e, rnm_nI (by omega) (by omega) ci]
      congr 1
      by_cases w : nI (if i < rl then i else i - 1) = nI k
      · have := (nI_eq (by split <;> omega) (by omega)).mp w
        rw [if_pos w, if_pos (congrArg nI (by split at this <;> split <;> omega))]
      · have hne : ¬ nI i = nI (if k < rl then k else k + 1) := fun z => by
          have := (nI_eq (by omega) (by split <;> omega)).mp z
          exact w (congrArg nI (by split at this <;> split <;> omega))
        rw [if_neg w, if_neg hne]
theorem iv_drop {B : Nat} {s : ST} (h : IV B s) {r : Int32} (hr : inR r 0 (s 25 - 1) = true) : IV B (drS s (uN s) r.toNatClampNeg (s 99).toNatClampNeg) := by
  obtain ⟨u, eu⟩ : ∃ u, u = uN s := ⟨_, rfl⟩
  unfold IV at h
  rw [← eu] at h ⊢
  obtain ⟨hv, b, l, lm, g, w⟩ := h
  have hu8 := hv.1
  obtain ⟨rl, hrl, _, er⟩ := inR_lt hv.2.1 (by omega) hr
  have m1 := lm.1
  rw [er, lm.2.1, nI_clamp (by omega)]
  have ld := LM_drop hv hrl lm
  obtain ⟨t, et⟩ : ∃ t, t = drS s u rl l.length := ⟨_, rfl⟩
  rw [← et] at ld ⊢
  have nt : ∀ j, j < 99 → t j = drB s u rl j := fun j hj => by rw [et]; unfold drS; rw [upd_nt _ _ (by omega), drL_nt _ _ (by omega)]
  have hi : ∀ j, j < 25 → t j = s j := fun j hj => by rw [nt j (by omega), drB_hi s hrl hu8 (by omega) (by omega)]
  have e25 : t 25 = nI (u - 1) := by rw [nt 25 (by omega)]; unfold drB shR; rw [if_neg (by omega), upd_at]
  have ru : ∀ i k, i < u - 1 → k < 9 → rN t i k = rN s (if i < rl then i else i + 1) k := fun i k h1 h2 => by
    rw [show rN t i k = rN (drB s u rl) i k from nt _ (by omega), drB_ru s hrl h1 h2]
  obtain ⟨v1, v2, v3, v4, v5, v6⟩ := hv
  refine IV.of (u := u - 1) ⟨⟨by omega, e25, by rw [hi 24 (by omega)]; exact v3, ⟨_, ld.1, ld.2.1⟩, fun j hj => by rw [hi j (by omega)]; exact v5 j hj, fun i h1 => ?_⟩, fun r1 hr1 q k hk => ?_, fg rl l, ld, fun q hq => ?_, fun i h1 => ?_⟩
  · rw [ru i 1 h1 (by omega), ru i 4 h1 (by omega), ru i 5 h1 (by omega), ru i 7 h1 (by omega), ru i 3 h1 (by omega)]
    exact v6 _ (by split <;> omega)
  · rw [hi _ (by omega)] at q ⊢; exact b r1 hr1 q k hk
  · obtain ⟨p, h1, h2, rfl⟩ := fg_mem hq
    obtain ⟨⟨i, h3, h4⟩, h5⟩ := g p h1
    have ci : i ≠ rl := fun z => h2 (by rw [h4, z])
    exact ⟨⟨if i < rl then i else i - 1, by split <;> omega, by rw [h4]; exact rnm_nI (by omega) (by omega) ci⟩, h5⟩
  · obtain ⟨m, a1, a2, a3⟩ := w (if i < rl then i else i + 1) (by split <;> omega)
    exact ⟨m, a1, by rw [ru i 8 h1 (by omega)]; exact a2, by rw [cnL_fg hu8 hrl h1 l (fun p hp => (g p hp).1)]; exact a3⟩
/-- one statement adds no more acts than this to a rule -/
abbrev BD : Nat := bdN 6
theorem si_0 {B u : Nat} {s : ST} (h : TI B u s) (a b c : Int32) : SI2 B u s (s, a, b, c) := by
  obtain ⟨l, hl, e⟩ := h.1.2.2.2.1
  exact ⟨h, rfl, l, l, Nat.le_refl _, hl, e, e⟩
theorem iv_fin {B u : Nat} {s : ST} {R : TT} (h : SI2 B u s R) (h0 : R.2.2.2 = 0) : IV B (fin R s) := by
  unfold fin
  rw [if_pos h0]
  have nt : ∀ j v, j ≠ 98 → upd R.1 98 v j = R.1 j := fun j v hj => upd_nt _ _ hj
  have hv := h.1.1
  have hu8 := hv.1
  obtain ⟨v1, v2, v3, v4, v5, v6⟩ := hv
  have ru : ∀ i k v, i < u → k < 9 → rN (upd R.1 98 v) i k = rN R.1 i k := fun i k v h1 h2 => nt _ _ (by omega)
  refine IV.of (u := u) (h.1.eq ⟨v1, by rw [nt 25 _ (by omega)]; exact v2, by rw [nt 24 _ (by omega)]; exact v3, by rw [nt 99 _ (by omega)]; exact v4, fun j hj => by rw [nt j _ (by omega)]; exact v5 j hj, fun i hi => ?_⟩ (fun j hj => nt j _ (by omega)) (fun i hi => ru i 8 _ hi (by omega)) (fun j h1 _ => nt j _ (by omega)))
  rw [ru i 1 _ hi (by omega), ru i 4 _ hi (by omega), ru i 5 _ hi (by omega), ru i 7 _ hi (by omega), ru i 3 _ hi (by omega)]; exact v6 i hi
theorem upd_SI {B u : Nat} {s : ST} (h : TI B u s) {r c : Nat} {v : Int32} (hr : r < 6) (hc : c < 3) (hv : inR v 0 999 = true) : SI2 (B + BD) u s (updR u s r c v) := by
  have h1 := fun a b c => (si_0 h a b c).up (Nat.le_add_right B BD)
  unfold updR
  split
  · exact h1 _ _ _
  · split
    · exact h1 _ _ _
    · exact hapT_SI 6 B _ 1 r c v 0 rfl hr hc ⟨fun _ => inR_va hv, fun q => absurd q (by decide)⟩ (si_0 h _ _ _)
theorem rem_SI {B u : Nat} {s : ST} (h : TI B u s) {r : Nat} (hr : r < 6) : SI2 (B + BD) u s (remR u s r) := by
  unfold remR
  split
  · exact hapT_SI 6 B _ 2 r 0 0 0 rfl hr (by decide) ⟨fun q => absurd q (by decide), fun q => absurd q (by decide)⟩ (si_0 h _ _ _)
  · exact (si_0 h _ _ _).up (Nat.le_add_right B BD)
theorem ins_SI {B u : Nat} {s : ST} (h : TI B u s) {r : Nat} {a b c : Int32} (hr : r < 6) (ha : inR a 0 999 = true) (hb : inR b 0 999 = true) (hc : inR c 0 999 = true) : SI2 (B + BD) u s (insR u s r a b c) := by
  unfold insR
  by_cases q : s r = 1
  · rw [if_pos q]; exact (si_0 h _ _ _).up (Nat.le_add_right B BD)
  · rw [if_neg q]
    obtain ⟨t, et⟩ : ∃ t, t = upd (upd (upd s (6 + 3 * r + 0) a) (6 + 3 * r + 1) b) (6 + 3 * r + 2) c := ⟨_, rfl⟩
    rw [← et]
    have nt : ∀ j, j ≠ 6 + 3 * r + 0 → j ≠ 6 + 3 * r + 1 → j ≠ 6 + 3 * r + 2 → t j = s j := fun j h1 h2 h3 => by rw [et, upd_nt _ _ h3, upd_nt _ _ h2, upd_nt _ _ h1]
    have hvt : VS u t := by rw [et]; exact VS_val (VS_val (VS_val h.1 a (by omega) (by omega)) b (by omega) (by omega)) c (by omega) (by omega)
    have hti : TI B u t := by
      obtain ⟨hv, g, l, ⟨c1, c2, c3⟩, e, w⟩ := h
      have hu8 := hv.1
      refine ⟨hvt, fun r1 hr1 z k hk => ?_, l, ⟨c1, by rw [nt 99 (by omega) (by omega) (by omega)]; exact c2, fun k p hk => ?_⟩, e, fun i hi => ?_⟩
      · have z2 : s r1 = 1 := by rw [← nt r1 (by omega) (by omega) (by omega)]; exact z
        have hne : r1 ≠ r := fun w => q (by rw [← w]; exact z2)
        rw [nt _ (by omega) (by omega) (by omega)]; exact g r1 hr1 z2 k hk
      · have := qlt hk
        rw [nt _ (by omega) (by omega) (by omega), nt _ (by omega) (by omega) (by omega)]; exact c3 k p hk
      · rw [show rN t i 8 = rN s i 8 from nt _ (by omega) (by omega) (by omega)]; exact w i hi
    have ht : SI2 B u s (t, 0, -1, 0) := by
      obtain ⟨l, hl, e⟩ := h.1.2.2.2.1
      exact ⟨hti, nt 98 (by omega) (by omega) (by omega), l, l, Nat.le_refl _, hl, e, (nt 99 (by omega) (by omega) (by omega)).trans e⟩
    have hVR : VR t r := fun k hk => match k, hk with
      | 0, _ => by rw [et, upd_nt _ _ (by omega), upd_nt _ _ (by omega), upd_at]; exact inR_va ha
      | 1, _ => by rw [et, upd_nt _ _ (by omega), upd_at]; exact inR_va hb
      | 2, _ => by rw [et, upd_at]; exact inR_va hc
      | k + 3, h => absurd h (by omega)
    exact hapT_SI 6 B (t, 0, -1, 0) 0 r 0 0 0 rfl hr (by decide) ⟨fun q => absurd q (by decide), fun _ => hVR⟩ ht
