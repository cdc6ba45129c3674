theorem sh_bv : ∀ (k : Fin 8) (i : Fin 32), ((1 : Int32) <<< (nI k.val &&& 31)).toBitVec.getLsbD i.val = decide (i.val = k.val) := by decide +kernel
theorem m1_bv : ∀ (i : Fin 32), (-1 : Int32).toBitVec.getLsbD i.val = true := by decide +kernel
theorem z_bv : ∀ (i : Fin 32), (0 : Int32).toBitVec.getLsbD i.val = false := by decide +kernel
theorem mk_bv (p : Nat → Bool) : ∀ (u : Nat), u ≤ 8 → ∀ i, i < 32 → (mkM p u).toBitVec.getLsbD i = (decide (i < u) && p i)
  | 0, _, i, hi => by rw [show mkM p 0 = 0 from rfl, z_bv ⟨i, hi⟩, decide_eq_false (Nat.not_lt_zero i)]; rfl
  | u + 1, hu, i, hi => by
    rw [show mkM p (u + 1) = mkM p u ||| (if p u = true then (1 : Int32) <<< (nI u &&& 31) else 0) from rfl, Int32.toBitVec_or, BitVec.getLsbD_or, mk_bv p u (by omega) i hi]
    by_cases h : p u = true
    · rw [if_pos h, sh_bv ⟨u, by omega⟩ ⟨i, hi⟩]
      by_cases q : i = u
      · subst q
        rw [decide_eq_true (show i = i from rfl), decide_eq_true (show i < i + 1 by omega), h]; simp
      · rw [decide_eq_false q, show decide (i < u + 1) = decide (i < u) from by congr 1; exact propext (by omega)]; simp
    · rw [if_neg h, z_bv ⟨i, hi⟩]
      by_cases q : i = u
      · subst q; rw [Bool.eq_false_iff.mpr h]; simp
      · rw [show decide (i < u + 1) = decide (i < u) from by congr 1; exact propext (by omega)]; simp
theorem bv_ext {a b : Int32} (h : ∀ i, i < 32 → a.toBitVec.getLsbD i = b.toBitVec.getLsbD i) : a = b := Int32.toBitVec_inj.mp (BitVec.eq_of_getLsbD_eq h)
theorem mk_andn (p q : Nat → Bool) {u : Nat} (hu : u ≤ 8) : mkM p u &&& (mkM q u ^^^ (-1)) = mkM (fun j => p j && !q j) u := by
  refine bv_ext fun i hi => ?_
  rw [Int32.toBitVec_and, Int32.toBitVec_xor, BitVec.getLsbD_and, BitVec.getLsbD_xor, mk_bv _ u hu i hi, mk_bv _ u hu i hi, mk_bv _ u hu i hi, m1_bv ⟨i, hi⟩]
  cases decide (i < u) <;> cases p i <;> cases q i <;> rfl
/-- what r reaches, over places below u -/
def Cl (E : Nat → Nat → Bool) (u r j : Nat) : Prop := ∀ p : Nat → Bool, (∀ j, j < u → E r j = true → p j = true) → (∀ i j, i < u → j < u → p i = true → E i j = true → p j = true) → p j = true
theorem Cl.one {E : Nat → Nat → Bool} {u r j : Nat} (hj : j < u) (h : E r j = true) : Cl E u r j := fun _ h1 _ => h1 j hj h
theorem Cl.step {E : Nat → Nat → Bool} {u r i j : Nat} (hi : i < u) (hj : j < u) (h : Cl E u r i) (g : E i j = true) : Cl E u r j := fun p h1 h2 => h2 i j hi hj (h p h1 h2) g
theorem Cl.tr {E : Nat → Nat → Bool} {u r i j : Nat} (hi : i < u) (h : Cl E u r i) (g : Cl E u i j) : Cl E u r j := fun p h1 h2 => g p (fun j hj e => h2 i j hi hj (h p h1 h2) e) h2
/-- p is what r reaches -/
def IsCl (E : Nat → Nat → Bool) (u r : Nat) (p : Nat → Bool) : Prop := (∀ j, j < u → p j = true → Cl E u r j) ∧ (∀ j, j < u → E r j = true → p j = true) ∧ ∀ i j, i < u → j < u → p i = true → E i j = true → p j = true
theorem IsCl.eq {E : Nat → Nat → Bool} {u r : Nat} {p q : Nat → Bool} (h : IsCl E u r p) (g : IsCl E u r q) : ∀ j, j < u → p j = q j := by
  intro j hj
  rw [Bool.eq_iff_iff]
  exact ⟨fun e => h.1 j hj e q g.2.1 g.2.2, fun e => g.1 j hj e p h.2.1 h.2.2⟩
def cnt (p : Nat → Bool) : Nat → Nat
  | 0 => 0
  | k + 1 => cnt p k + (if p k = true then 1 else 0)
theorem cnt_le (p : Nat → Bool) : ∀ k, cnt p k ≤ k
  | 0 => Nat.le_refl _
  | k + 1 => by have := cnt_le p k; show cnt p k + (if _ then 1 else 0) ≤ _; split <;> omega
theorem cnt_mono {p q : Nat → Bool} : ∀ k, (∀ j, j < k → p j = true → q j = true) → cnt p k ≤ cnt q k
  | 0, _ => Nat.le_refl _
  | k + 1, h => by
    have := cnt_mono k (fun j hj => h j (by omega))
    show cnt p k + (if p k = true then 1 else 0) ≤ cnt q k + (if q k = true then 1 else 0)
    by_cases a : p k = true
    · rw [if_pos a, if_pos (h k (by omega) a)]; omega
    · rw [if_neg a]; omega
theorem cnt_lt {p q : Nat → Bool} : ∀ k, (∀ j, j < k → p j = true → q j = true) → (∃ j, j < k ∧ ¬ p j = true ∧ q j = true) → cnt p k + 1 ≤ cnt q k
  | 0, _, ⟨j, hj, _⟩ => absurd hj (Nat.not_lt_zero j)
  | k + 1, h, ⟨j, hj, h1, h2⟩ => by
    show cnt p k + (if p k = true then 1 else 0) + 1 ≤ cnt q k + (if q k = true then 1 else 0)
    by_cases e : j = k
    · subst e
      have := cnt_mono j (fun j hj => h j (by omega))
      rw [if_neg h1, if_pos h2]; omega
    · have := cnt_lt k (fun j hj => h j (by omega)) ⟨j, by omega, h1, h2⟩
      by_cases a : p k = true
      · rw [if_pos a, if_pos (h k (by omega) a)]; omega
      · rw [if_neg a]; omega
theorem cnt_all {p : Nat → Bool} : ∀ k, k ≤ cnt p k → ∀ j, j < k → p j = true
  | 0, _, j, hj => absurd hj (Nat.not_lt_zero j)
  | k + 1, h, j, hj => by
    have h1 : k + 1 ≤ cnt p k + (if p k = true then 1 else 0) := h
    have := cnt_le p k
    by_cases a : p k = true
    · rw [if_pos a] at h1
      by_cases e : j = k
      · rw [e]; exact a
      · exact cnt_all k (by omega) j (by omega)
    · rw [if_neg a] at h1; omega
theorem moN_iff (s : Nat → Int32) (p : Nat → Bool) (j : Nat) : ∀ k, moN s p k j = true ↔ p j = true ∨ ∃ i, i < k ∧ p i = true ∧ stO s i j = true
  | 0 => ⟨fun h => .inl h, fun h => h.elim id (fun ⟨i, hi, _⟩ => absurd hi (Nat.not_lt_zero i))⟩
  | k + 1 => by
    show (moN s p k j || (p k && stO s k j)) = true ↔ _
    rw [Bool.or_eq_true, moN_iff s p j k, Bool.and_eq_true]
    constructor
    · rintro ((h | ⟨i, hi, h⟩) | h)
      · exact .inl h
      · exact .inr ⟨i, by omega, h⟩
      · exact .inr ⟨k, by omega, h⟩
    · rintro (h | ⟨i, hi, h⟩)
      · exact .inl (.inl h)
      · by_cases e : i = k
        · subst e; exact .inr h
        · exact .inl (.inr ⟨i, by omega, h⟩)
theorem rcN_sound (s : Nat → Int32) (u r : Nat) : ∀ t j, j < u → rcN s u r t j = true → Cl (stO s) u r j
  | 0, j, hj, h => Cl.one hj h
  | t + 1, j, hj, h => by
    rcases (moN_iff s _ j u).mp h with h | ⟨i, hi, h1, h2⟩
    · exact rcN_sound s u r t j hj h
    · exact Cl.step hi hj (rcN_sound s u r t i hi h1) h2
theorem rcN_has (s : Nat → Int32) (u r : Nat) : ∀ t j, stO s r j = true → rcN s u r t j = true
  | 0, _, h => h
  | t + 1, j, h => (moN_iff s _ j u).mpr (.inl (rcN_has s u r t j h))
theorem rcN_cl (s : Nat → Int32) (u r : Nat) : ∀ t, (∀ i j, i < u → j < u → rcN s u r t i = true → stO s i j = true → rcN s u r t j = true) ∨ t ≤ cnt (rcN s u r t) u
  | 0 => .inr (Nat.zero_le _)
  | t + 1 => by
    have up : ∀ j, rcN s u r t j = true → rcN s u r (t + 1) j = true := fun j h => (moN_iff s _ j u).mpr (.inl h)
    by_cases c : ∀ i j, i < u → j < u → rcN s u r t i = true → stO s i j = true → rcN s u r t j = true
    · refine .inl fun i j hi hj h1 h2 => up j ?_
      have back : rcN s u r t i = true := by
        rcases (moN_iff s _ i u).mp h1 with h | ⟨k, hk, h3, h4⟩
        · exact h
        · exact c k i hk hi h3 h4
      exact c i j hi hj back h2
    · rcases rcN_cl s u r t with h | h
      · exact absurd h c
      · refine .inr (Nat.le_trans (Nat.succ_le_succ h) (cnt_lt u (fun j _ => up j) ?_))
        have : ∃ i j, i < u ∧ j < u ∧ rcN s u r t i = true ∧ stO s i j = true ∧ ¬ rcN s u r t j = true := by
          by_cases d : ∃ i j, i < u ∧ j < u ∧ rcN s u r t i = true ∧ stO s i j = true ∧ ¬ rcN s u r t j = true
          · exact d
          · exact absurd (fun i j hi hj h1 h2 => Classical.byContradiction fun h3 => d ⟨i, j, hi, hj, h1, h2, h3⟩) c
        obtain ⟨i, j, hi, hj, h1, h2, h3⟩ := this
        exact ⟨j, hj, h3, (moN_iff s _ j u).mpr (.inr ⟨i, hi, h1, h2⟩)⟩
theorem rcN_IsCl (s : Nat → Int32) {u : Nat} (r : Nat) (hu : u ≤ 8) : IsCl (stO s) u r (rcN s u r 8) := by
  refine ⟨rcN_sound s u r 8, fun j _ h => rcN_has s u r 8 j h, ?_⟩
  rcases rcN_cl s u r 8 with h | h
  · exact h
  · exact fun i j _ hj _ _ => cnt_all u (by omega) j hj
/-- the class's search: reached and fresh behind m rounds -/
def fuN (E : Nat → Nat → Bool) (f : Nat → Bool) : Nat → Nat → Bool
  | 0 => fun _ => false
  | k + 1 => fun j => fuN E f k j || (f k && E k j)
theorem fuN_iff (E : Nat → Nat → Bool) (f : Nat → Bool) (j : Nat) : ∀ k, fuN E f k j = true ↔ ∃ i, i < k ∧ f i = true ∧ E i j = true
  | 0 => ⟨(fun h => by cases h), fun ⟨i, hi, _⟩ => absurd hi (Nat.not_lt_zero i)⟩
  | k + 1 => by
    show (fuN E f k j || (f k && E k j)) = true ↔ _
    rw [Bool.or_eq_true, fuN_iff E f j k, Bool.and_eq_true]
    constructor
    · rintro (⟨i, hi, h⟩ | h)
      · exact ⟨i, by omega, h⟩
      · exact ⟨k, by omega, h⟩
    · rintro ⟨i, hi, h⟩
      by_cases e : i = k
      · subst e; exact .inr h
      · exact .inl ⟨i, by omega, h⟩
def SI (E : Nat → Nat → Bool) (u r m : Nat) (p f : Nat → Bool) : Prop := (∀ j, j < u → p j = true → Cl E u r j) ∧ (∀ j, j < u → f j = true → Cl E u r j) ∧ (∀ j, j < u → E r j = true → p j = true ∨ f j = true) ∧ (∀ i j, i < u → j < u → p i = true → E i j = true → p j = true ∨ f j = true) ∧ (∀ j, j < u → f j = true → ¬ p j = true) ∧ m ≤ cnt p u
theorem SI_0 (E : Nat → Nat → Bool) (u r : Nat) : SI E u r 0 (fun _ => false) (E r) := ⟨(fun _ _ h => by cases h), fun j hj h => Cl.one hj h, fun _ _ h => .inr h, (fun _ _ _ _ h => by cases h), (fun _ _ _ h => by cases h), Nat.zero_le _⟩
theorem SI_end {E : Nat → Nat → Bool} {u r m : Nat} {p f : Nat → Bool} (h : SI E u r m p f) (hf : ∀ j, j < u → f j = false) : IsCl E u r p := by
  obtain ⟨a, b, c, d, e, g⟩ := h
  refine ⟨a, fun j hj q => (c j hj q).resolve_right (by rw [hf j hj]; decide), fun i j hi hj q w => (d i j hi hj q w).resolve_right (by rw [hf j hj]; decide)⟩
theorem SI_8 {E : Nat → Nat → Bool} {u r : Nat} {p f : Nat → Bool} (h : SI E u r 8 p f) (hu : u ≤ 8) : IsCl E u r p := by
  obtain ⟨a, b, c, d, e, g⟩ := h
  have all : ∀ j, j < u → p j = true := cnt_all u (by omega)
  exact ⟨a, fun j hj _ => all j hj, fun i j _ hj _ _ => all j hj⟩
theorem SI_s {E : Nat → Nat → Bool} {u r m : Nat} {p f : Nat → Bool} (h : SI E u r m p f) (hf : ¬ mkM f u = 0) : SI E u r (m + 1) (fun j => p j || f j) (fun j => fuN E f u j && !(p j || f j)) := by
  obtain ⟨a, b, c, d, e, g⟩ := h
  have ex : ∃ j, j < u ∧ f j = true := by
    by_cases z : ∃ j, j < u ∧ f j = true
    · exact z
    · exact absurd (mk_0 f u (fun j hj => Bool.eq_false_iff.mpr (fun q => z ⟨j, hj, q⟩))) hf
  have pf : ∀ j, (p j || f j) = true ↔ p j = true ∨ f j = true := fun j => by rw [Bool.or_eq_true]
  have ab : ∀ j, j < u → (p j || f j) = true → Cl E u r j := fun j hj q => ((pf j).mp q).elim (a j hj) (b j hj)
  refine ⟨ab, fun j hj q => ?_, fun j hj q => .inl ((pf j).mpr (c j hj q)), fun i j hi hj q w => ?_, fun j hj q w => ?_, ?_⟩
  · obtain ⟨q1, _⟩ := Bool.and_eq_true_iff.mp q
    obtain ⟨i, hi, h1, h2⟩ := (fuN_iff E f j u).mp q1
    exact Cl.step hi hj (b i hi h1) h2
  · by_cases z : (p j || f j) = true
    · exact .inl z
    · refine .inr ?_
      rcases (pf i).mp q with q | q
      · exact absurd ((pf j).mpr (d i j hi hj q w)) z
      · show (fuN E f u j && !(p j || f j)) = true
        rw [(fuN_iff E f j u).mpr ⟨i, hi, q, w⟩, Bool.eq_false_iff.mpr z]; rfl
  · obtain ⟨_, q2⟩ := Bool.and_eq_true_iff.mp q
    rw [show (p j || f j) = true from w] at q2; cases q2
  · obtain ⟨j, hj, q⟩ := ex
    exact Nat.le_trans (Nat.succ_le_succ g) (cnt_lt u (fun j _ q => (pf j).mpr (.inl q)) ⟨j, hj, e j hj q, (pf j).mpr (.inr q)⟩)
/-- the class's table -/
def wN (E : Nat → Nat → Bool) : Nat → Nat → Nat → Bool
  | 0 => E
  | b + 1 => fun r j => wN E b r j || (wN E b r b && wN E b b j)
theorem wN_b (E : Nat → Nat → Bool) (b : Nat) : wN E (b + 1) b = wN E b b := by
  funext j
  show (wN E b b j || (wN E b b b && wN E b b j)) = _
  cases wN E b b j <;> cases wN E b b b <;> rfl
theorem wN_up (E : Nat → Nat → Bool) (r j : Nat) : ∀ b, E r j = true → wN E b r j = true
  | 0, h => h
  | b + 1, h => by show (_ || _) = true; rw [wN_up E r j b h]; rfl
theorem wN_sound (E : Nat → Nat → Bool) (u : Nat) : ∀ b, b ≤ u → ∀ r j, r < u → j < u → wN E b r j = true → Cl E u r j
  | 0, _, r, j, _, hj, h => Cl.one hj h
  | b + 1, hb, r, j, hr, hj, h => by
    rcases Bool.or_eq_true_iff.mp h with h | h
    · exact wN_sound E u b (by omega) r j hr hj h
    · obtain ⟨h1, h2⟩ := Bool.and_eq_true_iff.mp h
      exact Cl.tr (by omega) (wN_sound E u b (by omega) r b hr (by omega) h1) (wN_sound E u b (by omega) b j (by omega) hj h2)
theorem wN_tr (E : Nat → Nat → Bool) : ∀ b r i j, i < b → wN E b r i = true → wN E b i j = true → wN E b r j = true
  | 0, _, i, _, hi, _, _ => absurd hi (Nat.not_lt_zero i)
  | b + 1, r, i, j, hi, h1, h2 => by
    have T := wN_tr E b
    have mk : ∀ x y, wN E b x y = true ∨ (wN E b x b = true ∧ wN E b b y = true) ↔ wN E (b + 1) x y = true := fun x y => by
      show _ ↔ (wN E b x y || (wN E b x b && wN E b b y)) = true
      rw [Bool.or_eq_true, Bool.and_eq_true]
    rw [← mk] at h1 h2 ⊢
    by_cases e : i = b
    · subst e
      have a1 : wN E i r i = true := h1.elim id And.left
      have a2 : wN E i i j = true := h2.elim id And.right
      exact .inr ⟨a1, a2⟩
    · have hib : i < b := by omega
      rcases h1 with h1 | ⟨h1, h1'⟩
      · rcases h2 with h2 | ⟨h2, h2'⟩
        · exact .inl (T r i j hib h1 h2)
        · exact .inr ⟨T r i b hib h1 h2, h2'⟩
      · rcases h2 with h2 | ⟨h2, h2'⟩
        · exact .inr ⟨h1, T b i j hib h1' h2⟩
        · exact .inr ⟨h1, h2'⟩
theorem wN_IsCl (E : Nat → Nat → Bool) (u : Nat) {r : Nat} (hr : r < u) : IsCl E u r (wN E u r) := ⟨fun j hj h => wN_sound E u u (Nat.le_refl _) r j hr hj h, fun j _ h => wN_up E r j u h, fun i j hi _ h1 h2 => wN_tr E u r i j hi h1 (wN_up E i j u h2)⟩
