/-! ===== WHAT THE TABLE'S CHECKS REST ON ===== -/
theorem orand (a b : Int32) : (a ||| b) &&& b = b := Int32.toBitVec_inj.1 (BitVec.eq_of_getLsbD_eq fun i hi => by
  show ((a.toBitVec ||| b.toBitVec) &&& b.toBitVec).getLsbD i = _
  rw [BitVec.getLsbD_and, BitVec.getLsbD_or]
  cases a.toBitVec.getLsbD i <;> cases b.toBitVec.getLsbD i <;> rfl)
/-- a set in another: their common part -/
theorem mk_sub {p q : Nat → Bool} {u : Nat} (h : ∀ j, j < u → q j = true → p j = true) : mkM p u &&& mkM q u = mkM q u := by
  have e : mkM p u ||| mkM q u = mkM p u := by
    rw [mk_or]
    refine mkM_cg u fun j hj => ?_
    cases hq : q j with
    | false => exact Bool.or_false _
    | true => rw [h j hj hq]; rfl
  rw [← e, orand]
theorem b8_bit : ∀ (a b c d e f g h : Bool) (r : Fin 8), b8 a b c d e f g h r.val = true → ((mkM (b8 a b c d e f g h) 8) >>> (nI r.val &&& 31)) &&& 1 = 1 := by decide +kernel
theorem mk_bit1 {q : Nat → Bool} {u r : Nat} (hu : u ≤ 8) (hr : r < u) (h : q r = true) : (mkM q u >>> (nI r &&& 31)) &&& 1 = 1 := by
  rw [mkM_8 q hu, mk_b8]
  refine b8_bit _ _ _ _ _ _ _ _ ⟨r, by omega⟩ ?_
  rw [b8_at (fun j => q j && decide (j < u)) (by omega)]
  dsimp only
  rw [decide_eq_true hr, Bool.and_true, h]
theorem b8_lt : ∀ (a b c d e f g h : Bool) (u : Fin 9), ¬ (1 : Int32) <<< (nI u.val &&& 31) ≤ mkM (b8 (a && decide (0 < u.val)) (b && decide (1 < u.val)) (c && decide (2 < u.val)) (d && decide (3 < u.val)) (e && decide (4 < u.val)) (f && decide (5 < u.val)) (g && decide (6 < u.val)) (h && decide (7 < u.val))) 8 := by decide +kernel
theorem mk_lt (q : Nat → Bool) {u : Nat} (hu : u ≤ 8) : ¬ (1 : Int32) <<< (nI u &&& 31) ≤ mkM q u := by
  rw [mkM_8 q hu, mk_b8]
  exact b8_lt (q 0) (q 1) (q 2) (q 3) (q 4) (q 5) (q 6) (q 7) ⟨u, by omega⟩
/-- a rule that is muted, or does nothing to the table, sets nothing off -/
theorem stO_off {s : ST} {i : Nat} (h : ¬ rN s i 7 = 0 ∨ (¬ rN s i 3 = 2 ∧ ¬ rN s i 3 = 3)) (j : Nat) : stO s i j = false := by
  unfold stO
  rcases h with h | ⟨h1, h2⟩
  · rw [decide_eq_false h]; rfl
  · rw [decide_eq_false h1, decide_eq_false h2, Bool.false_and, Bool.false_and, Bool.or_false, Bool.and_false, Bool.and_false]
theorem moN_off {s : ST} {p : Nat → Bool} (h : ∀ j, p j = false) : ∀ k j, moN s p k j = false
  | 0, j => h j
  | k + 1, j => by
    show (moN s p k j || (p k && stO s k j)) = false
    rw [moN_off h k j, h k]; rfl
theorem rcN_off {s : ST} {u i : Nat} (h : ∀ j, stO s i j = false) : ∀ t j, rcN s u i t j = false
  | 0, j => h j
  | t + 1, j => moN_off (rcN_off h t) u j
theorem reach_off {s : ST} {u i : Nat} (h : ¬ rN s i 7 = 0 ∨ (¬ rN s i 3 = 2 ∧ ¬ rN s i 3 = 3)) : mkM (rcN s u i 8) u = 0 := mk_0 _ u (fun j _ => rcN_off (stO_off h) 8 j)
/-- what a rule sets off it reaches, and all that that reaches -/
theorem reach_st {s : ST} {u i j : Nat} (hj : j < u) (h : stO s i j = true) (hu : u ≤ 8) : rcN s u i 8 j = true ∧ ∀ k, k < u → rcN s u j 8 k = true → rcN s u i 8 k = true := by
  obtain ⟨a1, a2, a3⟩ := rcN_IsCl s i hu
  obtain ⟨b1, b2, b3⟩ := rcN_IsCl s j hu
  have hij := a2 j hj h
  refine ⟨hij, fun k hk q => ?_⟩
  exact b1 k hk q (rcN s u i 8) (fun m hm e => a3 j m hj hm hij e) a3
theorem stO_nm {s : ST} {i j : Nat} (h : stO s i j = true) : rN s j 7 = 0 := by
  unfold stO at h
  rw [Bool.and_eq_true, Bool.and_eq_true] at h
  exact of_decide_eq_true h.2.1
/-- how many rows there are -/
def rowN (s : ST) : Nat → Nat
  | 0 => 0
  | k + 1 => rowN s k + (if s k = 1 then 1 else 0)
theorem rowN_le (s : ST) : ∀ k, rowN s k ≤ k
  | 0 => Nat.le_refl _
  | k + 1 => by
    have := rowN_le s k
    show rowN s k + _ ≤ k + 1
    split <;> omega
theorem smN_row {s : ST} : ∀ k, (∀ j, j < k → s j = 0 ∨ s j = 1) → smN s k = nI (rowN s k)
  | 0, _ => rfl
  | k + 1, h => by
    show smN s k + s k = nI (rowN s k + (if s k = 1 then 1 else 0))
    rw [smN_row k (fun j hj => h j (by omega)), ← nI_add]
    rcases h k (by omega) with q | q <;> rw [q] <;> rfl
theorem rowN_0 {s : ST} : ∀ k, rowN s k = 0 → ∀ j, j < k → ¬ s j = 1
  | 0, _, j, hj => absurd hj (by omega)
  | k + 1, h, j, hj => by
    have h2 : rowN s k + (if s k = 1 then 1 else 0) = 0 := h
    by_cases e : s k = 1
    · rw [if_pos e] at h2; omega
    · rw [if_neg e] at h2
      rcases Nat.lt_or_ge j k with q | q
      · exact rowN_0 k (by omega) j q
      · rw [show j = k by omega]; exact e
theorem sumF_0 {s : ST} (c : Nat) : ∀ k, (∀ j, j < k → ¬ s j = 1) → sumF s c k = 0
  | 0, _ => rfl
  | k + 1, h => by
    show sumF s c k + (if s k = 1 then s (6 + 3 * k + c) else 0) = 0
    rw [sumF_0 c k (fun j hj => h j (by omega)), if_neg (h k (by omega))]; rfl
/-- how many of the first acts logged are rule i's -/
def cnF (s : ST) (i : Nat) : Nat → Nat
  | 0 => 0
  | k + 1 => cnF s i k + (if s (100 + k) = nI i then 1 else 0)
theorem cnL_app (i : Nat) : ∀ (a b : LL), cnL i (a ++ b) = cnL i a + cnL i b
  | [], b => (Nat.zero_add _).symm
  | p :: t, b => by
    show cnL i (t ++ b) + (if p.1 = nI i then 1 else 0) = cnL i t + (if p.1 = nI i then 1 else 0) + cnL i b
    rw [cnL_app i t b]; omega
theorem cnF_l {s : ST} {l : LL} (h : LM s l) (i : Nat) : ∀ k, k ≤ l.length → cnF s i k = cnL i (l.take k)
  | 0, _ => by rw [List.take_zero]; rfl
  | k + 1, hk => by
    obtain ⟨p, hp⟩ : ∃ p, l[k]? = some p := ⟨_, List.getElem?_eq_getElem (by omega)⟩
    rw [take_q hp, cnL_app]
    show cnF s i k + (if s (100 + k) = nI i then 1 else 0) = cnL i (l.take k) + (cnL i [] + (if p.1 = nI i then 1 else 0))
    rw [cnF_l h i k (by omega), (h.2.2 k p hp).1]
    show _ = _ + (0 + _)
    rw [Nat.zero_add]
theorem cnF_le (s : ST) (i : Nat) : ∀ k, cnF s i k ≤ k
  | 0 => Nat.le_refl _
  | k + 1 => by
    have := cnF_le s i k
    show cnF s i k + _ ≤ k + 1
    split <;> omega
