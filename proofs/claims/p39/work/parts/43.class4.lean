abbrev LL : Type := List (Int32 × Int32)
/-- the class's log, as a list, the latest first -/
def LR (σ : SS) (l : LL) : Prop := l.length ≤ 16 ∧ sLs σ 0 = nI l.length ∧ ∃ la, la < 16 ∧ sLs σ 1 = nI la ∧ ∀ k p, l[k]? = some p → sLr σ ((la + 16 - k) % 16) = p.1 ∧ sLd σ ((la + 16 - k) % 16) = p.2
theorem qlt {l : LL} {k : Nat} {p : Int32 × Int32} (h : l[k]? = some p) : k < l.length := (List.getElem?_eq_some_iff.mp h).1
theorem drop_q {l : LL} {k : Nat} {p : Int32 × Int32} (h : l[k]? = some p) : l.drop k = p :: l.drop (k + 1) := by
  obtain ⟨h1, h2⟩ := List.getElem?_eq_some_iff.mp h
  rw [← h2]; exact List.drop_eq_getElem_cons h1
theorem take16 {p q : Int32 × Int32} {l : LL} {k : Nat} (h : ((p :: l).take 16)[k]? = some q) : k < 16 ∧ ((k = 0 ∧ q = p) ∨ ∃ j, k = j + 1 ∧ l[j]? = some q) := by
  rw [List.getElem?_take] at h
  by_cases hk : k < 16
  · rw [if_pos hk] at h
    refine ⟨hk, ?_⟩
    cases k with
    | zero => rw [List.getElem?_cons_zero] at h; cases h; exact .inl ⟨rfl, rfl⟩
    | succ j => rw [List.getElem?_cons_succ] at h; exact .inr ⟨j, rfl, h⟩
  · rw [if_neg hk] at h; cases h
theorem take16_len (p : Int32 × Int32) (l : LL) : ((p :: l).take 16).length = min (l.length + 1) 16 := by
  rw [List.length_take, List.length_cons]; exact Nat.min_comm _ _
theorem LR_note {σ : SS} {l : LL} {la : Nat} (hl : l.length ≤ 16) (ha : la < 16) (hk : ∀ k p, l[k]? = some p → sLr σ ((la + 16 - k) % 16) = p.1 ∧ sLd σ ((la + 16 - k) % 16) = p.2) (v d : Int32) : LR (ntS σ la l.length v d) (((v, d) :: l).take 16) := by
  have h4 : (la + 1) % 16 < 16 := by omega
  refine ⟨by rw [take16_len]; omega, by rw [take16_len]; rfl, (la + 1) % 16, h4, rfl, fun k q h => ?_⟩
  obtain ⟨h1, ⟨h2, h3⟩ | ⟨j, h2, h3⟩⟩ := take16 h
  · subst h2; subst h3
    rw [show ((la + 1) % 16 + 16 - 0) % 16 = (la + 1) % 16 by omega]
    exact ⟨upd_at _ _ _, upd_at _ _ _⟩
  · subst h2
    obtain ⟨a, b⟩ := hk j q h3
    have e : ((la + 1) % 16 + 16 - (j + 1)) % 16 = (la + 16 - j) % 16 := by omega
    have n : (la + 16 - j) % 16 ≠ (la + 1) % 16 := by omega
    rw [e]
    exact ⟨(upd_nt _ _ n).trans a, (upd_nt _ _ n).trans b⟩
def rnm (rl : Nat) (v : Int32) : Int32 := if v ≤ nI rl then v else v - 1
def fg (rl : Nat) : LL → LL
  | [] => []
  | p :: t => if p.1 = nI rl then fg rl t else (rnm rl p.1, p.2) :: fg rl t
theorem fg_len (rl : Nat) : ∀ l : LL, (fg rl l).length ≤ l.length
  | [] => Nat.le_refl _
  | p :: t => by
    have := fg_len rl t
    show (if _ then _ else _ : LL).length ≤ t.length + 1
    split
    · omega
    · show (fg rl t).length + 1 ≤ _; omega
def LGO (σ τ : SS) : Prop := sTh τ = sTh σ ∧ sVa τ = sVa σ ∧ sRu τ = sRu σ ∧ sSc τ = sSc σ
/-- forget, under way: i acts are read, from the oldest on -/
def FI (σ : SS) (rl n old : Nat) (l : LL) (i m : Nat) (τ : SS) : Prop := LGO σ τ ∧ (m ≤ i ∧ (fg rl (l.drop (n - i))).length = m ∧ sLs τ 0 = nI m ∧ sLs τ 1 = nI ((old + 31 + m) % 16) ∧ ∀ k p, (fg rl (l.drop (n - i)))[k]? = some p → sLr τ ((old + 47 + m - k) % 16) = p.1 ∧ sLd τ ((old + 47 + m - k) % 16) = p.2) ∧ ∀ j, i ≤ j → j < n → sLr τ ((old + j) % 16) = sLr σ ((old + j) % 16) ∧ sLd τ ((old + j) % 16) = sLd σ ((old + j) % 16)
theorem FI_skip {σ τ : SS} {rl n old i m : Nat} {l : LL} {p : Int32 × Int32} (h : FI σ rl n old l i m τ) (hi : i < n) (hp : l[n - 1 - i]? = some p) (hr : p.1 = nI rl) : FI σ rl n old l (i + 1) m τ := by
  obtain ⟨a, ⟨b1, b2, b3, b4, b5⟩, c⟩ := h
  have e : fg rl (l.drop (n - (i + 1))) = fg rl (l.drop (n - i)) := by
    rw [show n - (i + 1) = n - 1 - i by omega, drop_q hp, show n - 1 - i + 1 = n - i by omega]; exact if_pos hr
  exact ⟨a, ⟨by omega, by rw [e]; exact b2, b3, b4, by rw [e]; exact b5⟩, fun j h1 h2 => c j (by omega) h2⟩
theorem FI_note {σ τ : SS} {rl n old i m : Nat} {l : LL} {p : Int32 × Int32} (h : FI σ rl n old l i m τ) (hi : i < n) (hn : n ≤ 16) (hp : l[n - 1 - i]? = some p) (hr : ¬ p.1 = nI rl) : FI σ rl n old l (i + 1) (m + 1) (ntS τ ((old + 31 + m) % 16) m (rnm rl p.1) p.2) := by
  obtain ⟨a, ⟨b1, b2, b3, b4, b5⟩, c⟩ := h
  have e : fg rl (l.drop (n - (i + 1))) = (rnm rl p.1, p.2) :: fg rl (l.drop (n - i)) := by
    rw [show n - (i + 1) = n - 1 - i by omega, drop_q hp, show n - 1 - i + 1 = n - i by omega]; exact if_neg hr
  refine ⟨a, ⟨by omega, by rw [e, List.length_cons, b2], ?_, ?_, fun k q hk => ?_⟩, fun j h1 h2 => ?_⟩
  · show nI (min (m + 1) 16) = nI (m + 1)
    rw [Nat.min_eq_left (by omega)]
  · show nI (((old + 31 + m) % 16 + 1) % 16) = _
    rw [show ((old + 31 + m) % 16 + 1) % 16 = (old + 31 + (m + 1)) % 16 by omega]
  · rw [e] at hk
    cases k with
    | zero =>
      rw [List.getElem?_cons_zero] at hk; cases hk
      rw [show (old + 47 + (m + 1) - 0) % 16 = ((old + 31 + m) % 16 + 1) % 16 by omega]
      exact ⟨upd_at _ _ _, upd_at _ _ _⟩
    | succ k =>
      rw [List.getElem?_cons_succ] at hk
      have hlt := qlt hk
      obtain ⟨q1, q2⟩ := b5 k q hk
      have n1 : (old + 47 + m - k) % 16 ≠ ((old + 31 + m) % 16 + 1) % 16 := by omega
      rw [show (old + 47 + (m + 1) - (k + 1)) % 16 = (old + 47 + m - k) % 16 by omega]
      exact ⟨(upd_nt _ _ n1).trans q1, (upd_nt _ _ n1).trans q2⟩
  · obtain ⟨q1, q2⟩ := c j (by omega) h2
    have n1 : (old + j) % 16 ≠ ((old + 31 + m) % 16 + 1) % 16 := by omega
    exact ⟨(upd_nt _ _ n1).trans q1, (upd_nt _ _ n1).trans q2⟩
theorem FI_end {σ τ : SS} {rl n old m : Nat} {l : LL} (h : FI σ rl n old l n m τ) (hn : n ≤ 16) : LR τ (fg rl l) := by
  obtain ⟨a, ⟨b1, b2, b3, b4, b5⟩, c⟩ := h
  rw [Nat.sub_self, List.drop_zero] at b2 b5
  refine ⟨by omega, by rw [b2]; exact b3, _, Nat.mod_lt _ (by decide), b4, fun k q hk => ?_⟩
  have hlt := qlt hk
  rw [show ((old + 31 + m) % 16 + 16 - k) % 16 = (old + 47 + m - k) % 16 by omega]
  exact b5 k q hk
def fgQ (x : XW) (b rl : Nat) (l : LL) : Out → Hp → Prop := fun o h2 => o = .inl none ∧ ∃ τ, h2 = hp (uC1 x b τ) ∧ LGO (cSt x.1 b) τ ∧ LR τ (fg rl l)
theorem fsub {a n : Nat} (hn : n ≤ 16) : nI a - (nI n - nI 1) = nI (a + 33 - n) - nI 32 := by
  have e : nI (a + 33 - n) + nI n = nI a + nI 33 := by rw [nI_add, nI_add]; congr 1; omega
  have e2 : nI (a + 33 - n) = nI a + nI 33 - nI n := by rw [← e, Int32.add_sub_cancel]
  rw [e2, show nI 33 = nI 32 + nI 1 from rfl]
  generalize nI a = A; generalize nI n = N; generalize nI 32 = B; generalize nI 1 = C
  simp only [Int32.sub_eq_add_neg, Int32.neg_add, Int32.neg_neg]
  have e9 : A + (B + C) + -N + -B = (A + (-N + C)) + (B + -B) := by ac_rfl
  rw [e9, Int32.add_right_neg, Int32.add_zero]
set_option maxRecDepth 100000 in
set_option maxHeartbeats 4000000 in
theorem ct_X2_forget (x : XW) (b rl : Nat) (l : LL) (hb : b < 10) (hg : LR (cSt x.1 b) l) : CT MX2_forget 2 0 [.ref (16 * b + 4), .int (nI rl)] (hp x) (fgQ x b rl l) := by
  refine ct_of (by decide +kernel) (by decide) rfl (k := 5) (ls := [some (.ref (16 * b + 4)), some (.int (nI rl)), none, none, none, none, none]) rfl (Nat.le_of_ble_eq_true rfl) ?_
  obtain ⟨hn, h0, la, hla, h1, hk⟩ := hg
  obtain ⟨n, en⟩ : ∃ n, n = l.length := ⟨_, rfl⟩
  rw [← en] at hn h0
  obtain ⟨old, eo⟩ : ∃ old, old = (la + 33 - n) % 16 := ⟨_, rfl⟩
  have ho : old < 16 := by omega
  have L : ∀ k i, i + k = n → ∀ (m : Nat) (τ : SS) (a5 a6 : Option Value), FI (cSt x.1 b) rl n old l i m τ → PW MX2_forget 2 0 33 [some (.ref (16 * b + 4)), some (.int (nI rl)), some (.int (nI n)), some (.int (nI old)), some (.int (nI i)), a5, a6] [] (hp (uC1 x b τ)) (fgQ x b rl l) := by
    intro k
    induction k with
    | zero =>
      intro i hi m τ a5 a6 hf
      obtain rfl : i = n := by omega
      refine pw_iload (tk tkX2_forget 21 rfl) rfl ?_
      refine pw_iload_n (tk tkX2_forget 22 rfl) rfl ?_
      refine pw_icmp_ge (tgt := 97) (tk tkX2_forget 23 rfl) (by decide) (fun c36 => ?_) (fun c36 => absurd (Int32.le_refl _) c36)
      exact pw_return (tk tkX2_forget 54 rfl) rfl (by decide) ⟨rfl, τ, rfl, hf.1, FI_end hf hn⟩
    | succ k ih =>
      intro i hi m τ a5 a6 hf
      obtain ⟨p, hp0⟩ : ∃ p, l[n - 1 - i]? = some p := ⟨_, List.getElem?_eq_getElem (by omega)⟩
      obtain ⟨p1, p2⟩ := hk _ p hp0
      have ix : (la + 16 - (n - 1 - i)) % 16 = (old + i) % 16 := by omega
      rw [ix] at p1 p2
      obtain ⟨q1, q2⟩ := hf.2.2 i (Nat.le_refl _) (by omega)
      have hm := hf.2.1.1
      have J81 : ¬ p.1 = nI rl → ∀ w, w = rnm rl p.1 → PW MX2_forget 2 0 81 [some (.ref (16 * b + 4)), some (.int (nI rl)), some (.int (nI n)), some (.int (nI old)), some (.int (nI i)), some (.int (nI ((old + i) % 16))), some (.int (sLr τ ((old + i) % 16)))] [.int w, .ref (16 * b + 4)] (hp (uC1 x b τ)) (fgQ x b rl l) := by
        intro hne w hw
        subst hw
        refine pw_aload_n (tk tkX2_forget 47 rfl) rfl ?_
        refine g2_depths (by first | assumption | decide | omega) (tk tkX2_forget 48 rfl) fkX2_15 ?_
        refine pw_iload (tk tkX2_forget 49 rfl) rfl ?_
        refine al_ld_e (e := (old + i) % 16) (by first | assumption | decide | omega) (tk tkX2_forget 50 rfl) rfl (by first | decide | omega) ?_
        rw [cSt_u, q2, p2]
        refine pw_cV0 (ct_X2_note (uC1 x b τ) b ((old + 31 + m) % 16) m hb (by rw [cSt_u]; exact hf.2.1.2.2.2.1) (by omega) (by rw [cSt_u]; exact hf.2.1.2.2.1) (by omega) _ _) okX2_note (tk tkX2_forget 51 rfl) mkX2_44 imX2_note seX2_note (hp_st _ (by first | assumption | decide | omega) (by decide : 4 < 16)) rfl rfl rfl (by decide) (by decide) (Nat.le_of_ble_eq_true rfl) ?_
        refine pw_inc4 (tk tkX2_forget 52 rfl) rfl (by decide) (nI_1 i) ?_
        refine pw_goto (tgt := 33) (tk tkX2_forget 53 rfl) (by decide) ?_
        rw [cSt_u, uC1_uC1]
        exact ih (i + 1) (by omega) _ _ _ _ (FI_note hf (by omega) hn hp0 hne)
      refine pw_iload (tk tkX2_forget 21 rfl) rfl ?_
      refine pw_iload_n (tk tkX2_forget 22 rfl) rfl ?_
      refine pw_icmp_ge (tgt := 97) (tk tkX2_forget 23 rfl) (by decide) (fun c36 => absurd c36 (nI_ge (by omega) (by omega))) (fun c36 => ?_)
      refine pw_iload_n (tk tkX2_forget 24 rfl) rfl ?_
      refine pw_iload (tk tkX2_forget 25 rfl) rfl ?_
      refine pw_iadd (tk tkX2_forget 26 rfl) ?_
      refine pw_bipush (v := 16) (tk tkX2_forget 27 rfl) (by decide) ?_
      refine pw_cS (ct_J9_floorMod _ _ 16 (by decide)) okJ9_floorMod_7cf53 (tk tkX2_forget 28 rfl) mkX2_31 stJ9_floorMod_7cf53 rfl rfl (by decide) (by decide) (Nat.le_of_ble_eq_true rfl) ?_
      rw [nI_add, fl16 (old + i + 32) (by omega) (by rw [show nI (old + i + 32) = nI (old + i) + 32 from (nI_add _ 32).symm, Int32.add_sub_cancel]), show (old + i + 32) % 16 = (old + i) % 16 by omega]
      refine pw_ist5 (tk tkX2_forget 29 rfl) rfl (by decide) ?_
      refine pw_aload_n (tk tkX2_forget 30 rfl) rfl ?_
      refine g2_rules (by first | assumption | decide | omega) (tk tkX2_forget 31 rfl) fkX2_9 ?_
      refine pw_iload (tk tkX2_forget 32 rfl) rfl ?_
      refine al_lr_e (e := (old + i) % 16) (by first | assumption | decide | omega) (tk tkX2_forget 33 rfl) rfl (by first | decide | omega) ?_
      rw [cSt_u]
      refine pw_ist6 (tk tkX2_forget 34 rfl) rfl (by decide) ?_
      refine pw_iload (tk tkX2_forget 35 rfl) rfl ?_
      refine pw_iload_n (tk tkX2_forget 36 rfl) rfl ?_
      refine pw_icmp_eq (tgt := 91) (tk tkX2_forget 37 rfl) (by decide) (fun c62 => ?_) (fun c62 => ?_)
      · refine pw_inc4 (tk tkX2_forget 52 rfl) rfl (by decide) (nI_1 i) ?_
        refine pw_goto (tgt := 33) (tk tkX2_forget 53 rfl) (by decide) ?_
        exact ih (i + 1) (by omega) _ _ _ _ (FI_skip hf (by omega) hp0 (p1.symm.trans (q1.symm.trans c62)))
      · refine pw_aload_n (tk tkX2_forget 38 rfl) rfl ?_
        refine pw_iload (tk tkX2_forget 39 rfl) rfl ?_
        refine pw_iload_n (tk tkX2_forget 40 rfl) rfl ?_
        refine pw_icmp_le (tgt := 79) (tk tkX2_forget 41 rfl) (by decide) (fun c69 => ?_) (fun c69 => ?_)
        · refine pw_iload (tk tkX2_forget 46 rfl) rfl ?_
          exact J81 (fun e => c62 (q1.trans (p1.trans e))) _ (by unfold rnm; rw [← p1, ← q1, if_pos c69])
        · refine pw_iload (tk tkX2_forget 42 rfl) rfl ?_
          refine pw_iconst (v := 1) (tk tkX2_forget 43 rfl) (by decide) ?_
          refine pw_isub (tk tkX2_forget 44 rfl) ?_
          refine pw_goto (tgt := 81) (tk tkX2_forget 45 rfl) (by decide) ?_
          exact J81 (fun e => c62 (q1.trans (p1.trans e))) _ (by unfold rnm; rw [← p1, ← q1, if_neg c69])
  refine pw_aload_n (tk tkX2_forget 0 rfl) rfl ?_
  refine g2_size (by first | assumption | decide | omega) (tk tkX2_forget 1 rfl) fkX2_24 ?_
  rw [h0]
  refine pw_ist2 (tk tkX2_forget 2 rfl) rfl (by decide) ?_
  refine pw_aload_n (tk tkX2_forget 3 rfl) rfl ?_
  refine pw_iload_n (tk tkX2_forget 4 rfl) rfl ?_
  refine pw_iconst (v := 1) (tk tkX2_forget 5 rfl) (by decide) ?_
  refine pw_isub (tk tkX2_forget 6 rfl) ?_
  refine pw_cV (ct_X2_placeOf x b hb _) okX2_placeOf (tk tkX2_forget 7 rfl) mkX2_40 imX2_placeOf seX2_placeOf (hp_st _ (by first | assumption | decide | omega) (by decide : 4 < 16)) rfl rfl rfl (by decide) (by decide) (Nat.le_of_ble_eq_true rfl) ?_
  rw [h1, fl16 (la + 33 - n) (by omega) (by rw [show nI n - 1 = nI n - nI 1 from rfl, show (32 : Int32) = nI 32 from rfl]; exact fsub hn), ← eo]
  refine pw_ist3 (tk tkX2_forget 8 rfl) rfl (by decide) ?_
  refine pw_aload_n (tk tkX2_forget 9 rfl) rfl ?_
  refine pw_iconst (v := 0) (tk tkX2_forget 10 rfl) (by decide) ?_
  refine p2_size (by first | assumption | decide | omega) (tk tkX2_forget 11 rfl) fkX2_24 ?_
  refine pw_aload_n (tk tkX2_forget 12 rfl) rfl ?_
  refine pw_iload_n (tk tkX2_forget 13 rfl) rfl ?_
  refine pw_iconst (v := 1) (tk tkX2_forget 14 rfl) (by decide) ?_
  refine pw_isub (tk tkX2_forget 15 rfl) ?_
  refine pw_bipush (v := 16) (tk tkX2_forget 16 rfl) (by decide) ?_
  refine pw_cS (ct_J9_floorMod _ _ 16 (by decide)) okJ9_floorMod_7cf53 (tk tkX2_forget 17 rfl) mkX2_31 stJ9_floorMod_7cf53 rfl rfl (by decide) (by decide) (Nat.le_of_ble_eq_true rfl) ?_
  rw [fl16 (old + 31) (by omega) (by rw [show nI (old + 31) = nI old + 31 from (nI_add _ 31).symm]; exact sub_k _ _ _ _ (by decide))]
  refine p2_latest (by first | assumption | decide | omega) (tk tkX2_forget 18 rfl) fkX2_28 ?_
  rw [cSt_u, uC1_uC1]
  refine pw_iconst (v := 0) (tk tkX2_forget 19 rfl) (by decide) ?_
  refine pw_ist4 (tk tkX2_forget 20 rfl) rfl (by decide) ?_
  refine L n 0 (by omega) 0 _ _ _ ⟨⟨rfl, rfl, rfl, rfl⟩, ⟨Nat.le_refl _, ?_, rfl, rfl, ?_⟩, fun j _ _ => ⟨rfl, rfl⟩⟩
  · rw [Nat.sub_zero, en, List.drop_length]; rfl
  · intro k p h; rw [Nat.sub_zero, en, List.drop_length] at h; cases h
def srR (rl i : Nat) (f : Nat → Nat → Int32) : Nat → Nat → Int32 := fun j => if rl ≤ j ∧ j < rl + i then cp9 (f (j + 1)) (f j) else f j
theorem srR_0 (rl : Nat) (f : Nat → Nat → Int32) : srR rl 0 f = f := by funext j; unfold srR; rw [if_neg (by omega)]
theorem srR_s (rl i : Nat) (f : Nat → Nat → Int32) : upR (srR rl i f) (rl + i) (cp9 (srR rl i f (rl + i + 1)) (srR rl i f (rl + i))) = srR rl (i + 1) f := by
  have e1 : srR rl i f (rl + i + 1) = f (rl + i + 1) := if_neg (by omega)
  have e2 : srR rl i f (rl + i) = f (rl + i) := if_neg (by omega)
  rw [e1, e2]
  funext j
  unfold srR upR
  by_cases e : j = rl + i
  · subst e; rw [if_pos rfl, if_pos (by omega)]
  · rw [if_neg e]
    dsimp only
    by_cases e3 : rl ≤ j ∧ j < rl + i
    · rw [if_pos e3, if_pos (by omega)]
    · rw [if_neg e3, if_neg (by omega)]
def trQ (x : XW) (b rl u : Nat) (l : LL) : Out → Hp → Prop := fun o h2 => o = .inl none ∧ ∃ τ, h2 = hp (uC1 x b τ) ∧ sTh τ = sTh (cSt x.1 b) ∧ sVa τ = sVa (cSt x.1 b) ∧ sRu τ = srR rl (u - 1 - rl) (sRu (cSt x.1 b)) ∧ sSc τ = upd (sSc (cSt x.1 b)) 0 (nI (u - 1)) ∧ LR τ (fg rl l)
set_option maxRecDepth 100000 in
set_option maxHeartbeats 4000000 in
theorem ct_X4_takeRuleAway (x : XW) (b rl u : Nat) (l : LL) (hb : b < 10) (hr : rl < u) (hw : WB u (cSt x.1 b)) (hg : LR (cSt x.1 b) l) : CT MX4_takeRuleAway 3 0 [.ref (16 * b), .int (nI rl)] (hp x) (trQ x b rl u l) := by
  refine ct_of (by decide +kernel) (by decide) rfl (k := 1) (ls := [some (.ref (16 * b)), some (.int (nI rl)), none]) rfl (Nat.le_of_ble_eq_true rfl) ?_
  obtain ⟨hu8, hu, hth, hm⟩ := hw
  have L : ∀ k i, i + k = u - 1 - rl → PW MX4_takeRuleAway 3 0 2 [some (.ref (16 * b)), some (.int (nI rl)), some (.int (nI (rl + i)))] [] (hp (uC1 x b (uS3 (cSt x.1 b) (srR rl i (sRu (cSt x.1 b)))))) (trQ x b rl u l) := by
    intro k
    induction k with
    | zero =>
      intro i hi
      obtain rfl : i = u - 1 - rl := by omega
      refine pw_iload_n (tk tkX4_takeRuleAway 2 rfl) rfl ?_
      refine pw_iconst (v := 1) (tk tkX4_takeRuleAway 3 rfl) (by decide) ?_
      refine pw_iadd (tk tkX4_takeRuleAway 4 rfl) ?_
      refine pw_aload_n (tk tkX4_takeRuleAway 5 rfl) rfl ?_
      refine g4_rulesUsed (by first | assumption | decide | omega) (tk tkX4_takeRuleAway 6 rfl) fkX4_43 ?_
      rw [cSt_u, show sSc (uS3 (cSt x.1 b) (srR rl (u - 1 - rl) (sRu (cSt x.1 b)))) 0 = nI u from hu, nI_1, show rl + (u - 1 - rl) + 1 = u by omega]
      refine pw_icmp_ge (tgt := 35) (tk tkX4_takeRuleAway 7 rfl) (by decide) (fun c9 => ?_) (fun c9 => absurd (Int32.le_refl _) c9)
      refine pw_aload_n (tk tkX4_takeRuleAway 21 rfl) rfl ?_
      refine pw_dup (tk tkX4_takeRuleAway 22 rfl) rfl ?_
      refine g4_rulesUsed (by first | assumption | decide | omega) (tk tkX4_takeRuleAway 23 rfl) fkX4_43 ?_
      refine pw_iconst (v := 1) (tk tkX4_takeRuleAway 24 rfl) (by decide) ?_
      refine pw_isub (tk tkX4_takeRuleAway 25 rfl) ?_
      rw [cSt_u, show sSc (uS3 (cSt x.1 b) (srR rl (u - 1 - rl) (sRu (cSt x.1 b)))) 0 = nI u from hu, show nI u - 1 = nI (u - 1) from pk_sub (b := 1) (by omega)]
      refine p4_rulesUsed (by first | assumption | decide | omega) (tk tkX4_takeRuleAway 26 rfl) fkX4_43 ?_
      rw [cSt_u, uC1_uC1]
      refine pw_aload_n (tk tkX4_takeRuleAway 27 rfl) rfl ?_
      refine g4_log (by first | assumption | decide | omega) (tk tkX4_takeRuleAway 28 rfl) fkX4_28 ?_
      refine pw_iload_n (tk tkX4_takeRuleAway 29 rfl) rfl ?_
      refine pw_callV (ct_X2_forget _ b rl l hb (by rw [cSt_u]; exact hg)) okX2_forget (tk tkX4_takeRuleAway 30 rfl) mkX4_60 imX2_forget seX2_forget (hp_st _ (by first | assumption | decide | omega) (by decide : 4 < 16)) rfl rfl rfl (by decide) (by decide) (Nat.le_of_ble_eq_true rfl) (fun r h2 q => ?_) (fun E h2 q => by cases q.1)
      obtain ⟨ho, τ, rfl, ⟨g1, g2, g3, g4⟩, g5⟩ := q
      cases ho
      rw [cSt_u] at g1 g2 g3 g4
      exact pw_return (tk tkX4_takeRuleAway 31 rfl) rfl (by decide) ⟨rfl, τ, by rw [uC1_uC1], g1, g2, g3, g4, g5⟩
    | succ k ih =>
      intro i hi
      refine pw_iload_n (tk tkX4_takeRuleAway 2 rfl) rfl ?_
      refine pw_iconst (v := 1) (tk tkX4_takeRuleAway 3 rfl) (by decide) ?_
      refine pw_iadd (tk tkX4_takeRuleAway 4 rfl) ?_
      refine pw_aload_n (tk tkX4_takeRuleAway 5 rfl) rfl ?_
      refine g4_rulesUsed (by first | assumption | decide | omega) (tk tkX4_takeRuleAway 6 rfl) fkX4_43 ?_
      rw [cSt_u, show sSc (uS3 (cSt x.1 b) (srR rl i (sRu (cSt x.1 b)))) 0 = nI u from hu, nI_1]
      refine pw_icmp_ge (tgt := 35) (tk tkX4_takeRuleAway 7 rfl) (by decide) (fun c9 => absurd c9 (nI_ge (by omega) (by omega))) (fun c9 => ?_)
      refine pw_aload_n (tk tkX4_takeRuleAway 8 rfl) rfl ?_
      refine g4_rules (by first | assumption | decide | omega) (tk tkX4_takeRuleAway 9 rfl) fkX4_21 ?_
      refine pw_iload_n (tk tkX4_takeRuleAway 10 rfl) rfl ?_
      refine al_rules_e (e := rl + i) (by first | assumption | decide | omega) (tk tkX4_takeRuleAway 11 rfl) rfl (by first | decide | omega) ?_
      refine pw_aload_n (tk tkX4_takeRuleAway 12 rfl) rfl ?_
      refine g4_rules (by first | assumption | decide | omega) (tk tkX4_takeRuleAway 13 rfl) fkX4_21 ?_
      refine pw_iload_n (tk tkX4_takeRuleAway 14 rfl) rfl ?_
      refine pw_iconst (v := 1) (tk tkX4_takeRuleAway 15 rfl) (by decide) ?_
      refine pw_iadd (tk tkX4_takeRuleAway 16 rfl) ?_
      refine al_rules_e (e := rl + i + 1) (by first | assumption | decide | omega) (tk tkX4_takeRuleAway 17 rfl) (nI_1 _) (by first | decide | omega) ?_
      refine pw_cV0 (ct_X3_copyFrom _ b (rl + i) b (rl + i + 1) hb (by omega) hb (by omega) (.inr (by omega)) (by rw [cSt_u, show sRu (uS3 (cSt x.1 b) (srR rl i (sRu (cSt x.1 b)))) (rl + i + 1) = sRu (cSt x.1 b) (rl + i + 1) from if_neg (by omega)]; exact hm _ (by omega))) okX3_copyFrom (tk tkX4_takeRuleAway 18 rfl) mkX4_46 imX3_copyFrom seX3_copyFrom ((hp_st _ (by first | assumption | decide | omega) (by omega)).trans (stc_ru _ _ _ (by first | assumption | decide | omega))) rfl rfl rfl (by decide) (by decide) (Nat.le_of_ble_eq_true rfl) ?_
      refine pw_inc2 (tk tkX4_takeRuleAway 19 rfl) rfl (by decide) (nI_1 _) ?_
      refine pw_goto (tgt := 2) (tk tkX4_takeRuleAway 20 rfl) (by decide) ?_
      have e : uRu (uC1 x b (uS3 (cSt x.1 b) (srR rl i (sRu (cSt x.1 b))))) b (rl + i) (cp9 (sRu (cSt (uC1 x b (uS3 (cSt x.1 b) (srR rl i (sRu (cSt x.1 b))))).1 b) (rl + i + 1)) (sRu (cSt (uC1 x b (uS3 (cSt x.1 b) (srR rl i (sRu (cSt x.1 b))))).1 b) (rl + i))) = uC1 x b (uS3 (cSt x.1 b) (srR rl (i + 1) (sRu (cSt x.1 b)))) := by
        unfold uRu
        rw [cSt_u, uC1_uC1]
        show uC1 x b (uS3 (cSt x.1 b) (upR (srR rl i (sRu (cSt x.1 b))) (rl + i) (cp9 (srR rl i (sRu (cSt x.1 b)) (rl + i + 1)) (srR rl i (sRu (cSt x.1 b)) (rl + i))))) = _
        rw [srR_s]
      rw [e]
      exact ih (i + 1) (by omega)
  refine pw_iload_n (tk tkX4_takeRuleAway 0 rfl) rfl ?_
  refine pw_ist2 (tk tkX4_takeRuleAway 1 rfl) rfl (by decide) ?_
  have q := L (u - 1 - rl) 0 (by omega)
  rw [srR_0] at q
  rw [show uS3 (cSt x.1 b) (sRu (cSt x.1 b)) = cSt x.1 b from rfl, uC1_self] at q
  exact q
