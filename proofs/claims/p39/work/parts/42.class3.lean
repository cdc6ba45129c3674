theorem sub_k (A B C D : Int32) (h : -D = B + -C) : A - D = A + B - C := by rw [Int32.sub_eq_add_neg, Int32.sub_eq_add_neg, Int32.add_assoc, h]
def ruN (u : Nat) (f g : Nat → Nat → Int32) : Nat → Nat → Int32 := fun i => if i < u then cp9 (f i) (g i) else g i
theorem ruN_0 (f g : Nat → Nat → Int32) : ruN 0 f g = g := by funext i; unfold ruN; rw [if_neg (by omega)]
theorem ruN_at (u : Nat) (f g : Nat → Nat → Int32) : ruN u f g u = g u := if_neg (by omega)
theorem ruN_s (u : Nat) (f g : Nat → Nat → Int32) : upR (ruN u f g) u (cp9 (f u) (g u)) = ruN (u + 1) f g := by
  funext j
  unfold ruN upR
  by_cases e : j = u
  · subst e; rw [if_pos rfl, if_pos (by omega)]
  · rw [if_neg e]
    dsimp only
    by_cases e2 : j < u
    · rw [if_pos e2, if_pos (by omega)]
    · rw [if_neg e2, if_neg (by omega)]
def cpA (σ τ : SS) (i : Nat) : SS := uS1 (uS2 σ (cpN 18 (sVa τ) (sVa σ))) (cpN i (sTh τ) (sTh σ))
def cpB (σ τ : SS) (i : Nat) : SS := uS3 (cpA σ τ 6) (ruN i (sRu τ) (sRu σ))
def cpS (u : Nat) (σ τ : SS) : SS := uS7 (cpLg (cpB σ τ u) τ) (upd (upd (upd (sSc σ) 0 (sSc τ 0)) 1 (sSc τ 1)) 2 (sSc τ 2))
/-- what a copy needs of its source -/
def WB (u : Nat) (σ : SS) : Prop := u ≤ 8 ∧ sSc σ 0 = nI u ∧ (∀ j, j < 6 → sTh σ j = 0 ∨ sTh σ j = 1) ∧ ∀ i, i < u → sRu σ i 7 = 0 ∨ sRu σ i 7 = 1
set_option maxRecDepth 100000 in
set_option maxHeartbeats 4000000 in
theorem ct_X4_copyFrom (x : XW) (b b2 u : Nat) (hb : b < 10) (hb2 : b2 < 10) (hne : b2 ≠ b) (hw : WB u (cSt x.1 b2)) : CT MX4_copyFrom 2 0 [.ref (16 * b), .ref (16 * b2)] (hp x) (Det (.inl none) (hp (uC1 x b (cpS u (cSt x.1 b) (cSt x.1 b2))))) := by
  refine ct_of (by decide +kernel) (by decide) rfl (k := 1) (ls := [some (.ref (16 * b)), some (.ref (16 * b2)), none]) rfl (Nat.le_of_ble_eq_true rfl) ?_
  obtain ⟨hu8, hu, hth, hm⟩ := hw
  have L2 : ∀ k i, i + k = u → PW MX4_copyFrom 2 0 43 [some (.ref (16 * b)), some (.ref (16 * b2)), some (.int (nI i))] [] (hp (uC1 x b (cpB (cSt x.1 b) (cSt x.1 b2) i))) (Det (.inl none) (hp (uC1 x b (cpS u (cSt x.1 b) (cSt x.1 b2))))) := by
    intro k
    induction k with
    | zero =>
      intro i hi
      obtain rfl : i = u := by omega
      refine pw_iload_n (tk tkX4_copyFrom 25 rfl) rfl ?_
      refine pw_aload_n (tk tkX4_copyFrom 26 rfl) rfl ?_
      refine g4_rulesUsed (by first | assumption | decide | omega) (tk tkX4_copyFrom 27 rfl) fkX4_43 ?_
      rw [cSt_n _ _ hne, hu]
      refine pw_icmp_ge (tgt := 72) (tk tkX4_copyFrom 28 rfl) (by decide) (fun c48 => ?_) (fun c48 => absurd (Int32.le_refl _) c48)
      refine pw_aload_n (tk tkX4_copyFrom 40 rfl) rfl ?_
      refine g4_log (by first | assumption | decide | omega) (tk tkX4_copyFrom 41 rfl) fkX4_28 ?_
      refine pw_aload_n (tk tkX4_copyFrom 42 rfl) rfl ?_
      refine g4_log (by first | assumption | decide | omega) (tk tkX4_copyFrom 43 rfl) fkX4_28 ?_
      refine pw_cV0 (ct_X2_copyFrom _ b b2 hb hb2 hne) okX2_copyFrom (tk tkX4_copyFrom 44 rfl) mkX4_50 imX2_copyFrom seX2_copyFrom (hp_st _ (by first | assumption | decide | omega) (by decide : 4 < 16)) rfl rfl rfl (by decide) (by decide) (Nat.le_of_ble_eq_true rfl) ?_
      rw [cSt_n _ _ hne, cSt_u, uC1_uC1]
      refine pw_aload_n (tk tkX4_copyFrom 45 rfl) rfl ?_
      refine pw_aload_n (tk tkX4_copyFrom 46 rfl) rfl ?_
      refine g4_rulesUsed (by first | assumption | decide | omega) (tk tkX4_copyFrom 47 rfl) fkX4_43 ?_
      rw [cSt_n _ _ hne]
      refine p4_rulesUsed (by first | assumption | decide | omega) (tk tkX4_copyFrom 48 rfl) fkX4_43 ?_
      rw [cSt_u, uC1_uC1]
      refine pw_aload_n (tk tkX4_copyFrom 49 rfl) rfl ?_
      refine pw_aload_n (tk tkX4_copyFrom 50 rfl) rfl ?_
      refine g4_depth (by first | assumption | decide | omega) (tk tkX4_copyFrom 51 rfl) fkX4_32 ?_
      rw [cSt_n _ _ hne]
      refine p4_depth (by first | assumption | decide | omega) (tk tkX4_copyFrom 52 rfl) fkX4_32 ?_
      rw [cSt_u, uC1_uC1]
      refine pw_aload_n (tk tkX4_copyFrom 53 rfl) rfl ?_
      refine pw_aload_n (tk tkX4_copyFrom 54 rfl) rfl ?_
      refine g4_events (by first | assumption | decide | omega) (tk tkX4_copyFrom 55 rfl) fkX4_53 ?_
      rw [cSt_n _ _ hne]
      refine p4_events (by first | assumption | decide | omega) (tk tkX4_copyFrom 56 rfl) fkX4_53 ?_
      rw [cSt_u, uC1_uC1]
      exact pw_return (tk tkX4_copyFrom 57 rfl) rfl (by decide) ⟨rfl, rfl⟩
    | succ k ih =>
      intro i hi
      refine pw_iload_n (tk tkX4_copyFrom 25 rfl) rfl ?_
      refine pw_aload_n (tk tkX4_copyFrom 26 rfl) rfl ?_
      refine g4_rulesUsed (by first | assumption | decide | omega) (tk tkX4_copyFrom 27 rfl) fkX4_43 ?_
      rw [cSt_n _ _ hne, hu]
      refine pw_icmp_ge (tgt := 72) (tk tkX4_copyFrom 28 rfl) (by decide) (fun c48 => absurd c48 (nI_ge (by omega) (by omega))) (fun c48 => ?_)
      refine pw_aload_n (tk tkX4_copyFrom 29 rfl) rfl ?_
      refine g4_rules (by first | assumption | decide | omega) (tk tkX4_copyFrom 30 rfl) fkX4_21 ?_
      refine pw_iload_n (tk tkX4_copyFrom 31 rfl) rfl ?_
      refine al_rules_e (e := i) (by first | assumption | decide | omega) (tk tkX4_copyFrom 32 rfl) (by first | rfl | simp only [lit_nI, nI_add, pk_mul]) (by first | decide | omega) ?_
      refine pw_aload_n (tk tkX4_copyFrom 33 rfl) rfl ?_
      refine g4_rules (by first | assumption | decide | omega) (tk tkX4_copyFrom 34 rfl) fkX4_21 ?_
      refine pw_iload_n (tk tkX4_copyFrom 35 rfl) rfl ?_
      refine al_rules_e (e := i) (by first | assumption | decide | omega) (tk tkX4_copyFrom 36 rfl) (by first | rfl | simp only [lit_nI, nI_add, pk_mul]) (by first | decide | omega) ?_
      refine pw_cV0 (ct_X3_copyFrom _ b i b2 i hb (by omega) hb2 (by omega) (.inl (Ne.symm hne)) (by rw [cSt_n _ _ hne]; exact hm i (by omega))) okX3_copyFrom (tk tkX4_copyFrom 37 rfl) mkX4_46 imX3_copyFrom seX3_copyFrom ((hp_st _ (by first | assumption | decide | omega) (by omega)).trans (stc_ru _ _ _ (by first | assumption | decide | omega))) rfl rfl rfl (by decide) (by decide) (Nat.le_of_ble_eq_true rfl) ?_
      refine pw_inc2 (tk tkX4_copyFrom 38 rfl) rfl (by decide) (nI_1 i) ?_
      refine pw_goto (tgt := 43) (tk tkX4_copyFrom 39 rfl) (by decide) ?_
      have e : uRu (uC1 x b (cpB (cSt x.1 b) (cSt x.1 b2) i)) b i (cp9 (sRu (cSt (uC1 x b (cpB (cSt x.1 b) (cSt x.1 b2) i)).1 b2) i) (sRu (cSt (uC1 x b (cpB (cSt x.1 b) (cSt x.1 b2) i)).1 b) i)) = uC1 x b (cpB (cSt x.1 b) (cSt x.1 b2) (i + 1)) := by
        unfold uRu
        rw [cSt_u, cSt_n _ _ hne, uC1_uC1]
        show uC1 x b (uS3 (cpA (cSt x.1 b) (cSt x.1 b2) 6) (upR (ruN i (sRu (cSt x.1 b2)) (sRu (cSt x.1 b))) i (cp9 (sRu (cSt x.1 b2) i) (ruN i (sRu (cSt x.1 b2)) (sRu (cSt x.1 b)) i)))) = _
        rw [ruN_at, ruN_s]; rfl
      rw [e]
      exact ih (i + 1) (by omega)
  have L1 : ∀ k i, i + k = 6 → PW MX4_copyFrom 2 0 17 [some (.ref (16 * b)), some (.ref (16 * b2)), some (.int (nI i))] [] (hp (uC1 x b (cpA (cSt x.1 b) (cSt x.1 b2) i))) (Det (.inl none) (hp (uC1 x b (cpS u (cSt x.1 b) (cSt x.1 b2))))) := by
    intro k
    induction k with
    | zero =>
      intro i hi
      obtain rfl : i = 6 := by omega
      refine pw_iload_n (tk tkX4_copyFrom 10 rfl) rfl ?_
      refine pw_bipush (v := 6) (tk tkX4_copyFrom 11 rfl) (by decide) ?_
      refine pw_icmp_ge (tgt := 41) (tk tkX4_copyFrom 12 rfl) (by decide) (fun c20 => ?_) (fun c20 => absurd (Int32.le_refl _) c20)
      refine pw_iconst (v := 0) (tk tkX4_copyFrom 23 rfl) (by decide) ?_
      refine pw_ist2 (tk tkX4_copyFrom 24 rfl) rfl (by decide) ?_
      rw [show cpA (cSt x.1 b) (cSt x.1 b2) 6 = cpB (cSt x.1 b) (cSt x.1 b2) 0 from by unfold cpB; rw [ruN_0]; rfl]
      exact L2 u 0 (by omega)
    | succ k ih =>
      intro i hi
      refine pw_iload_n (tk tkX4_copyFrom 10 rfl) rfl ?_
      refine pw_bipush (v := 6) (tk tkX4_copyFrom 11 rfl) (by decide) ?_
      refine pw_icmp_ge (tgt := 41) (tk tkX4_copyFrom 12 rfl) (by decide) (fun c20 => absurd c20 (nI_ge (b := 6) (by omega) (by decide))) (fun c20 => ?_)
      refine pw_aload_n (tk tkX4_copyFrom 13 rfl) rfl ?_
      refine g4_there (by first | assumption | decide | omega) (tk tkX4_copyFrom 14 rfl) fkX4_9 ?_
      refine pw_iload_n (tk tkX4_copyFrom 15 rfl) rfl ?_
      refine pw_aload_n (tk tkX4_copyFrom 16 rfl) rfl ?_
      refine g4_there (by first | assumption | decide | omega) (tk tkX4_copyFrom 17 rfl) fkX4_9 ?_
      refine pw_iload_n (tk tkX4_copyFrom 18 rfl) rfl ?_
      refine al_there_e (e := i) (by first | assumption | decide | omega) (tk tkX4_copyFrom 19 rfl) (by first | rfl | simp only [lit_nI, nI_add, pk_mul]) (by first | decide | omega) ?_
      refine as_there_e (e := i) (by first | assumption | decide | omega) (tk tkX4_copyFrom 20 rfl) (by first | rfl | simp only [lit_nI, nI_add, pk_mul]) (by first | decide | omega) (nar01 (by first | (rw [cSt_n _ _ hne]; exact hth i (by omega)) | exact hth i (by omega))).1 ?_
      refine pw_inc2 (tk tkX4_copyFrom 21 rfl) rfl (by decide) (nI_1 i) ?_
      refine pw_goto (tgt := 17) (tk tkX4_copyFrom 22 rfl) (by decide) ?_
      rw [cSt_u, cSt_n _ _ hne, uC1_uC1]
      rw [show uS1 (cpA (cSt x.1 b) (cSt x.1 b2) i) (upd (sTh (cpA (cSt x.1 b) (cSt x.1 b2) i)) i (sTh (cSt x.1 b2) i)) = cpA (cSt x.1 b) (cSt x.1 b2) (i + 1) from by unfold cpA; rw [← cpN_s i]; rfl]
      exact ih (i + 1) (by omega)
  refine pw_aload_n (tk tkX4_copyFrom 0 rfl) rfl ?_
  refine g4_values (by first | assumption | decide | omega) (tk tkX4_copyFrom 1 rfl) fkX4_15 ?_
  refine pw_iconst (v := 0) (tk tkX4_copyFrom 2 rfl) (by decide) ?_
  refine pw_aload_n (tk tkX4_copyFrom 3 rfl) rfl ?_
  refine g4_values (by first | assumption | decide | omega) (tk tkX4_copyFrom 4 rfl) fkX4_15 ?_
  refine pw_iconst (v := 0) (tk tkX4_copyFrom 5 rfl) (by decide) ?_
  refine pw_bipush (v := 18) (tk tkX4_copyFrom 6 rfl) (by decide) ?_
  refine pw_copy (a := 16 * b2 + 2) (b := 16 * b + 2) (tk tkX4_copyFrom 7 rfl) mkX4_37 na_copy st_copy in_Sys (hp_st _ hb2 (by decide : 2 < 16)) (hp_st _ hb (by decide : 2 < 16)) (by decide) (by decide) (by decide) (Nat.le_of_ble_eq_true rfl) (Nat.le_of_ble_eq_true rfl) (fun i => ⟨_, rfl⟩) (by decide) (Nat.le_of_ble_eq_true rfl) ?_
  rw [hp_cp2 x hb]
  refine pw_iconst (v := 0) (tk tkX4_copyFrom 8 rfl) (by decide) ?_
  refine pw_ist2 (tk tkX4_copyFrom 9 rfl) rfl (by decide) ?_
  rw [show uS2 (cSt x.1 b) (cpN 18 (sVa (cSt x.1 b2)) (sVa (cSt x.1 b))) = cpA (cSt x.1 b) (cSt x.1 b2) 0 from by unfold cpA; rw [cpN_0]; rfl]
  exact L1 6 0 (by omega)
set_option maxRecDepth 100000 in
set_option maxHeartbeats 4000000 in
theorem ct_X4_isThere (x : XW) (b : Nat) (hb : b < 10) (v : Int32) : CT MX4_isThere 1 0 [.ref (16 * b), .int v] (hp x) (Det (.inl (some (.int (bI (inR v 0 5 && decide (¬ sTh (cSt x.1 b) v.toNatClampNeg = 0)))))) (hp x)) := by
  refine ct_of (by decide +kernel) (by decide) rfl (k := 0) (ls := [some (.ref (16 * b)), some (.int v)]) rfl (Nat.le_of_ble_eq_true rfl) ?_
  refine pw_iload_n (tk tkX4_isThere 0 rfl) rfl ?_
  refine pw_cN (ct_X7_isRow _ _) rfl okX7_isRow (tk tkX4_isThere 1 rfl) mkX4_56 stX7_isRow rfl rfl (by decide) (by decide) (Nat.le_of_ble_eq_true rfl) ?_
  refine pw_ifb (tgt := 20) (tk tkX4_isThere 2 rfl) (by decide) (fun c4 => ?_) (fun c4 => ?_)
  · refine pw_iconst (v := 0) (tk tkX4_isThere 10 rfl) (by decide) ?_
    exact pw_ireturn (tk tkX4_isThere 11 rfl) rfl (by decide) (by first | rfl | exact nar_bI _) ⟨by simp [bI, c4], rfl⟩
  · refine pw_aload_n (tk tkX4_isThere 3 rfl) rfl ?_
    refine g4_there (by first | assumption | decide | omega) (tk tkX4_isThere 4 rfl) fkX4_9 ?_
    refine pw_iload_n (tk tkX4_isThere 5 rfl) rfl ?_
    refine al_there (by first | assumption | decide | omega) (tk tkX4_isThere 6 rfl) (by obtain ⟨r1, hr, er, er2⟩ := inR_row c4; rw [er]; exact nI_in hr (by decide)) ?_
    refine pw_if_eq (tgt := 20) (tk tkX4_isThere 7 rfl) (by decide) (fun c13 => ?_) (fun c13 => ?_)
    · refine pw_iconst (v := 0) (tk tkX4_isThere 10 rfl) (by decide) ?_
      exact pw_ireturn (tk tkX4_isThere 11 rfl) rfl (by decide) (by first | rfl | exact nar_bI _) ⟨by simp [bI, c4, c13], rfl⟩
    · refine pw_iconst (v := 1) (tk tkX4_isThere 8 rfl) (by decide) ?_
      refine pw_goto (tgt := 21) (tk tkX4_isThere 9 rfl) (by decide) ?_
      exact pw_ireturn (tk tkX4_isThere 11 rfl) rfl (by decide) (by first | rfl | exact nar_bI _) ⟨by simp [bI, c4, c13], rfl⟩
theorem smN_s0 (f : Nat → Int32) {k : Nat} (h : f k = 0) : smN f (k + 1) = smN f k := by show smN f k + f k = _; rw [h, Int32.add_zero]
theorem smN_s1 (f : Nat → Int32) {k : Nat} (h : f k = 1) : smN f (k + 1) = smN f k + 1 := by show smN f k + f k = _; rw [h]
set_option maxRecDepth 100000 in
set_option maxHeartbeats 4000000 in
theorem ct_X4_rowsThere (x : XW) (b : Nat) (hb : b < 10) (hth : ∀ j, j < 6 → sTh (cSt x.1 b) j = 0 ∨ sTh (cSt x.1 b) j = 1) : CT MX4_rowsThere 0 0 [.ref (16 * b)] (hp x) (Det (.inl (some (.int (smN (sTh (cSt x.1 b)) 6)))) (hp x)) := by
  refine ct_of (by decide +kernel) (by decide) rfl (k := 2) (ls := [some (.ref (16 * b)), none, none]) rfl (Nat.le_of_ble_eq_true rfl) ?_
  have L : ∀ k i, i + k = 6 → PW MX4_rowsThere 0 0 4 [some (.ref (16 * b)), some (.int (smN (sTh (cSt x.1 b)) i)), some (.int (nI i))] [] (hp x) (Det (.inl (some (.int (smN (sTh (cSt x.1 b)) 6)))) (hp x)) := by
    intro k
    induction k with
    | zero =>
      intro i hi 
      have ei : i = 6 := by omega
      rw [ei]
      refine pw_iload_n (tk tkX4_rowsThere 4 rfl) rfl ?_
      refine pw_bipush (v := 6) (tk tkX4_rowsThere 5 rfl) (by decide) ?_
      refine pw_icmp_ge (tgt := 28) (tk tkX4_rowsThere 6 rfl) (by decide) (fun c7 => ?_) (fun c7 => absurd (Int32.le_refl _) c7)
      refine pw_iload_n (tk tkX4_rowsThere 15 rfl) rfl ?_
      exact pw_ireturn (tk tkX4_rowsThere 16 rfl) rfl (by decide) rfl ⟨rfl, rfl⟩
    | succ k ih =>
      intro i hi 
      refine pw_iload_n (tk tkX4_rowsThere 4 rfl) rfl ?_
      refine pw_bipush (v := 6) (tk tkX4_rowsThere 5 rfl) (by decide) ?_
      refine pw_icmp_ge (tgt := 28) (tk tkX4_rowsThere 6 rfl) (by decide) (fun c7 => absurd c7 (nI_ge (b := 6) (by omega) (by decide))) (fun c7 => ?_)
      refine pw_aload_n (tk tkX4_rowsThere 7 rfl) rfl ?_
      refine g4_there (by first | assumption | decide | omega) (tk tkX4_rowsThere 8 rfl) fkX4_9 ?_
      refine pw_iload_n (tk tkX4_rowsThere 9 rfl) rfl ?_
      refine al_there_e (e := i) (by first | assumption | decide | omega) (tk tkX4_rowsThere 10 rfl) (by first | rfl | simp only [lit_nI, nI_add, pk_mul]) (by first | decide | omega) ?_
      refine pw_if_eq (tgt := 22) (tk tkX4_rowsThere 11 rfl) (by decide) (fun c16 => ?_) (fun c16 => ?_)
      · refine pw_inc2 (tk tkX4_rowsThere 13 rfl) rfl (by decide) (nI_1 i) ?_
        refine pw_goto (tgt := 4) (tk tkX4_rowsThere 14 rfl) (by decide) ?_
        rw [← smN_s0 _ c16]
        exact ih (i + 1) (by omega)
      · refine pw_inc1 (tk tkX4_rowsThere 12 rfl) rfl (by decide) (show _ + Int32.ofInt (1) = _ + 1 from rfl) ?_
        refine pw_inc2 (tk tkX4_rowsThere 13 rfl) rfl (by decide) (nI_1 i) ?_
        refine pw_goto (tgt := 4) (tk tkX4_rowsThere 14 rfl) (by decide) ?_
        rw [← smN_s1 _ ((hth i (by omega)).resolve_left c16)]
        exact ih (i + 1) (by omega)
  refine pw_iconst (v := 0) (tk tkX4_rowsThere 0 rfl) (by decide) ?_
  refine pw_ist1 (tk tkX4_rowsThere 1 rfl) rfl (by decide) ?_
  refine pw_iconst (v := 0) (tk tkX4_rowsThere 2 rfl) (by decide) ?_
  refine pw_ist2 (tk tkX4_rowsThere 3 rfl) rfl (by decide) ?_
  exact L 6 0 (by omega)
def kpX (x : XW) (u b nx k : Nat) : XW := uC7 (uC1 x (2 + nx) (cpS u (cSt x.1 (2 + nx)) (cSt x.1 b))) (upd (upd (cHi x.1) 1 (nI ((nx + 1) % 6))) 0 (nI (min (k + 1) 6)))
set_option maxRecDepth 100000 in
set_option maxHeartbeats 4000000 in
theorem ct_X1_keep (x : XW) (u b nx k : Nat) (hb : b < 2) (hn : nx < 6) (hk : k ≤ 6) (h0 : cHi x.1 0 = nI k) (h1 : cHi x.1 1 = nI nx) (hw : WB u (cSt x.1 b)) : CT MX1_keep 3 0 [.ref 167, .ref (16 * b)] (hp x) (Det (.inl none) (hp (kpX x u b nx k))) := by
  refine ct_of (by decide +kernel) (by decide) rfl (k := 0) (ls := [some (.ref 167), some (.ref (16 * b))]) rfl (Nat.le_of_ble_eq_true rfl) ?_
  refine pw_aload_n (tk tkX1_keep 0 rfl) rfl ?_
  refine g1_states (tk tkX1_keep 1 rfl) fkX1_11 ?_
  refine pw_aload_n (tk tkX1_keep 2 rfl) rfl ?_
  refine g1_next (tk tkX1_keep 3 rfl) fkX1_18 ?_
  refine al_hstates_e (e := nx) (tk tkX1_keep 4 rfl) h1 (by first | decide | omega) ?_
  refine pw_aload_n (tk tkX1_keep 5 rfl) rfl ?_
  refine pw_cV0 (ct_X4_copyFrom x (2 + nx) b u (by omega) (by omega) (by omega) hw) okX4_copyFrom (tk tkX1_keep 6 rfl) mkX1_22 imX4_copyFrom seX4_copyFrom (hp_st _ (by omega : 2 + nx < 10) (by decide : 0 < 16)) rfl rfl rfl (by decide) (by decide) (Nat.le_of_ble_eq_true rfl) ?_
  refine pw_aload_n (tk tkX1_keep 7 rfl) rfl ?_
  refine pw_aload_n (tk tkX1_keep 8 rfl) rfl ?_
  refine g1_next (tk tkX1_keep 9 rfl) fkX1_18 ?_
  refine pw_iconst (v := 1) (tk tkX1_keep 10 rfl) (by decide) ?_
  refine pw_iadd (tk tkX1_keep 11 rfl) ?_
  refine pw_bipush (v := 6) (tk tkX1_keep 12 rfl) (by decide) ?_
  refine pw_irem (tk tkX1_keep 13 rfl) (by decide) ?_
  rw [show ∀ σ, cHi (uC1 x (2 + nx) σ).1 1 = nI nx from fun _ => h1, rem6 hn]
  refine p1_next (tk tkX1_keep 14 rfl) fkX1_18 ?_
  refine pw_aload_n (tk tkX1_keep 15 rfl) rfl ?_
  refine pw_aload_n (tk tkX1_keep 16 rfl) rfl ?_
  refine g1_size (tk tkX1_keep 17 rfl) fkX1_26 ?_
  refine pw_iconst (v := 1) (tk tkX1_keep 18 rfl) (by decide) ?_
  refine pw_iadd (tk tkX1_keep 19 rfl) ?_
  refine pw_bipush (v := 6) (tk tkX1_keep 20 rfl) (by decide) ?_
  refine pw_min (tk tkX1_keep 21 rfl) mkX1_29 st_min in_Math co_min (by decide) (Nat.le_of_ble_eq_true rfl) ?_
  rw [show ∀ σ v, cHi (uC7 (uC1 x (2 + nx) σ) (upd (cHi (uC1 x (2 + nx) σ).1) 1 v)).1 0 = nI k from fun _ _ => h0, mn6 ⟨k, by omega⟩]
  refine p1_size (tk tkX1_keep 22 rfl) fkX1_26 ?_
  exact pw_return (tk tkX1_keep 23 rfl) rfl (by decide) ⟨rfl, rfl⟩
def tbX (x : XW) (u b nx k : Nat) : XW := uC7 (uC1 x b (cpS u (cSt x.1 b) (cSt x.1 (2 + (nx + 5) % 6)))) (upd (upd (cHi x.1) 1 (nI ((nx + 5) % 6))) 0 (nI (k - 1)))
set_option maxRecDepth 100000 in
set_option maxHeartbeats 4000000 in
theorem ct_X1_takeBack (x : XW) (u b nx k : Nat) (hb : b < 2) (hn : nx < 6) (h6 : k ≤ 6) (hk : 0 < k) (h0 : cHi x.1 0 = nI k) (h1 : cHi x.1 1 = nI nx) (hw : WB u (cSt x.1 (2 + (nx + 5) % 6))) : CT MX1_takeBack 3 0 [.ref 167, .ref (16 * b)] (hp x) (Det (.inl none) (hp (tbX x u b nx k))) := by
  refine ct_of (by decide +kernel) (by decide) rfl (k := 0) (ls := [some (.ref 167), some (.ref (16 * b))]) rfl (Nat.le_of_ble_eq_true rfl) ?_
  refine pw_aload_n (tk tkX1_takeBack 0 rfl) rfl ?_
  refine g1_size (tk tkX1_takeBack 1 rfl) fkX1_26 ?_
  rw [h0]
  refine pw_if_le (tgt := 45) (tk tkX1_takeBack 2 rfl) (by decide) (fun c4 => absurd c4 (nI_nle hk (by omega))) (fun c4 => ?_)
  refine pw_aload_n (tk tkX1_takeBack 3 rfl) rfl ?_
  refine pw_aload_n (tk tkX1_takeBack 4 rfl) rfl ?_
  refine g1_next (tk tkX1_takeBack 5 rfl) fkX1_18 ?_
  refine pw_iconst (v := 1) (tk tkX1_takeBack 6 rfl) (by decide) ?_
  refine pw_isub (tk tkX1_takeBack 7 rfl) ?_
  refine pw_bipush (v := 6) (tk tkX1_takeBack 8 rfl) (by decide) ?_
  refine pw_cS (ct_J9_floorMod _ _ 6 (by decide)) okJ9_floorMod_7cf53 (tk tkX1_takeBack 9 rfl) mkX1_35 stJ9_floorMod_7cf53 rfl rfl (by decide) (by decide) (Nat.le_of_ble_eq_true rfl) ?_
  rw [h1, fl6 (nx + 5) (by omega) (by rw [show nI (nx + 5) = nI nx + 5 from (nI_add nx 5).symm]; exact sub_k _ _ _ _ (by decide))]
  refine p1_next (tk tkX1_takeBack 10 rfl) fkX1_18 ?_
  refine pw_aload_n (tk tkX1_takeBack 11 rfl) rfl ?_
  refine pw_aload_n (tk tkX1_takeBack 12 rfl) rfl ?_
  refine g1_states (tk tkX1_takeBack 13 rfl) fkX1_11 ?_
  refine pw_aload_n (tk tkX1_takeBack 14 rfl) rfl ?_
  refine g1_next (tk tkX1_takeBack 15 rfl) fkX1_18 ?_
  refine al_hstates_e (e := (nx + 5) % 6) (tk tkX1_takeBack 16 rfl) rfl (by first | decide | omega) ?_
  refine pw_cV0 (ct_X4_copyFrom (uC7 x (upd (cHi x.1) 1 (nI ((nx + 5) % 6)))) b (2 + (nx + 5) % 6) u (by omega) (by omega) (by omega) hw) okX4_copyFrom (tk tkX1_takeBack 17 rfl) mkX1_22 imX4_copyFrom seX4_copyFrom (hp_st _ (by omega : b < 10) (by decide : 0 < 16)) rfl rfl rfl (by decide) (by decide) (Nat.le_of_ble_eq_true rfl) ?_
  refine pw_aload_n (tk tkX1_takeBack 18 rfl) rfl ?_
  refine pw_dup (tk tkX1_takeBack 19 rfl) rfl ?_
  refine g1_size (tk tkX1_takeBack 20 rfl) fkX1_26 ?_
  refine pw_iconst (v := 1) (tk tkX1_takeBack 21 rfl) (by decide) ?_
  refine pw_isub (tk tkX1_takeBack 22 rfl) ?_
  rw [show ∀ σ, cHi (uC1 (uC7 x (upd (cHi x.1) 1 (nI ((nx + 5) % 6)))) b σ).1 0 = nI k from fun _ => h0, show nI k - 1 = nI (k - 1) from pk_sub (b := 1) (by omega)]
  refine p1_size (tk tkX1_takeBack 23 rfl) fkX1_26 ?_
  exact pw_return (tk tkX1_takeBack 24 rfl) rfl (by decide) ⟨rfl, rfl⟩
