set_option maxRecDepth 100000 in
set_option maxHeartbeats 4000000 in
theorem ct_X7_cell (h : Hp) (r c : Int32) : CT MX7_cell 0 0 [.int r, .int c] h (Det (.inl (some (.int (r * 3 + c)))) h) := by
  refine ct_of (by decide +kernel) (by decide) rfl (k := 0) (ls := [some (.int r), some (.int c)]) rfl (Nat.le_of_ble_eq_true rfl) ?_
  refine pw_iload_n (tk tkX7_cell 0 rfl) rfl ?_
  refine pw_iconst (v := 3) (tk tkX7_cell 1 rfl) (by decide) ?_
  refine pw_imul (tk tkX7_cell 2 rfl) ?_
  refine pw_iload_n (tk tkX7_cell 3 rfl) rfl ?_
  refine pw_iadd (tk tkX7_cell 4 rfl) ?_
  exact pw_ireturn (tk tkX7_cell 5 rfl) rfl (by decide) rfl ⟨rfl, rfl⟩
theorem cl_ix {a b : Int32} {r c : Nat} (h1 : a = nI r) (h2 : b = nI c) : a * 3 + b = nI (3 * r + c) := by
  rw [h1, h2]; simp only [lit_nI, nI_add, pk_mul]; rw [Nat.mul_comm r 3]
theorem mkM_f {p : Nat → Bool} {i : Nat} (h : p i = false) : mkM p i = mkM p (i + 1) := by
  show _ = _ ||| (if _ then _ else _); rw [h, if_neg (by decide), Int32.or_zero]
theorem mkM_t {p : Nat → Bool} {i : Nat} (h : p i = true) : mkM p i ||| ((1 : Int32) <<< (nI i &&& 31)) = mkM p (i + 1) := by
  show _ = _ ||| (if _ then _ else _); rw [if_pos h]
def bgS (x : XW) (u b : Nat) : XW := uC2 (uC1 x 1 (cpS u (cSt x.1 1) (cSt x.1 b))) (upd (upd (upd (cSm x.1) 0 0) 1 (-1)) 2 0)
set_option maxRecDepth 100000 in
set_option maxHeartbeats 4000000 in
theorem ct_X5_begin (x : XW) (u b : Nat) (hb : b < 10) (hne : b ≠ 1) (hw : WB u (cSt x.1 b)) : CT MX5_begin 3 0 [.ref 161, .ref (16 * b)] (hp x) (Det (.inl none) (hp (bgS x u b))) := by
  refine ct_of (by decide +kernel) (by decide) rfl (k := 0) (ls := [some (.ref 161), some (.ref (16 * b))]) rfl (Nat.le_of_ble_eq_true rfl) ?_
  refine pw_aload_n (tk tkX5_begin 0 rfl) rfl ?_
  refine g5_state (tk tkX5_begin 1 rfl) fkX5_12 ?_
  refine pw_aload_n (tk tkX5_begin 2 rfl) rfl ?_
  refine pw_cV0 (ct_X4_copyFrom x 1 b u (by decide) hb hne hw) okX4_copyFrom (tk tkX5_begin 3 rfl) mkX5_18 imX4_copyFrom seX4_copyFrom (hp_st _ (by decide : 1 < 10) (by decide : 0 < 16)) rfl rfl rfl (by decide) (by decide) (Nat.le_of_ble_eq_true rfl) ?_
  refine pw_aload_n (tk tkX5_begin 4 rfl) rfl ?_
  refine pw_iconst (v := 0) (tk tkX5_begin 5 rfl) (by decide) ?_
  refine p5_events (tk tkX5_begin 6 rfl) fkX5_22 ?_
  refine pw_aload_n (tk tkX5_begin 7 rfl) rfl ?_
  refine pw_iconst (v := (-1)) (tk tkX5_begin 8 rfl) (by decide) ?_
  refine p5_deepest (tk tkX5_begin 9 rfl) fkX5_26 ?_
  refine pw_aload_n (tk tkX5_begin 10 rfl) rfl ?_
  refine pw_iconst (v := 0) (tk tkX5_begin 11 rfl) (by decide) ?_
  refine p5_refusal (tk tkX5_begin 12 rfl) fkX5_29 ?_
  exact pw_return (tk tkX5_begin 13 rfl) rfl (by decide) ⟨rfl, rfl⟩
set_option maxRecDepth 100000 in
set_option maxHeartbeats 4000000 in
theorem ct_X5_matchingRules (x : XW) (s : Nat → Int32) (w0 : Int32) (u r : Nat) (hs : RS1 (cSt x.1 1) s w0) (hv : VS u s) (hr : r < 6) (ev col v : Int32) : CT MX5_matchingRules 1 0 [.ref 161, .int ev, .int (nI r), .int col, .int v] (hp x) (Det (.inl (some (.int (mkM (mtB s ev r col v) u)))) (hp x)) := by
  refine ct_of (by decide +kernel) (by decide) rfl (k := 4) (ls := [some (.ref 161), some (.int ev), some (.int (nI r)), some (.int col), some (.int v), none, none, none, none]) rfl (Nat.le_of_ble_eq_true rfl) ?_
  have eu := hv.un
  have hu8 := hv.1
  obtain ⟨a1, a2, a3, a4, a5, a6, a7⟩ := hs
  have hu : sSc (cSt x.1 1) 0 = nI u := a3.trans hv.2.1
  have hru : ∀ i k, i < u → k < 9 → sRu (cSt x.1 1) i k = rN s i k := fun i k hi hk => a6 i k (by omega) hk
  have L : ∀ k i, i + k = u → ∀ (b7 b8 : Option Value), PW MX5_matchingRules 1 0 6 [some (.ref 161), some (.int ev), some (.int (nI r)), some (.int col), some (.int v), some (.int (mkM (mtB s ev r col v) i)), some (.int (nI i)), b7, b8] [] (hp x) (Det (.inl (some (.int (mkM (mtB s ev r col v) u)))) (hp x)) := by
    intro k
    induction k with
    | zero =>
      intro i hi b7 b8
      obtain rfl : i = u := by omega
      refine pw_iload (tk tkX5_matchingRules 4 rfl) rfl ?_
      refine pw_aload_n (tk tkX5_matchingRules 5 rfl) rfl ?_
      refine g5_state (tk tkX5_matchingRules 6 rfl) fkX5_12 ?_
      refine g4_rulesUsed (by first | assumption | decide | omega) (tk tkX5_matchingRules 7 rfl) fkX5_81 ?_
      rw [show sSc (cSt x.1 1) 0 = nI i from hu]
      refine pw_icmp_ge (tgt := 119) (tk tkX5_matchingRules 8 rfl) (by decide) (fun c15 => ?_) (fun c15 => absurd (Int32.le_refl _) c15)
      refine pw_iload (tk tkX5_matchingRules 57 rfl) rfl ?_
      exact pw_ireturn (tk tkX5_matchingRules 58 rfl) rfl (by decide) rfl ⟨rfl, rfl⟩
    | succ k ih =>
      intro i hi b7 b8
      obtain ⟨cc, hc3, hcc⟩ := (hv.2.2.2.2.2 i (by omega)).1
      have q0 := hru i 0 (by omega) (by omega)
      have q1 := hru i 1 (by omega) (by omega)
      have q2 := hru i 2 (by omega) (by omega)
      have q7 := hru i 7 (by omega) (by omega)
      have J113 : ∀ m, m = mkM (mtB s ev r col v) (i + 1) → ∀ (b7 b8 : Option Value), PW MX5_matchingRules 1 0 113 [some (.ref 161), some (.int ev), some (.int (nI r)), some (.int col), some (.int v), some (.int m), some (.int (nI i)), b7, b8] [] (hp x) (Det (.inl (some (.int (mkM (mtB s ev r col v) u)))) (hp x)) := by
        intro m hm b7 b8
        subst hm
        refine pw_inc6 (tk tkX5_matchingRules 55 rfl) rfl (by decide) (nI_1 i) ?_
        refine pw_goto (tgt := 6) (tk tkX5_matchingRules 56 rfl) (by decide) ?_
        exact ih (i + 1) (by omega) _ _
      have J88 : rN s i 7 = 0 → rN s i 0 = ev → (¬ ev = 1 ∨ rN s i 1 = col) → ∀ w, w = seeN s ev r v i → PW MX5_matchingRules 1 0 88 [some (.ref 161), some (.int ev), some (.int (nI r)), some (.int col), some (.int v), some (.int (mkM (mtB s ev r col v) i)), some (.int (nI i)), some (.ref (16 * 1 + (7 + i))), b8] [.int w] (hp x) (Det (.inl (some (.int (mkM (mtB s ev r col v) u)))) (hp x)) := by
        intro h7 h0 h1 w hw
        subst hw
        refine pw_ist8 (tk tkX5_matchingRules 42 rfl) rfl (by decide) ?_
        refine pw_iload (tk tkX5_matchingRules 43 rfl) rfl ?_
        refine pw_iload (tk tkX5_matchingRules 44 rfl) rfl ?_
        refine pw_aload (tk tkX5_matchingRules 45 rfl) rfl ?_
        refine g3_least (by first | assumption | decide | omega) (by first | assumption | decide | omega) (tk tkX5_matchingRules 46 rfl) fkX5_131 ?_
        rw [q2]
        refine pw_icmp_lt (tgt := 109) (tk tkX5_matchingRules 47 rfl) (by decide) (fun c99 => ?_) (fun c99 => ?_)
        · refine pw_iconst (v := 0) (tk tkX5_matchingRules 52 rfl) (by decide) ?_
          refine pw_ior (tk tkX5_matchingRules 53 rfl) ?_
          refine pw_ist5 (tk tkX5_matchingRules 54 rfl) rfl (by decide) ?_
          exact J113 _ (by rw [Int32.or_zero]; exact mkM_f (by unfold mtB; simp [c99])) _ _
        · refine pw_iconst (v := 1) (tk tkX5_matchingRules 48 rfl) (by decide) ?_
          refine pw_iload (tk tkX5_matchingRules 49 rfl) rfl ?_
          refine pw_ishl (tk tkX5_matchingRules 50 rfl) ?_
          refine pw_goto (tgt := 110) (tk tkX5_matchingRules 51 rfl) (by decide) ?_
          refine pw_ior (tk tkX5_matchingRules 53 rfl) ?_
          refine pw_ist5 (tk tkX5_matchingRules 54 rfl) rfl (by decide) ?_
          exact J113 _ (mkM_t (by unfold mtB; rcases h1 with h1 | h1 <;> simp [h7, h0, h1, c99])) _ _
      refine pw_iload (tk tkX5_matchingRules 4 rfl) rfl ?_
      refine pw_aload_n (tk tkX5_matchingRules 5 rfl) rfl ?_
      refine g5_state (tk tkX5_matchingRules 6 rfl) fkX5_12 ?_
      refine g4_rulesUsed (by first | assumption | decide | omega) (tk tkX5_matchingRules 7 rfl) fkX5_81 ?_
      rw [show sSc (cSt x.1 1) 0 = nI u from hu]
      refine pw_icmp_ge (tgt := 119) (tk tkX5_matchingRules 8 rfl) (by decide) (fun c15 => absurd c15 (nI_ge (by omega) (by omega))) (fun c15 => ?_)
      refine pw_aload_n (tk tkX5_matchingRules 9 rfl) rfl ?_
      refine g5_state (tk tkX5_matchingRules 10 rfl) fkX5_12 ?_
      refine g4_rules (by first | assumption | decide | omega) (tk tkX5_matchingRules 11 rfl) fkX5_88 ?_
      refine pw_iload (tk tkX5_matchingRules 12 rfl) rfl ?_
      refine al_rules_e (e := i) (by first | assumption | decide | omega) (tk tkX5_matchingRules 13 rfl) rfl (by first | decide | omega) ?_
      refine pw_ast7 (tk tkX5_matchingRules 14 rfl) rfl (by decide) ?_
      refine pw_aload (tk tkX5_matchingRules 15 rfl) rfl ?_
      refine g3_muted (by first | assumption | decide | omega) (by first | assumption | decide | omega) (tk tkX5_matchingRules 16 rfl) fkX5_121 ?_
      rw [q7]
      refine pw_if_ne (tgt := 113) (tk tkX5_matchingRules 17 rfl) (by decide) (fun c35 => ?_) (fun c35 => ?_)
      · exact J113 _ (mkM_f (by unfold mtB; simp [c35])) _ _
      · refine pw_aload (tk tkX5_matchingRules 18 rfl) rfl ?_
        refine g3_event (by first | assumption | decide | omega) (by first | assumption | decide | omega) (tk tkX5_matchingRules 19 rfl) fkX5_125 ?_
        refine pw_iload_n (tk tkX5_matchingRules 20 rfl) rfl ?_
        rw [q0]
        refine pw_icmp_ne (tgt := 113) (tk tkX5_matchingRules 21 rfl) (by decide) (fun c44 => ?_) (fun c44 => ?_)
        · exact J113 _ (mkM_f (by unfold mtB; simp [c35, c44])) _ _
        · refine pw_iload_n (tk tkX5_matchingRules 22 rfl) rfl ?_
          refine pw_iconst (v := 1) (tk tkX5_matchingRules 23 rfl) (by decide) ?_
          refine pw_icmp_ne (tgt := 61) (tk tkX5_matchingRules 24 rfl) (by decide) (fun c49 => ?_) (fun c49 => ?_)
          · refine pw_iload_n (tk tkX5_matchingRules 29 rfl) rfl ?_
            refine pw_iconst (v := 1) (tk tkX5_matchingRules 30 rfl) (by decide) ?_
            refine pw_icmp_ne (tgt := 71) (tk tkX5_matchingRules 31 rfl) (by decide) (fun c63 => ?_) (fun c63 => ?_)
            · refine pw_aload_n (tk tkX5_matchingRules 34 rfl) rfl ?_
              refine g5_state (tk tkX5_matchingRules 35 rfl) fkX5_12 ?_
              refine g4_values (by first | assumption | decide | omega) (tk tkX5_matchingRules 36 rfl) fkX5_43 ?_
              refine pw_iload_n (tk tkX5_matchingRules 37 rfl) rfl ?_
              refine pw_aload (tk tkX5_matchingRules 38 rfl) rfl ?_
              refine g3_column (by first | assumption | decide | omega) (by first | assumption | decide | omega) (tk tkX5_matchingRules 39 rfl) fkX5_128 ?_
              refine pw_cN (ct_X7_cell _ _ _) rfl okX7_cell (tk tkX5_matchingRules 40 rfl) mkX5_47 stX7_cell rfl rfl (by decide) (by decide) (Nat.le_of_ble_eq_true rfl) ?_
              refine al_values_e (e := 3 * r + cc) (by first | assumption | decide | omega) (tk tkX5_matchingRules 41 rfl) (cl_ix rfl (q1.trans hcc)) (by first | decide | omega) ?_
              exact J88 c35 c44 (.inl c49) _ (by unfold seeN; first | (rw [if_pos c63]; done) | (rw [if_neg c63, a2 _ (by omega), show (rN s i 1).toNatClampNeg = cc from by rw [hcc, nI_clamp (by omega)], show 6 + (3 * r + cc) = 6 + 3 * r + cc by omega]))
            · refine pw_iload (tk tkX5_matchingRules 32 rfl) rfl ?_
              refine pw_goto (tgt := 88) (tk tkX5_matchingRules 33 rfl) (by decide) ?_
              exact J88 c35 c44 (.inl c49) _ (by unfold seeN; first | (rw [if_pos c63]; done) | (rw [if_neg c63, a2 _ (by omega), show (rN s i 1).toNatClampNeg = cc from by rw [hcc, nI_clamp (by omega)], show 6 + (3 * r + cc) = 6 + 3 * r + cc by omega]))
          · refine pw_aload (tk tkX5_matchingRules 25 rfl) rfl ?_
            refine g3_column (by first | assumption | decide | omega) (by first | assumption | decide | omega) (tk tkX5_matchingRules 26 rfl) fkX5_128 ?_
            refine pw_iload_n (tk tkX5_matchingRules 27 rfl) rfl ?_
            rw [q1]
            refine pw_icmp_ne (tgt := 113) (tk tkX5_matchingRules 28 rfl) (by decide) (fun c58 => ?_) (fun c58 => ?_)
            · exact J113 _ (mkM_f (by unfold mtB; simp [c35, c44, c49, c58])) _ _
            · refine pw_iload_n (tk tkX5_matchingRules 29 rfl) rfl ?_
              refine pw_iconst (v := 1) (tk tkX5_matchingRules 30 rfl) (by decide) ?_
              refine pw_icmp_ne (tgt := 71) (tk tkX5_matchingRules 31 rfl) (by decide) (fun c63 => ?_) (fun c63 => ?_)
              · refine pw_aload_n (tk tkX5_matchingRules 34 rfl) rfl ?_
                refine g5_state (tk tkX5_matchingRules 35 rfl) fkX5_12 ?_
                refine g4_values (by first | assumption | decide | omega) (tk tkX5_matchingRules 36 rfl) fkX5_43 ?_
                refine pw_iload_n (tk tkX5_matchingRules 37 rfl) rfl ?_
                refine pw_aload (tk tkX5_matchingRules 38 rfl) rfl ?_
                refine g3_column (by first | assumption | decide | omega) (by first | assumption | decide | omega) (tk tkX5_matchingRules 39 rfl) fkX5_128 ?_
                refine pw_cN (ct_X7_cell _ _ _) rfl okX7_cell (tk tkX5_matchingRules 40 rfl) mkX5_47 stX7_cell rfl rfl (by decide) (by decide) (Nat.le_of_ble_eq_true rfl) ?_
                refine al_values_e (e := 3 * r + cc) (by first | assumption | decide | omega) (tk tkX5_matchingRules 41 rfl) (cl_ix rfl (q1.trans hcc)) (by first | decide | omega) ?_
                exact J88 c35 c44 (.inr c58) _ (by unfold seeN; first | (rw [if_pos c63]; done) | (rw [if_neg c63, a2 _ (by omega), show (rN s i 1).toNatClampNeg = cc from by rw [hcc, nI_clamp (by omega)], show 6 + (3 * r + cc) = 6 + 3 * r + cc by omega]))
              · refine pw_iload (tk tkX5_matchingRules 32 rfl) rfl ?_
                refine pw_goto (tgt := 88) (tk tkX5_matchingRules 33 rfl) (by decide) ?_
                exact J88 c35 c44 (.inr c58) _ (by unfold seeN; first | (rw [if_pos c63]; done) | (rw [if_neg c63, a2 _ (by omega), show (rN s i 1).toNatClampNeg = cc from by rw [hcc, nI_clamp (by omega)], show 6 + (3 * r + cc) = 6 + 3 * r + cc by omega]))
  refine pw_iconst (v := 0) (tk tkX5_matchingRules 0 rfl) (by decide) ?_
  refine pw_ist5 (tk tkX5_matchingRules 1 rfl) rfl (by decide) ?_
  refine pw_iconst (v := 0) (tk tkX5_matchingRules 2 rfl) (by decide) ?_
  refine pw_ist6 (tk tkX5_matchingRules 3 rfl) rfl (by decide) ?_
  exact L u 0 (by omega) _ _
set_option maxRecDepth 100000 in
set_option maxHeartbeats 4000000 in
theorem ct_X5_hasRefusing (x : XW) (s : Nat → Int32) (w0 : Int32) (u : Nat) (hs : RS1 (cSt x.1 1) s w0) (hv : VS u s) (p : Nat → Bool) : CT MX5_hasRefusing 1 0 [.ref 161, .int (mkM p u)] (hp x) (Det (.inl (some (.int (bI (decide (¬ mkM (fun i => p i && decide (rN s i 3 = 1)) u = 0)))))) (hp x)) := by
  refine ct_of (by decide +kernel) (by decide) rfl (k := 1) (ls := [some (.ref 161), some (.int (mkM p u)), none]) rfl (Nat.le_of_ble_eq_true rfl) ?_
  have eu := hv.un
  have hu8 := hv.1
  obtain ⟨a1, a2, a3, a4, a5, a6, a7⟩ := hs
  have hu : sSc (cSt x.1 1) 0 = nI u := a3.trans hv.2.1
  have L : ∀ k i, i + k = u → (∀ j, j < i → (fun i => p i && decide (rN s i 3 = 1)) j = false) → PW MX5_hasRefusing 1 0 2 [some (.ref 161), some (.int (mkM p u)), some (.int (nI i))] [] (hp x) (Det (.inl (some (.int (bI (decide (¬ mkM (fun i => p i && decide (rN s i 3 = 1)) u = 0)))))) (hp x)) := by
    intro k
    induction k with
    | zero =>
      intro i hi hq
      obtain rfl : i = u := by omega
      refine pw_iload_n (tk tkX5_hasRefusing 2 rfl) rfl ?_
      refine pw_aload_n (tk tkX5_hasRefusing 3 rfl) rfl ?_
      refine g5_state (tk tkX5_hasRefusing 4 rfl) fkX5_12 ?_
      refine g4_rulesUsed (by first | assumption | decide | omega) (tk tkX5_hasRefusing 5 rfl) fkX5_81 ?_
      rw [show sSc (cSt x.1 1) 0 = nI i from hu]
      refine pw_icmp_ge (tgt := 45) (tk tkX5_hasRefusing 6 rfl) (by decide) (fun c10 => ?_) (fun c10 => absurd (Int32.le_refl _) c10)
      refine pw_iconst (v := 0) (tk tkX5_hasRefusing 25 rfl) (by decide) ?_
      exact pw_ireturn (tk tkX5_hasRefusing 26 rfl) rfl (by decide) (by first | rfl | exact nar_bI _) ⟨by rw [mk_0 _ i hq]; rfl, rfl⟩
    | succ k ih =>
      intro i hi hq
      have q3 := a6 i 3 (by omega) (by omega)
      have nx : (fun i => p i && decide (rN s i 3 = 1)) i = false → ∀ j, j < i + 1 → (fun i => p i && decide (rN s i 3 = 1)) j = false := fun h j hj => by
        rcases Nat.lt_or_ge j i with h1 | h1
        · exact hq j h1
        · rw [show j = i by omega]; exact h
      refine pw_iload_n (tk tkX5_hasRefusing 2 rfl) rfl ?_
      refine pw_aload_n (tk tkX5_hasRefusing 3 rfl) rfl ?_
      refine g5_state (tk tkX5_hasRefusing 4 rfl) fkX5_12 ?_
      refine g4_rulesUsed (by first | assumption | decide | omega) (tk tkX5_hasRefusing 5 rfl) fkX5_81 ?_
      rw [show sSc (cSt x.1 1) 0 = nI u from hu]
      refine pw_icmp_ge (tgt := 45) (tk tkX5_hasRefusing 6 rfl) (by decide) (fun c10 => absurd c10 (nI_ge (by omega) (by omega))) (fun c10 => ?_)
      refine pw_iload_n (tk tkX5_hasRefusing 7 rfl) rfl ?_
      refine pw_iconst (v := 1) (tk tkX5_hasRefusing 8 rfl) (by decide) ?_
      refine pw_iload_n (tk tkX5_hasRefusing 9 rfl) rfl ?_
      refine pw_ishl (tk tkX5_hasRefusing 10 rfl) ?_
      refine pw_iand (tk tkX5_hasRefusing 11 rfl) ?_
      refine pw_if_eq (tgt := 39) (tk tkX5_hasRefusing 12 rfl) (by decide) (fun c18 => ?_) (fun c18 => ?_)
      · refine pw_inc2 (tk tkX5_hasRefusing 23 rfl) rfl (by decide) (nI_1 i) ?_
        refine pw_goto (tgt := 2) (tk tkX5_hasRefusing 24 rfl) (by decide) ?_
        exact ih (i + 1) (by omega) (nx (by show (p i && _) = false; rw [(mk_and0 p hu8 (show i < u by omega)).mp c18]; rfl))
      · refine pw_aload_n (tk tkX5_hasRefusing 13 rfl) rfl ?_
        refine g5_state (tk tkX5_hasRefusing 14 rfl) fkX5_12 ?_
        refine g4_rules (by first | assumption | decide | omega) (tk tkX5_hasRefusing 15 rfl) fkX5_88 ?_
        refine pw_iload_n (tk tkX5_hasRefusing 16 rfl) rfl ?_
        refine al_rules_e (e := i) (by first | assumption | decide | omega) (tk tkX5_hasRefusing 17 rfl) rfl (by first | decide | omega) ?_
        refine g3_action (by first | assumption | decide | omega) (by first | assumption | decide | omega) (tk tkX5_hasRefusing 18 rfl) fkX5_109 ?_
        refine pw_iconst (v := 1) (tk tkX5_hasRefusing 19 rfl) (by decide) ?_
        rw [q3]
        refine pw_icmp_ne (tgt := 39) (tk tkX5_hasRefusing 20 rfl) (by decide) (fun c34 => ?_) (fun c34 => ?_)
        · refine pw_inc2 (tk tkX5_hasRefusing 23 rfl) rfl (by decide) (nI_1 i) ?_
          refine pw_goto (tgt := 2) (tk tkX5_hasRefusing 24 rfl) (by decide) ?_
          exact ih (i + 1) (by omega) (nx (by show (p i && _) = false; rw [decide_eq_false c34, Bool.and_false]))
        · refine pw_iconst (v := 1) (tk tkX5_hasRefusing 21 rfl) (by decide) ?_
          exact pw_ireturn (tk tkX5_hasRefusing 22 rfl) rfl (by decide) (by first | rfl | exact nar_bI _) ⟨by rw [decide_eq_true (mk_ne _ hu8 (show i < u by omega) (by show (p i && _) = true; rw [show p i = true from by by_cases z : p i = true; exact z; exact absurd ((mk_and0 p hu8 (show i < u by omega)).mpr (Bool.eq_false_iff.mpr z)) c18, decide_eq_true c34]; rfl))]; rfl, rfl⟩
  refine pw_iconst (v := 0) (tk tkX5_hasRefusing 0 rfl) (by decide) ?_
  refine pw_ist2 (tk tkX5_hasRefusing 1 rfl) rfl (by decide) ?_
  exact L u 0 (by omega) (fun j hj => absurd hj (Nat.not_lt_zero j))
set_option maxRecDepth 100000 in
set_option maxHeartbeats 4000000 in
theorem ct_X5_alterTable (x : XW) (ev : Int32) (r c : Nat) (v : Int32) (hr : r < 6) (hc : c < 3) : CT MX5_alterTable 1 0 [.ref 161, .int ev, .int (nI r), .int (nI c), .int v] (hp x) (Det (.inl none) (hp (uC1 x 1 (altS (cSt x.1 1) ev r c v)))) := by
  refine ct_of (by decide +kernel) (by decide) rfl (k := 0) (ls := [some (.ref 161), some (.int ev), some (.int (nI r)), some (.int (nI c)), some (.int v)]) rfl (Nat.le_of_ble_eq_true rfl) ?_
  refine pw_iload_n (tk tkX5_alterTable 0 rfl) rfl ?_
  refine pw_iconst (v := 1) (tk tkX5_alterTable 1 rfl) (by decide) ?_
  refine pw_icmp_ne (tgt := 23) (tk tkX5_alterTable 2 rfl) (by decide) (fun c2 => ?_) (fun c2 => ?_)
  · refine pw_aload_n (tk tkX5_alterTable 12 rfl) rfl ?_
    refine g5_state (tk tkX5_alterTable 13 rfl) fkX5_12 ?_
    refine g4_there (by first | assumption | decide | omega) (tk tkX5_alterTable 14 rfl) fkX5_39 ?_
    refine pw_iload_n (tk tkX5_alterTable 15 rfl) rfl ?_
    refine pw_iload_n (tk tkX5_alterTable 16 rfl) rfl ?_
    refine pw_if_ne (tgt := 39) (tk tkX5_alterTable 17 rfl) (by decide) (fun c32 => ?_) (fun c32 => ?_)
    · refine pw_iconst (v := 0) (tk tkX5_alterTable 20 rfl) (by decide) ?_
      refine as_there_e (e := r) (by first | assumption | decide | omega) (tk tkX5_alterTable 21 rfl) rfl (by first | decide | omega) rfl ?_
      exact pw_return (tk tkX5_alterTable 22 rfl) rfl (by decide) ⟨rfl, by unfold altS; simp [c2, c32]⟩
    · refine pw_iconst (v := 1) (tk tkX5_alterTable 18 rfl) (by decide) ?_
      refine pw_goto (tgt := 40) (tk tkX5_alterTable 19 rfl) (by decide) ?_
      refine as_there_e (e := r) (by first | assumption | decide | omega) (tk tkX5_alterTable 21 rfl) rfl (by first | decide | omega) rfl ?_
      exact pw_return (tk tkX5_alterTable 22 rfl) rfl (by decide) ⟨rfl, by unfold altS; simp [c2, c32]⟩
  · refine pw_aload_n (tk tkX5_alterTable 3 rfl) rfl ?_
    refine g5_state (tk tkX5_alterTable 4 rfl) fkX5_12 ?_
    refine g4_values (by first | assumption | decide | omega) (tk tkX5_alterTable 5 rfl) fkX5_43 ?_
    refine pw_iload_n (tk tkX5_alterTable 6 rfl) rfl ?_
    refine pw_iload_n (tk tkX5_alterTable 7 rfl) rfl ?_
    refine pw_cN (ct_X7_cell _ _ _) rfl okX7_cell (tk tkX5_alterTable 8 rfl) mkX5_47 stX7_cell rfl rfl (by decide) (by decide) (Nat.le_of_ble_eq_true rfl) ?_
    refine pw_iload (tk tkX5_alterTable 9 rfl) rfl ?_
    refine as_values_e (e := 3 * r + c) (by first | assumption | decide | omega) (tk tkX5_alterTable 10 rfl) (cl_ix rfl rfl) (by first | decide | omega) ?_
    refine pw_goto (tgt := 41) (tk tkX5_alterTable 11 rfl) (by decide) ?_
    exact pw_return (tk tkX5_alterTable 22 rfl) rfl (by decide) ⟨rfl, by unfold altS; simp [c2]⟩
