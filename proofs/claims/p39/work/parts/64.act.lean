/-! ===== AN ACT BY A CELL ===== -/
set_option maxRecDepth 100000 in
theorem iiL : Cond.initialized RL ∈ UU := UU_in 11 (by decide +kernel) rfl
def xV (v : Int32) : Int32 := v >>> ((5 : Int32) &&& 31)
def isV (v : Int32) : Bool := decide (0 < lwF (v >>> ((22 : Int32) &&& 31)) 9)
def ruM (a : AM) (v : Int32) : Nat := if isV v = true ∧ 0 < uN (aS a) then uN (aS a) else 9
def ruV (a : AM) (v : Int32) : Int32 := nI (lwF (xV v) (ruM a v))
def roV (v : Int32) : Int32 := nI (lwF (xV v >>> ((2 : Int32) &&& 31)) (cond (isV v) 3 8))
def axR (a : AM) (ro v : Int32) (is : Bool) : RS3 := ssetAction a ro (if (v >>> ((11 : Int32) &&& 31)) &&& 3 ≤ 0 then nI (lwF (v >>> ((6 : Int32) &&& 31)) (cond is 4 6)) else 2) (nI (lwF v (cond is 3 7))) (nI (lwF (v >>> ((3 : Int32) &&& 31)) 3)) (nI (lwF (v >>> ((5 : Int32) &&& 31)) 160) - 60)
def iiR (a : AM) (ro v : Int32) (m : Nat) : RS3 := sinsert a ro (nI (lwF v m)) (nI (lwF (v >>> ((4 : Int32) &&& 31)) m)) (nI (lwF (v >>> ((8 : Int32) &&& 31)) m))
/-- what an act comes to -/
def actG (a : AM) (v : Int32) : G3 :=
  if lwF v 24 < 5 then prj 2 3 3 (saddRule a (nI (lwF (xV v) (cond (isV v) 3 4))) (nI (lwF (xV v >>> ((2 : Int32) &&& 31)) 3)) (nI (lwF (xV v >>> ((4 : Int32) &&& 31)) (if xV v &&& 1 = 0 then 400 else cond (isV v) 1000 1200))))
  else if lwF v 24 < 10 then prj 1 2 2 (axR a (ruV a v) (xV v >>> ((3 : Int32) &&& 31)) (isV v))
  else if lwF v 24 < 13 then prj 1 2 3 (iiR a (roV v) (xV v >>> ((3 : Int32) &&& 31)) (cond (isV v) 1000 1100))
  else if lwF v 24 < 20 then prj 1 2 3 (supdate a (roV v) (nI (lwF (xV v >>> ((5 : Int32) &&& 31)) 3)) (nI (lwF (xV v >>> ((7 : Int32) &&& 31)) (cond (isV v) 1000 1100))))
  else if lwF v 24 = 20 then prj 1 3 3 (sremove a (roV v))
  else if lwF v 24 = 21 then prj 1 1 1 (sturnMute a (ruV a v))
  else if lwF v 24 = 22 then prj 2 2 2 (ssetDepth a (nI (lwF (xV v) (cond (isV v) 6 7))))
  else prj 1 1 1 (sdropRule a (ruV a v))
theorem ruV_eq {a b : AM} (h : aS a = aS b) (v : Int32) : ruV a v = ruV b v := by
  unfold ruV ruM
  rw [h]
theorem actG_eq {a b : AM} (h : aS a = aS b) (v : Int32) : actG a v = actG b v := by
  unfold actG axR iiR
  rw [ruV_eq h]
  rw [eq_addRule h, eq_setAction h, eq_insert h, eq_update h, eq_remove h, eq_turnMute h, eq_setDepth h, eq_dropRule h]
theorem recH_ok {a : AM} (h : HGA a) : ∀ i, i < (recH a (aS a)).1 → VS (uN ((recH a (aS a)).2 i)) ((recH a (aS a)).2 i) := by
  intro i hi
  unfold recH at hi ⊢
  by_cases e : aK a = 6
  · rw [if_pos e] at hi ⊢
    show VS (uN (if i = 5 then aS a else aH a (i + 1))) (if i = 5 then aS a else aH a (i + 1))
    have hi2 : i < 6 := hi
    by_cases e2 : i = 5
    · rw [if_pos e2]; exact h.1
    · rw [if_neg e2]; exact h.2.1 _ (by omega)
  · rw [if_neg e] at hi ⊢
    show VS (uN (if i = aK a then aS a else aH a i)) (if i = aK a then aS a else aH a i)
    have hi2 : i < aK a + 1 := hi
    by_cases e2 : i = aK a
    · rw [if_pos e2]; exact h.1
    · rw [if_neg e2]; exact h.2.1 _ (by omega)
theorem lft_VA {a : AM} (h : HGA a) (g : G3) : VA (lft a g) := by
  unfold lft
  split
  · exact ⟨recH_ok h, h.2.2⟩
  · exact h.2
theorem prj_st (m1 m2 m3 : Int32) (R : RS3) : (prj m1 m2 m3 R).2.2 = aS R.2.2 := rfl
theorem iv0 {B : Nat} {s : ST} (h : IV B s) : IV (B + BD) s := h.up (Nat.le_add_right _ _)
theorem ivx_addRule {B : Nat} {a : AM} (h : IV B (aS a)) (e c l : Int32) : IV (B + BD) (aS (saddRule a e c l).2.2) := by
  unfold saddRule
  split
  · exact iv0 h
  · split
    · exact iv0 h
    · rename_i q
      split
      · exact iv0 h
      · split
        · exact iv0 h
        · rename_i q8
          exact iv0 (iv_add h (bnf q) q8)
theorem ivx_turnMute {B : Nat} {a : AM} (h : IV B (aS a)) (r : Int32) : IV (B + BD) (aS (sturnMute a r).2.2) := by
  unfold sturnMute
  split
  · exact iv0 h
  · rename_i q
    exact iv0 (iv_mute h (bnf q))
theorem ivx_dropRule {B : Nat} {a : AM} (h : IV B (aS a)) (r : Int32) : IV (B + BD) (aS (sdropRule a r).2.2) := by
  unfold sdropRule
  split
  · exact iv0 h
  · rename_i q
    exact iv0 (iv_drop h (bnf q))
theorem ivx_setDepth {B : Nat} {a : AM} (h : IV B (aS a)) (r : Int32) : IV (B + BD) (aS (ssetDepth a r).2.2) := by
  unfold ssetDepth
  split
  · exact iv0 h
  · rename_i q
    exact iv0 (iv_depth h (bnf q))
theorem ivx_setAction {B : Nat} {a : AM} (h : IV B (aS a)) (r k ro c m : Int32) : IV (B + BD) (aS (ssetAction a r k ro c m).2.2) := by
  unfold ssetAction
  split
  · exact iv0 h
  · rename_i q1
    split
    · exact iv0 h
    · rename_i q2
      split
      · exact iv0 h
      · rename_i q3
        split
        · exact iv0 h
        · rename_i q4
          split
          · exact iv0 h
          · exact iv0 (iv_action h (bnf q1) (bnf q2) (bnf q3) (bnf q4))
theorem ivx_st {B : Nat} {a : AM} {R : TT} (h : IV B (aS a)) (hR : SI2 (B + BD) (uN (aS a)) (aS a) R) (bad : Int32) : IV (B + BD) (aS (stA a R bad).2.2) := by
  unfold stA
  split
  · exact iv0 h
  · rename_i q
    exact iv_fin hR (of_decide_eq_true (bnf q))
theorem ivx_update {B : Nat} {a : AM} (h : IV B (aS a)) (r c v : Int32) : IV (B + BD) (aS (supdate a r c v).2.2) := by
  unfold supdate
  split
  · exact iv0 h
  · rename_i q1
    split
    · exact iv0 h
    · rename_i q2
      split
      · exact iv0 h
      · rename_i q3
        obtain ⟨r1, hr, _, er⟩ := inR_row (bnf q1)
        obtain ⟨c1, hc, _, ec⟩ := inR_col (bnf q2)
        rw [er, ec]
        exact ivx_st h (upd_SI h hr hc (bnf q3)) 3
theorem ivx_remove {B : Nat} {a : AM} (h : IV B (aS a)) (r : Int32) : IV (B + BD) (aS (sremove a r).2.2) := by
  unfold sremove
  split
  · exact iv0 h
  · rename_i q1
    obtain ⟨r1, hr, _, er⟩ := inR_row (bnf q1)
    rw [er]
    exact ivx_st h (rem_SI h hr) 2
theorem ivx_insert {B : Nat} {a : AM} (h : IV B (aS a)) (r p q w : Int32) : IV (B + BD) (aS (sinsert a r p q w).2.2) := by
  unfold sinsert
  split
  · exact iv0 h
  · rename_i q1
    split
    · exact iv0 h
    · rename_i q2
      split
      · exact iv0 h
      · rename_i q3
        split
        · exact iv0 h
        · rename_i q4
          obtain ⟨r1, hr, _, er⟩ := inR_row (bnf q1)
          rw [er]
          exact ivx_st h (ins_SI h hr (bnf q2) (bnf q3) (bnf q4)) 3
theorem actG_IV {B : Nat} {a : AM} (h : IV B (aS a)) (v : Int32) : IV (B + BD) (actG a v).2.2 := by
  unfold actG
  split
  · exact ivx_addRule h _ _ _
  · split
    · exact ivx_setAction h _ _ _ _ _
    · split
      · exact ivx_insert h _ _ _ _
      · split
        · exact ivx_update h _ _ _
        · split
          · exact ivx_remove h _
          · split
            · exact ivx_turnMute h _
            · split
              · exact ivx_setDepth h _
              · exact ivx_dropRule h _
theorem nIle {a b : Nat} (ha : a < 2 ^ 31) (hb : b < 2 ^ 31) (h : nI a ≤ nI b) : a ≤ b := (nI_leI ha hb).mp h
theorem lwF_0 {n : Nat} (hn : n < 2 ^ 31) : nI n ≤ 0 ↔ n = 0 := by
  rw [show (0 : Int32) = nI 0 from rfl, nI_leI hn (by decide)]; omega
set_option maxRecDepth 100000 in
set_option maxHeartbeats 4000000 in
theorem ct_L_act (x : XW) {a b : AM} {w : Int32} (hW : W2 a b w x) (hg : HGA a) (v : Int32) : CT ML_act 32 6 [.ref 160, .int v, .ref 171] (hp x) (LQ a b (actG a v)) := by
  refine ct_of (by decide +kernel) (by decide) rfl (k := 5) (ls := [some (.ref 160), some (.int v), some (.ref 171), none, none, none, none, none]) rfl (Nat.le_of_ble_eq_true rfl) ?_
  have hu8 := hg.1.1
  have P4 : ∀ x, W2 a b w x → PW ML_act 32 6 77 [some (.ref 160), some (.int v), some (.ref 171), some (.int (xV v)), some (.int (bI (isV v))), some (.int (nI (lwF v 24))), some (.int (ruV a v)), some (.int (roV v))] [] (hp x) (LQ a b (actG a v)) := by
    intro x hW
    unfold actG
    have hwy : lwF v 24 < 24 := lwF_lt v (by decide)
    generalize lwF v 24 = wy at hwy ⊢
    generalize roV v = ro
    generalize ruV a v = ru
    generalize xV v = xv
    generalize isV v = is
    have ge : ∀ k, k < 1000 → nI k ≤ nI wy → k ≤ wy := fun k hk h => nIle (by omega) (by omega) h
    have lt : ∀ k, k < 1000 → ¬ nI k ≤ nI wy → wy < k := fun k hk h => by rcases Nat.lt_or_ge wy k with z | z; exact z; exact absurd (nI_le z (by omega)) h
    have ne : ∀ k, ¬ nI wy = nI k → ¬ wy = k := fun k h z => h (by rw [z])
    have eq : ∀ k, k < 1000 → nI wy = nI k → wy = k := fun k hk h => (nI_eq (by omega) (by omega)).mp h
    cases is with
    | false =>
      refine pw_iload (tk tkL_act 40 rfl) rfl ?_
      refine pw_iconst (v := 5) (tk tkL_act 41 rfl) (by decide) ?_
      refine pw_icmp_ge (tgt := 143) (tk tkL_act 42 rfl) (by decide) (fun c80 => ?_) (fun c80 => ?_)
      · refine pw_iload (tk tkL_act 75 rfl) rfl ?_
        refine pw_bipush (v := 10) (tk tkL_act 76 rfl) (by decide) ?_
        refine pw_icmp_ge (tgt := 163) (tk tkL_act 77 rfl) (by decide) (fun c147 => ?_) (fun c147 => ?_)
        · refine pw_iload (tk tkL_act 87 rfl) rfl ?_
          refine pw_bipush (v := 13) (tk tkL_act 88 rfl) (by decide) ?_
          refine pw_icmp_ge (tgt := 195) (tk tkL_act 89 rfl) (by decide) (fun c167 => ?_) (fun c167 => ?_)
          · refine pw_iload (tk tkL_act 103 rfl) rfl ?_
            refine pw_bipush (v := 20) (tk tkL_act 104 rfl) (by decide) ?_
            refine pw_icmp_ge (tgt := 241) (tk tkL_act 105 rfl) (by decide) (fun c199 => ?_) (fun c199 => ?_)
            · refine pw_iload (tk tkL_act 126 rfl) rfl ?_
              refine pw_bipush (v := 20) (tk tkL_act 127 rfl) (by decide) ?_
              refine pw_icmp_ne (tgt := 261) (tk tkL_act 128 rfl) (by decide) (fun c245 => ?_) (fun c245 => ?_)
              · refine pw_iload (tk tkL_act 137 rfl) rfl ?_
                refine pw_bipush (v := 21) (tk tkL_act 138 rfl) (by decide) ?_
                refine pw_icmp_ne (tgt := 281) (tk tkL_act 139 rfl) (by decide) (fun c265 => ?_) (fun c265 => ?_)
                · refine pw_iload (tk tkL_act 148 rfl) rfl ?_
                  refine pw_bipush (v := 22) (tk tkL_act 149 rfl) (by decide) ?_
                  refine pw_icmp_ne (tgt := 315) (tk tkL_act 150 rfl) (by decide) (fun c285 => ?_) (fun c285 => ?_)
                  · have h5 : ¬ wy < 5 := Nat.not_lt.mpr (ge 5 (by decide) c80)
                    rw [if_neg h5]
                    have h10 : ¬ wy < 10 := Nat.not_lt.mpr (ge 10 (by decide) c147)
                    rw [if_neg h10]
                    have h13 : ¬ wy < 13 := Nat.not_lt.mpr (ge 13 (by decide) c167)
                    rw [if_neg h13]
                    have h20 : ¬ wy < 20 := Nat.not_lt.mpr (ge 20 (by decide) c199)
                    rw [if_neg h20]
                    rw [if_neg (ne 20 c245)]
                    rw [if_neg (ne 21 c265)]
                    rw [if_neg (ne 22 c285)]
                    refine pw_aload_n (tk tkL_act 165 rfl) rfl ?_
                    refine pw_iconst (v := 2) (tk tkL_act 166 rfl) (by decide) ?_
                    refine pw_iload (tk tkL_act 167 rfl) rfl ?_
                    refine pw_iconst (v := 0) (tk tkL_act 168 rfl) (by decide) ?_
                    refine pw_iconst (v := 0) (tk tkL_act 169 rfl) (by decide) ?_
                    refine pw_aload_n (tk tkL_act 170 rfl) rfl ?_
                    refine pw_callSW (k := 6) (ct_L_dropRule x hW hg _ 0 0) rfl (List.cons_ne_nil _ _) cwL_changes iiL ⟨by decide +kernel, by decide +kernel, by decide +kernel⟩ (by decide) (tk tkL_act 171 rfl) mkL_55 stL_changes rfl rfl (by decide) (by decide) (Nat.le_of_ble_eq_true rfl) (fun r h2 q => ?_)
                    obtain ⟨y, rfl, g1, g2, e, g3⟩ := q
                    cases e
                    exact pw_ireturn (tk tkL_act 172 rfl) rfl (by decide) rfl ⟨y, rfl, g1, g2, rfl, g3⟩
                  · have h5 : ¬ wy < 5 := Nat.not_lt.mpr (ge 5 (by decide) c80)
                    rw [if_neg h5]
                    have h10 : ¬ wy < 10 := Nat.not_lt.mpr (ge 10 (by decide) c147)
                    rw [if_neg h10]
                    have h13 : ¬ wy < 13 := Nat.not_lt.mpr (ge 13 (by decide) c167)
                    rw [if_neg h13]
                    have h20 : ¬ wy < 20 := Nat.not_lt.mpr (ge 20 (by decide) c199)
                    rw [if_neg h20]
                    rw [if_neg (ne 20 c245)]
                    rw [if_neg (ne 21 c265)]
                    rw [if_pos (eq 22 (by decide) c285)]
                    refine pw_aload_n (tk tkL_act 151 rfl) rfl ?_
                    refine pw_iconst (v := 3) (tk tkL_act 152 rfl) (by decide) ?_
                    refine pw_iload_n (tk tkL_act 153 rfl) rfl ?_
                    refine pw_iload (tk tkL_act 154 rfl) rfl ?_
                    refine pw_if_eq (tgt := 301) (tk tkL_act 155 rfl) (by decide) (fun c293 => ?_) (fun c293 => c293 (by decide) |>.elim)
                    refine pw_bipush (v := 7) (tk tkL_act 158 rfl) (by decide) ?_
                    refine pw_cS (ct_L_low _ _ 7 (by decide) (by decide)) okL_low (tk tkL_act 159 rfl) mkL_37 stL_low rfl rfl (by decide) (by decide) (Nat.le_of_ble_eq_true rfl) ?_
                    refine pw_iconst (v := 0) (tk tkL_act 160 rfl) (by decide) ?_
                    refine pw_iconst (v := 0) (tk tkL_act 161 rfl) (by decide) ?_
                    refine pw_aload_n (tk tkL_act 162 rfl) rfl ?_
                    refine pw_callSW (k := 6) (ct_L_setDepth x hW hg _ 0 0) rfl (List.cons_ne_nil _ _) cwL_changes iiL ⟨by decide +kernel, by decide +kernel, by decide +kernel⟩ (by decide) (tk tkL_act 163 rfl) mkL_55 stL_changes rfl rfl (by decide) (by decide) (Nat.le_of_ble_eq_true rfl) (fun r h2 q => ?_)
                    obtain ⟨y, rfl, g1, g2, e, g3⟩ := q
                    cases e
                    refine pw_goto (tgt := 325) (tk tkL_act 164 rfl) (by decide) ?_
                    exact pw_ireturn (tk tkL_act 172 rfl) rfl (by decide) rfl ⟨y, rfl, g1, g2, rfl, g3⟩
                · have h5 : ¬ wy < 5 := Nat.not_lt.mpr (ge 5 (by decide) c80)
                  rw [if_neg h5]
                  have h10 : ¬ wy < 10 := Nat.not_lt.mpr (ge 10 (by decide) c147)
                  rw [if_neg h10]
                  have h13 : ¬ wy < 13 := Nat.not_lt.mpr (ge 13 (by decide) c167)
                  rw [if_neg h13]
                  have h20 : ¬ wy < 20 := Nat.not_lt.mpr (ge 20 (by decide) c199)
                  rw [if_neg h20]
                  rw [if_neg (ne 20 c245)]
                  rw [if_pos (eq 21 (by decide) c265)]
                  refine pw_aload_n (tk tkL_act 140 rfl) rfl ?_
                  refine pw_iconst (v := 1) (tk tkL_act 141 rfl) (by decide) ?_
                  refine pw_iload (tk tkL_act 142 rfl) rfl ?_
                  refine pw_iconst (v := 0) (tk tkL_act 143 rfl) (by decide) ?_
                  refine pw_iconst (v := 0) (tk tkL_act 144 rfl) (by decide) ?_
                  refine pw_aload_n (tk tkL_act 145 rfl) rfl ?_
                  refine pw_callSW (k := 6) (ct_L_turnMute x hW hg _ 0 0) rfl (List.cons_ne_nil _ _) cwL_changes iiL ⟨by decide +kernel, by decide +kernel, by decide +kernel⟩ (by decide) (tk tkL_act 146 rfl) mkL_55 stL_changes rfl rfl (by decide) (by decide) (Nat.le_of_ble_eq_true rfl) (fun r h2 q => ?_)
                  obtain ⟨y, rfl, g1, g2, e, g3⟩ := q
                  cases e
                  refine pw_goto (tgt := 325) (tk tkL_act 147 rfl) (by decide) ?_
                  exact pw_ireturn (tk tkL_act 172 rfl) rfl (by decide) rfl ⟨y, rfl, g1, g2, rfl, g3⟩
              · have h5 : ¬ wy < 5 := Nat.not_lt.mpr (ge 5 (by decide) c80)
                rw [if_neg h5]
                have h10 : ¬ wy < 10 := Nat.not_lt.mpr (ge 10 (by decide) c147)
                rw [if_neg h10]
                have h13 : ¬ wy < 13 := Nat.not_lt.mpr (ge 13 (by decide) c167)
                rw [if_neg h13]
                have h20 : ¬ wy < 20 := Nat.not_lt.mpr (ge 20 (by decide) c199)
                rw [if_neg h20]
                rw [if_pos (eq 20 (by decide) c245)]
                refine pw_aload_n (tk tkL_act 129 rfl) rfl ?_
                refine pw_iconst (v := 5) (tk tkL_act 130 rfl) (by decide) ?_
                refine pw_iload (tk tkL_act 131 rfl) rfl ?_
                refine pw_iconst (v := 0) (tk tkL_act 132 rfl) (by decide) ?_
                refine pw_iconst (v := 0) (tk tkL_act 133 rfl) (by decide) ?_
                refine pw_aload_n (tk tkL_act 134 rfl) rfl ?_
                refine pw_callSW (k := 6) (ct_L_remove x hW hg _ 0 0) rfl (List.cons_ne_nil _ _) cwL_changes iiL ⟨by decide +kernel, by decide +kernel, by decide +kernel⟩ (by decide) (tk tkL_act 135 rfl) mkL_55 stL_changes rfl rfl (by decide) (by decide) (Nat.le_of_ble_eq_true rfl) (fun r h2 q => ?_)
                obtain ⟨y, rfl, g1, g2, e, g3⟩ := q
                cases e
                refine pw_goto (tgt := 325) (tk tkL_act 136 rfl) (by decide) ?_
                exact pw_ireturn (tk tkL_act 172 rfl) rfl (by decide) rfl ⟨y, rfl, g1, g2, rfl, g3⟩
            · have h5 : ¬ wy < 5 := Nat.not_lt.mpr (ge 5 (by decide) c80)
              rw [if_neg h5]
              have h10 : ¬ wy < 10 := Nat.not_lt.mpr (ge 10 (by decide) c147)
              rw [if_neg h10]
              have h13 : ¬ wy < 13 := Nat.not_lt.mpr (ge 13 (by decide) c167)
              rw [if_neg h13]
              have h20 : wy < 20 := lt 20 (by decide) c199
              rw [if_pos h20]
              refine pw_aload_n (tk tkL_act 106 rfl) rfl ?_
              refine pw_iconst (v := 4) (tk tkL_act 107 rfl) (by decide) ?_
              refine pw_iload (tk tkL_act 108 rfl) rfl ?_
              refine pw_iload_n (tk tkL_act 109 rfl) rfl ?_
              refine pw_iconst (v := 5) (tk tkL_act 110 rfl) (by decide) ?_
              refine pw_ishr (tk tkL_act 111 rfl) ?_
              refine pw_iconst (v := 3) (tk tkL_act 112 rfl) (by decide) ?_
              refine pw_cS (ct_L_low _ _ 3 (by decide) (by decide)) okL_low (tk tkL_act 113 rfl) mkL_37 stL_low rfl rfl (by decide) (by decide) (Nat.le_of_ble_eq_true rfl) ?_
              refine pw_iload_n (tk tkL_act 114 rfl) rfl ?_
              refine pw_bipush (v := 7) (tk tkL_act 115 rfl) (by decide) ?_
              refine pw_ishr (tk tkL_act 116 rfl) ?_
              refine pw_iload (tk tkL_act 117 rfl) rfl ?_
              refine pw_if_eq (tgt := 228) (tk tkL_act 118 rfl) (by decide) (fun c219 => ?_) (fun c219 => c219 (by decide) |>.elim)
              refine pw_sipush (v := 1100) (tk tkL_act 121 rfl) (by decide) ?_
              refine pw_cS (ct_L_low _ _ 1100 (by decide) (by decide)) okL_low (tk tkL_act 122 rfl) mkL_37 stL_low rfl rfl (by decide) (by decide) (Nat.le_of_ble_eq_true rfl) ?_
              refine pw_aload_n (tk tkL_act 123 rfl) rfl ?_
              refine pw_callSW (k := 6) (ct_L_update x hW hg _ _ _) rfl (List.cons_ne_nil _ _) cwL_changes iiL ⟨by decide +kernel, by decide +kernel, by decide +kernel⟩ (by decide) (tk tkL_act 124 rfl) mkL_55 stL_changes rfl rfl (by decide) (by decide) (Nat.le_of_ble_eq_true rfl) (fun r h2 q => ?_)
              obtain ⟨y, rfl, g1, g2, e, g3⟩ := q
              cases e
              refine pw_goto (tgt := 325) (tk tkL_act 125 rfl) (by decide) ?_
              exact pw_ireturn (tk tkL_act 172 rfl) rfl (by decide) rfl ⟨y, rfl, g1, g2, rfl, g3⟩
          · have h5 : ¬ wy < 5 := Nat.not_lt.mpr (ge 5 (by decide) c80)
            rw [if_neg h5]
            have h10 : ¬ wy < 10 := Nat.not_lt.mpr (ge 10 (by decide) c147)
            rw [if_neg h10]
            have h13 : wy < 13 := lt 13 (by decide) c167
            rw [if_pos h13]
            refine pw_aload_n (tk tkL_act 90 rfl) rfl ?_
            refine pw_iload (tk tkL_act 91 rfl) rfl ?_
            refine pw_iload_n (tk tkL_act 92 rfl) rfl ?_
            refine pw_iconst (v := 3) (tk tkL_act 93 rfl) (by decide) ?_
            refine pw_ishr (tk tkL_act 94 rfl) ?_
            refine pw_iload (tk tkL_act 95 rfl) rfl ?_
            refine pw_if_eq (tgt := 187) (tk tkL_act 96 rfl) (by decide) (fun c178 => ?_) (fun c178 => c178 (by decide) |>.elim)
            refine pw_sipush (v := 1100) (tk tkL_act 99 rfl) (by decide) ?_
            refine pw_aload_n (tk tkL_act 100 rfl) rfl ?_
            refine pw_callSW (k := 5) (ct_L_inserts x hW hg _ _ (m := 1100) (by decide) (by decide)) rfl (List.cons_ne_nil _ _) cwL_inserts iiL ⟨by decide +kernel, by decide +kernel, by decide +kernel⟩ (by decide) (tk tkL_act 101 rfl) mkL_63 stL_inserts rfl rfl (by decide) (by decide) (Nat.le_of_ble_eq_true rfl) (fun r h2 q => ?_)
            obtain ⟨y, rfl, g1, g2, e, g3⟩ := q
            cases e
            exact pw_ireturn (tk tkL_act 102 rfl) rfl (by decide) rfl ⟨y, rfl, g1, g2, rfl, g3⟩
        · have h5 : ¬ wy < 5 := Nat.not_lt.mpr (ge 5 (by decide) c80)
          rw [if_neg h5]
          have h10 : wy < 10 := lt 10 (by decide) c147
          rw [if_pos h10]
          refine pw_aload_n (tk tkL_act 78 rfl) rfl ?_
          refine pw_iload (tk tkL_act 79 rfl) rfl ?_
          refine pw_iload_n (tk tkL_act 80 rfl) rfl ?_
          refine pw_iconst (v := 3) (tk tkL_act 81 rfl) (by decide) ?_
          refine pw_ishr (tk tkL_act 82 rfl) ?_
          refine pw_iload (tk tkL_act 83 rfl) rfl ?_
          refine pw_aload_n (tk tkL_act 84 rfl) rfl ?_
          refine pw_callSW (k := 5) (ct_L_actions x hW hg _ _ false) rfl (List.cons_ne_nil _ _) cwL_actions iiL ⟨by decide +kernel, by decide +kernel, by decide +kernel⟩ (by decide) (tk tkL_act 85 rfl) mkL_59 stL_actions rfl rfl (by decide) (by decide) (Nat.le_of_ble_eq_true rfl) (fun r h2 q => ?_)
          obtain ⟨y, rfl, g1, g2, e, g3⟩ := q
          cases e
          exact pw_ireturn (tk tkL_act 86 rfl) rfl (by decide) rfl ⟨y, rfl, g1, g2, rfl, g3⟩
      · have h5 : wy < 5 := lt 5 (by decide) c80
        rw [if_pos h5]
        refine pw_aload_n (tk tkL_act 43 rfl) rfl ?_
        refine pw_iconst (v := 0) (tk tkL_act 44 rfl) (by decide) ?_
        refine pw_iload_n (tk tkL_act 45 rfl) rfl ?_
        refine pw_iload (tk tkL_act 46 rfl) rfl ?_
        refine pw_if_eq (tgt := 95) (tk tkL_act 47 rfl) (by decide) (fun c88 => ?_) (fun c88 => c88 (by decide) |>.elim)
        refine pw_iconst (v := 4) (tk tkL_act 50 rfl) (by decide) ?_
        refine pw_cS (ct_L_low _ _ 4 (by decide) (by decide)) okL_low (tk tkL_act 51 rfl) mkL_37 stL_low rfl rfl (by decide) (by decide) (Nat.le_of_ble_eq_true rfl) ?_
        refine pw_iload_n (tk tkL_act 52 rfl) rfl ?_
        refine pw_iconst (v := 2) (tk tkL_act 53 rfl) (by decide) ?_
        refine pw_ishr (tk tkL_act 54 rfl) ?_
        refine pw_iconst (v := 3) (tk tkL_act 55 rfl) (by decide) ?_
        refine pw_cS (ct_L_low _ _ 3 (by decide) (by decide)) okL_low (tk tkL_act 56 rfl) mkL_37 stL_low rfl rfl (by decide) (by decide) (Nat.le_of_ble_eq_true rfl) ?_
        refine pw_iload_n (tk tkL_act 57 rfl) rfl ?_
        refine pw_iconst (v := 4) (tk tkL_act 58 rfl) (by decide) ?_
        refine pw_ishr (tk tkL_act 59 rfl) ?_
        refine pw_iload_n (tk tkL_act 60 rfl) rfl ?_
        refine pw_iconst (v := 1) (tk tkL_act 61 rfl) (by decide) ?_
        refine pw_iand (tk tkL_act 62 rfl) ?_
        refine pw_if_ne (tgt := 121) (tk tkL_act 63 rfl) (by decide) (fun c112 => ?_) (fun c112 => ?_)
        · rw [if_neg c112]
          refine pw_iload (tk tkL_act 66 rfl) rfl ?_
          refine pw_if_eq (tgt := 132) (tk tkL_act 67 rfl) (by decide) (fun c123 => ?_) (fun c123 => c123 (by decide) |>.elim)
          refine pw_sipush (v := 1200) (tk tkL_act 70 rfl) (by decide) ?_
          refine pw_cS (ct_L_low _ _ 1200 (by decide) (by decide)) okL_low (tk tkL_act 71 rfl) mkL_37 stL_low rfl rfl (by decide) (by decide) (Nat.le_of_ble_eq_true rfl) ?_
          refine pw_aload_n (tk tkL_act 72 rfl) rfl ?_
          refine pw_callSW (k := 6) (ct_L_addRule x hW hg _ _ _) rfl (List.cons_ne_nil _ _) cwL_changes iiL ⟨by decide +kernel, by decide +kernel, by decide +kernel⟩ (by decide) (tk tkL_act 73 rfl) mkL_55 stL_changes rfl rfl (by decide) (by decide) (Nat.le_of_ble_eq_true rfl) (fun r h2 q => ?_)
          obtain ⟨y, rfl, g1, g2, e, g3⟩ := q
          cases e
          exact pw_ireturn (tk tkL_act 74 rfl) rfl (by decide) rfl ⟨y, rfl, g1, g2, rfl, g3⟩
        · rw [if_pos c112]
          refine pw_sipush (v := 400) (tk tkL_act 64 rfl) (by decide) ?_
          refine pw_goto (tgt := 135) (tk tkL_act 65 rfl) (by decide) ?_
          refine pw_cS (ct_L_low _ _ 400 (by decide) (by decide)) okL_low (tk tkL_act 71 rfl) mkL_37 stL_low rfl rfl (by decide) (by decide) (Nat.le_of_ble_eq_true rfl) ?_
          refine pw_aload_n (tk tkL_act 72 rfl) rfl ?_
          refine pw_callSW (k := 6) (ct_L_addRule x hW hg _ _ _) rfl (List.cons_ne_nil _ _) cwL_changes iiL ⟨by decide +kernel, by decide +kernel, by decide +kernel⟩ (by decide) (tk tkL_act 73 rfl) mkL_55 stL_changes rfl rfl (by decide) (by decide) (Nat.le_of_ble_eq_true rfl) (fun r h2 q => ?_)
          obtain ⟨y, rfl, g1, g2, e, g3⟩ := q
          cases e
          exact pw_ireturn (tk tkL_act 74 rfl) rfl (by decide) rfl ⟨y, rfl, g1, g2, rfl, g3⟩
    | true =>
      refine pw_iload (tk tkL_act 40 rfl) rfl ?_
      refine pw_iconst (v := 5) (tk tkL_act 41 rfl) (by decide) ?_
      refine pw_icmp_ge (tgt := 143) (tk tkL_act 42 rfl) (by decide) (fun c80 => ?_) (fun c80 => ?_)
      · refine pw_iload (tk tkL_act 75 rfl) rfl ?_
        refine pw_bipush (v := 10) (tk tkL_act 76 rfl) (by decide) ?_
        refine pw_icmp_ge (tgt := 163) (tk tkL_act 77 rfl) (by decide) (fun c147 => ?_) (fun c147 => ?_)
        · refine pw_iload (tk tkL_act 87 rfl) rfl ?_
          refine pw_bipush (v := 13) (tk tkL_act 88 rfl) (by decide) ?_
          refine pw_icmp_ge (tgt := 195) (tk tkL_act 89 rfl) (by decide) (fun c167 => ?_) (fun c167 => ?_)
          · refine pw_iload (tk tkL_act 103 rfl) rfl ?_
            refine pw_bipush (v := 20) (tk tkL_act 104 rfl) (by decide) ?_
            refine pw_icmp_ge (tgt := 241) (tk tkL_act 105 rfl) (by decide) (fun c199 => ?_) (fun c199 => ?_)
            · refine pw_iload (tk tkL_act 126 rfl) rfl ?_
              refine pw_bipush (v := 20) (tk tkL_act 127 rfl) (by decide) ?_
              refine pw_icmp_ne (tgt := 261) (tk tkL_act 128 rfl) (by decide) (fun c245 => ?_) (fun c245 => ?_)
              · refine pw_iload (tk tkL_act 137 rfl) rfl ?_
                refine pw_bipush (v := 21) (tk tkL_act 138 rfl) (by decide) ?_
                refine pw_icmp_ne (tgt := 281) (tk tkL_act 139 rfl) (by decide) (fun c265 => ?_) (fun c265 => ?_)
                · refine pw_iload (tk tkL_act 148 rfl) rfl ?_
                  refine pw_bipush (v := 22) (tk tkL_act 149 rfl) (by decide) ?_
                  refine pw_icmp_ne (tgt := 315) (tk tkL_act 150 rfl) (by decide) (fun c285 => ?_) (fun c285 => ?_)
                  · have h5 : ¬ wy < 5 := Nat.not_lt.mpr (ge 5 (by decide) c80)
                    rw [if_neg h5]
                    have h10 : ¬ wy < 10 := Nat.not_lt.mpr (ge 10 (by decide) c147)
                    rw [if_neg h10]
                    have h13 : ¬ wy < 13 := Nat.not_lt.mpr (ge 13 (by decide) c167)
                    rw [if_neg h13]
                    have h20 : ¬ wy < 20 := Nat.not_lt.mpr (ge 20 (by decide) c199)
                    rw [if_neg h20]
                    rw [if_neg (ne 20 c245)]
                    rw [if_neg (ne 21 c265)]
                    rw [if_neg (ne 22 c285)]
                    refine pw_aload_n (tk tkL_act 165 rfl) rfl ?_
                    refine pw_iconst (v := 2) (tk tkL_act 166 rfl) (by decide) ?_
                    refine pw_iload (tk tkL_act 167 rfl) rfl ?_
                    refine pw_iconst (v := 0) (tk tkL_act 168 rfl) (by decide) ?_
                    refine pw_iconst (v := 0) (tk tkL_act 169 rfl) (by decide) ?_
                    refine pw_aload_n (tk tkL_act 170 rfl) rfl ?_
                    refine pw_callSW (k := 6) (ct_L_dropRule x hW hg _ 0 0) rfl (List.cons_ne_nil _ _) cwL_changes iiL ⟨by decide +kernel, by decide +kernel, by decide +kernel⟩ (by decide) (tk tkL_act 171 rfl) mkL_55 stL_changes rfl rfl (by decide) (by decide) (Nat.le_of_ble_eq_true rfl) (fun r h2 q => ?_)
                    obtain ⟨y, rfl, g1, g2, e, g3⟩ := q
                    cases e
                    exact pw_ireturn (tk tkL_act 172 rfl) rfl (by decide) rfl ⟨y, rfl, g1, g2, rfl, g3⟩
                  · have h5 : ¬ wy < 5 := Nat.not_lt.mpr (ge 5 (by decide) c80)
                    rw [if_neg h5]
                    have h10 : ¬ wy < 10 := Nat.not_lt.mpr (ge 10 (by decide) c147)
                    rw [if_neg h10]
                    have h13 : ¬ wy < 13 := Nat.not_lt.mpr (ge 13 (by decide) c167)
                    rw [if_neg h13]
                    have h20 : ¬ wy < 20 := Nat.not_lt.mpr (ge 20 (by decide) c199)
                    rw [if_neg h20]
                    rw [if_neg (ne 20 c245)]
                    rw [if_neg (ne 21 c265)]
                    rw [if_pos (eq 22 (by decide) c285)]
                    refine pw_aload_n (tk tkL_act 151 rfl) rfl ?_
                    refine pw_iconst (v := 3) (tk tkL_act 152 rfl) (by decide) ?_
                    refine pw_iload_n (tk tkL_act 153 rfl) rfl ?_
                    refine pw_iload (tk tkL_act 154 rfl) rfl ?_
                    refine pw_if_eq (tgt := 301) (tk tkL_act 155 rfl) (by decide) (fun c293 => absurd c293 (by decide)) (fun c293 => ?_)
                    refine pw_bipush (v := 6) (tk tkL_act 156 rfl) (by decide) ?_
                    refine pw_goto (tgt := 303) (tk tkL_act 157 rfl) (by decide) ?_
                    refine pw_cS (ct_L_low _ _ 6 (by decide) (by decide)) okL_low (tk tkL_act 159 rfl) mkL_37 stL_low rfl rfl (by decide) (by decide) (Nat.le_of_ble_eq_true rfl) ?_
                    refine pw_iconst (v := 0) (tk tkL_act 160 rfl) (by decide) ?_
                    refine pw_iconst (v := 0) (tk tkL_act 161 rfl) (by decide) ?_
                    refine pw_aload_n (tk tkL_act 162 rfl) rfl ?_
                    refine pw_callSW (k := 6) (ct_L_setDepth x hW hg _ 0 0) rfl (List.cons_ne_nil _ _) cwL_changes iiL ⟨by decide +kernel, by decide +kernel, by decide +kernel⟩ (by decide) (tk tkL_act 163 rfl) mkL_55 stL_changes rfl rfl (by decide) (by decide) (Nat.le_of_ble_eq_true rfl) (fun r h2 q => ?_)
                    obtain ⟨y, rfl, g1, g2, e, g3⟩ := q
                    cases e
                    refine pw_goto (tgt := 325) (tk tkL_act 164 rfl) (by decide) ?_
                    exact pw_ireturn (tk tkL_act 172 rfl) rfl (by decide) rfl ⟨y, rfl, g1, g2, rfl, g3⟩
                · have h5 : ¬ wy < 5 := Nat.not_lt.mpr (ge 5 (by decide) c80)
                  rw [if_neg h5]
                  have h10 : ¬ wy < 10 := Nat.not_lt.mpr (ge 10 (by decide) c147)
                  rw [if_neg h10]
                  have h13 : ¬ wy < 13 := Nat.not_lt.mpr (ge 13 (by decide) c167)
                  rw [if_neg h13]
                  have h20 : ¬ wy < 20 := Nat.not_lt.mpr (ge 20 (by decide) c199)
                  rw [if_neg h20]
                  rw [if_neg (ne 20 c245)]
                  rw [if_pos (eq 21 (by decide) c265)]
                  refine pw_aload_n (tk tkL_act 140 rfl) rfl ?_
                  refine pw_iconst (v := 1) (tk tkL_act 141 rfl) (by decide) ?_
                  refine pw_iload (tk tkL_act 142 rfl) rfl ?_
                  refine pw_iconst (v := 0) (tk tkL_act 143 rfl) (by decide) ?_
                  refine pw_iconst (v := 0) (tk tkL_act 144 rfl) (by decide) ?_
                  refine pw_aload_n (tk tkL_act 145 rfl) rfl ?_
                  refine pw_callSW (k := 6) (ct_L_turnMute x hW hg _ 0 0) rfl (List.cons_ne_nil _ _) cwL_changes iiL ⟨by decide +kernel, by decide +kernel, by decide +kernel⟩ (by decide) (tk tkL_act 146 rfl) mkL_55 stL_changes rfl rfl (by decide) (by decide) (Nat.le_of_ble_eq_true rfl) (fun r h2 q => ?_)
                  obtain ⟨y, rfl, g1, g2, e, g3⟩ := q
                  cases e
                  refine pw_goto (tgt := 325) (tk tkL_act 147 rfl) (by decide) ?_
                  exact pw_ireturn (tk tkL_act 172 rfl) rfl (by decide) rfl ⟨y, rfl, g1, g2, rfl, g3⟩
              · have h5 : ¬ wy < 5 := Nat.not_lt.mpr (ge 5 (by decide) c80)
                rw [if_neg h5]
                have h10 : ¬ wy < 10 := Nat.not_lt.mpr (ge 10 (by decide) c147)
                rw [if_neg h10]
                have h13 : ¬ wy < 13 := Nat.not_lt.mpr (ge 13 (by decide) c167)
                rw [if_neg h13]
                have h20 : ¬ wy < 20 := Nat.not_lt.mpr (ge 20 (by decide) c199)
                rw [if_neg h20]
                rw [if_pos (eq 20 (by decide) c245)]
                refine pw_aload_n (tk tkL_act 129 rfl) rfl ?_
                refine pw_iconst (v := 5) (tk tkL_act 130 rfl) (by decide) ?_
                refine pw_iload (tk tkL_act 131 rfl) rfl ?_
                refine pw_iconst (v := 0) (tk tkL_act 132 rfl) (by decide) ?_
                refine pw_iconst (v := 0) (tk tkL_act 133 rfl) (by decide) ?_
                refine pw_aload_n (tk tkL_act 134 rfl) rfl ?_
                refine pw_callSW (k := 6) (ct_L_remove x hW hg _ 0 0) rfl (List.cons_ne_nil _ _) cwL_changes iiL ⟨by decide +kernel, by decide +kernel, by decide +kernel⟩ (by decide) (tk tkL_act 135 rfl) mkL_55 stL_changes rfl rfl (by decide) (by decide) (Nat.le_of_ble_eq_true rfl) (fun r h2 q => ?_)
                obtain ⟨y, rfl, g1, g2, e, g3⟩ := q
                cases e
                refine pw_goto (tgt := 325) (tk tkL_act 136 rfl) (by decide) ?_
                exact pw_ireturn (tk tkL_act 172 rfl) rfl (by decide) rfl ⟨y, rfl, g1, g2, rfl, g3⟩
            · have h5 : ¬ wy < 5 := Nat.not_lt.mpr (ge 5 (by decide) c80)
              rw [if_neg h5]
              have h10 : ¬ wy < 10 := Nat.not_lt.mpr (ge 10 (by decide) c147)
              rw [if_neg h10]
              have h13 : ¬ wy < 13 := Nat.not_lt.mpr (ge 13 (by decide) c167)
              rw [if_neg h13]
              have h20 : wy < 20 := lt 20 (by decide) c199
              rw [if_pos h20]
              refine pw_aload_n (tk tkL_act 106 rfl) rfl ?_
              refine pw_iconst (v := 4) (tk tkL_act 107 rfl) (by decide) ?_
              refine pw_iload (tk tkL_act 108 rfl) rfl ?_
              refine pw_iload_n (tk tkL_act 109 rfl) rfl ?_
              refine pw_iconst (v := 5) (tk tkL_act 110 rfl) (by decide) ?_
              refine pw_ishr (tk tkL_act 111 rfl) ?_
              refine pw_iconst (v := 3) (tk tkL_act 112 rfl) (by decide) ?_
              refine pw_cS (ct_L_low _ _ 3 (by decide) (by decide)) okL_low (tk tkL_act 113 rfl) mkL_37 stL_low rfl rfl (by decide) (by decide) (Nat.le_of_ble_eq_true rfl) ?_
              refine pw_iload_n (tk tkL_act 114 rfl) rfl ?_
              refine pw_bipush (v := 7) (tk tkL_act 115 rfl) (by decide) ?_
              refine pw_ishr (tk tkL_act 116 rfl) ?_
              refine pw_iload (tk tkL_act 117 rfl) rfl ?_
              refine pw_if_eq (tgt := 228) (tk tkL_act 118 rfl) (by decide) (fun c219 => absurd c219 (by decide)) (fun c219 => ?_)
              refine pw_sipush (v := 1000) (tk tkL_act 119 rfl) (by decide) ?_
              refine pw_goto (tgt := 231) (tk tkL_act 120 rfl) (by decide) ?_
              refine pw_cS (ct_L_low _ _ 1000 (by decide) (by decide)) okL_low (tk tkL_act 122 rfl) mkL_37 stL_low rfl rfl (by decide) (by decide) (Nat.le_of_ble_eq_true rfl) ?_
              refine pw_aload_n (tk tkL_act 123 rfl) rfl ?_
              refine pw_callSW (k := 6) (ct_L_update x hW hg _ _ _) rfl (List.cons_ne_nil _ _) cwL_changes iiL ⟨by decide +kernel, by decide +kernel, by decide +kernel⟩ (by decide) (tk tkL_act 124 rfl) mkL_55 stL_changes rfl rfl (by decide) (by decide) (Nat.le_of_ble_eq_true rfl) (fun r h2 q => ?_)
              obtain ⟨y, rfl, g1, g2, e, g3⟩ := q
              cases e
              refine pw_goto (tgt := 325) (tk tkL_act 125 rfl) (by decide) ?_
              exact pw_ireturn (tk tkL_act 172 rfl) rfl (by decide) rfl ⟨y, rfl, g1, g2, rfl, g3⟩
          · have h5 : ¬ wy < 5 := Nat.not_lt.mpr (ge 5 (by decide) c80)
            rw [if_neg h5]
            have h10 : ¬ wy < 10 := Nat.not_lt.mpr (ge 10 (by decide) c147)
            rw [if_neg h10]
            have h13 : wy < 13 := lt 13 (by decide) c167
            rw [if_pos h13]
            refine pw_aload_n (tk tkL_act 90 rfl) rfl ?_
            refine pw_iload (tk tkL_act 91 rfl) rfl ?_
            refine pw_iload_n (tk tkL_act 92 rfl) rfl ?_
            refine pw_iconst (v := 3) (tk tkL_act 93 rfl) (by decide) ?_
            refine pw_ishr (tk tkL_act 94 rfl) ?_
            refine pw_iload (tk tkL_act 95 rfl) rfl ?_
            refine pw_if_eq (tgt := 187) (tk tkL_act 96 rfl) (by decide) (fun c178 => absurd c178 (by decide)) (fun c178 => ?_)
            refine pw_sipush (v := 1000) (tk tkL_act 97 rfl) (by decide) ?_
            refine pw_goto (tgt := 190) (tk tkL_act 98 rfl) (by decide) ?_
            refine pw_aload_n (tk tkL_act 100 rfl) rfl ?_
            refine pw_callSW (k := 5) (ct_L_inserts x hW hg _ _ (m := 1000) (by decide) (by decide)) rfl (List.cons_ne_nil _ _) cwL_inserts iiL ⟨by decide +kernel, by decide +kernel, by decide +kernel⟩ (by decide) (tk tkL_act 101 rfl) mkL_63 stL_inserts rfl rfl (by decide) (by decide) (Nat.le_of_ble_eq_true rfl) (fun r h2 q => ?_)
            obtain ⟨y, rfl, g1, g2, e, g3⟩ := q
            cases e
            exact pw_ireturn (tk tkL_act 102 rfl) rfl (by decide) rfl ⟨y, rfl, g1, g2, rfl, g3⟩
        · have h5 : ¬ wy < 5 := Nat.not_lt.mpr (ge 5 (by decide) c80)
          rw [if_neg h5]
          have h10 : wy < 10 := lt 10 (by decide) c147
          rw [if_pos h10]
          refine pw_aload_n (tk tkL_act 78 rfl) rfl ?_
          refine pw_iload (tk tkL_act 79 rfl) rfl ?_
          refine pw_iload_n (tk tkL_act 80 rfl) rfl ?_
          refine pw_iconst (v := 3) (tk tkL_act 81 rfl) (by decide) ?_
          refine pw_ishr (tk tkL_act 82 rfl) ?_
          refine pw_iload (tk tkL_act 83 rfl) rfl ?_
          refine pw_aload_n (tk tkL_act 84 rfl) rfl ?_
          refine pw_callSW (k := 5) (ct_L_actions x hW hg _ _ true) rfl (List.cons_ne_nil _ _) cwL_actions iiL ⟨by decide +kernel, by decide +kernel, by decide +kernel⟩ (by decide) (tk tkL_act 85 rfl) mkL_59 stL_actions rfl rfl (by decide) (by decide) (Nat.le_of_ble_eq_true rfl) (fun r h2 q => ?_)
          obtain ⟨y, rfl, g1, g2, e, g3⟩ := q
          cases e
          exact pw_ireturn (tk tkL_act 86 rfl) rfl (by decide) rfl ⟨y, rfl, g1, g2, rfl, g3⟩
      · have h5 : wy < 5 := lt 5 (by decide) c80
        rw [if_pos h5]
        refine pw_aload_n (tk tkL_act 43 rfl) rfl ?_
        refine pw_iconst (v := 0) (tk tkL_act 44 rfl) (by decide) ?_
        refine pw_iload_n (tk tkL_act 45 rfl) rfl ?_
        refine pw_iload (tk tkL_act 46 rfl) rfl ?_
        refine pw_if_eq (tgt := 95) (tk tkL_act 47 rfl) (by decide) (fun c88 => absurd c88 (by decide)) (fun c88 => ?_)
        refine pw_iconst (v := 3) (tk tkL_act 48 rfl) (by decide) ?_
        refine pw_goto (tgt := 96) (tk tkL_act 49 rfl) (by decide) ?_
        refine pw_cS (ct_L_low _ _ 3 (by decide) (by decide)) okL_low (tk tkL_act 51 rfl) mkL_37 stL_low rfl rfl (by decide) (by decide) (Nat.le_of_ble_eq_true rfl) ?_
        refine pw_iload_n (tk tkL_act 52 rfl) rfl ?_
        refine pw_iconst (v := 2) (tk tkL_act 53 rfl) (by decide) ?_
        refine pw_ishr (tk tkL_act 54 rfl) ?_
        refine pw_iconst (v := 3) (tk tkL_act 55 rfl) (by decide) ?_
        refine pw_cS (ct_L_low _ _ 3 (by decide) (by decide)) okL_low (tk tkL_act 56 rfl) mkL_37 stL_low rfl rfl (by decide) (by decide) (Nat.le_of_ble_eq_true rfl) ?_
        refine pw_iload_n (tk tkL_act 57 rfl) rfl ?_
        refine pw_iconst (v := 4) (tk tkL_act 58 rfl) (by decide) ?_
        refine pw_ishr (tk tkL_act 59 rfl) ?_
        refine pw_iload_n (tk tkL_act 60 rfl) rfl ?_
        refine pw_iconst (v := 1) (tk tkL_act 61 rfl) (by decide) ?_
        refine pw_iand (tk tkL_act 62 rfl) ?_
        refine pw_if_ne (tgt := 121) (tk tkL_act 63 rfl) (by decide) (fun c112 => ?_) (fun c112 => ?_)
        · rw [if_neg c112]
          refine pw_iload (tk tkL_act 66 rfl) rfl ?_
          refine pw_if_eq (tgt := 132) (tk tkL_act 67 rfl) (by decide) (fun c123 => absurd c123 (by decide)) (fun c123 => ?_)
          refine pw_sipush (v := 1000) (tk tkL_act 68 rfl) (by decide) ?_
          refine pw_goto (tgt := 135) (tk tkL_act 69 rfl) (by decide) ?_
          refine pw_cS (ct_L_low _ _ 1000 (by decide) (by decide)) okL_low (tk tkL_act 71 rfl) mkL_37 stL_low rfl rfl (by decide) (by decide) (Nat.le_of_ble_eq_true rfl) ?_
          refine pw_aload_n (tk tkL_act 72 rfl) rfl ?_
          refine pw_callSW (k := 6) (ct_L_addRule x hW hg _ _ _) rfl (List.cons_ne_nil _ _) cwL_changes iiL ⟨by decide +kernel, by decide +kernel, by decide +kernel⟩ (by decide) (tk tkL_act 73 rfl) mkL_55 stL_changes rfl rfl (by decide) (by decide) (Nat.le_of_ble_eq_true rfl) (fun r h2 q => ?_)
          obtain ⟨y, rfl, g1, g2, e, g3⟩ := q
          cases e
          exact pw_ireturn (tk tkL_act 74 rfl) rfl (by decide) rfl ⟨y, rfl, g1, g2, rfl, g3⟩
        · rw [if_pos c112]
          refine pw_sipush (v := 400) (tk tkL_act 64 rfl) (by decide) ?_
          refine pw_goto (tgt := 135) (tk tkL_act 65 rfl) (by decide) ?_
          refine pw_cS (ct_L_low _ _ 400 (by decide) (by decide)) okL_low (tk tkL_act 71 rfl) mkL_37 stL_low rfl rfl (by decide) (by decide) (Nat.le_of_ble_eq_true rfl) ?_
          refine pw_aload_n (tk tkL_act 72 rfl) rfl ?_
          refine pw_callSW (k := 6) (ct_L_addRule x hW hg _ _ _) rfl (List.cons_ne_nil _ _) cwL_changes iiL ⟨by decide +kernel, by decide +kernel, by decide +kernel⟩ (by decide) (tk tkL_act 73 rfl) mkL_55 stL_changes rfl rfl (by decide) (by decide) (Nat.le_of_ble_eq_true rfl) (fun r h2 q => ?_)
          obtain ⟨y, rfl, g1, g2, e, g3⟩ := q
          cases e
          exact pw_ireturn (tk tkL_act 74 rfl) rfl (by decide) rfl ⟨y, rfl, g1, g2, rfl, g3⟩
  refine pw_iload_n (tk tkL_act 0 rfl) rfl ?_
  refine pw_iconst (v := 5) (tk tkL_act 1 rfl) (by decide) ?_
  refine pw_ishr (tk tkL_act 2 rfl) ?_
  refine pw_ist3 (tk tkL_act 3 rfl) rfl (by decide) ?_
  refine pw_iload_n (tk tkL_act 4 rfl) rfl ?_
  refine pw_bipush (v := 22) (tk tkL_act 5 rfl) (by decide) ?_
  refine pw_ishr (tk tkL_act 6 rfl) ?_
  refine pw_bipush (v := 9) (tk tkL_act 7 rfl) (by decide) ?_
  refine pw_cS (ct_L_low _ _ 9 (by decide) (by decide)) okL_low (tk tkL_act 8 rfl) mkL_37 stL_low rfl rfl (by decide) (by decide) (Nat.le_of_ble_eq_true rfl) ?_
  refine pw_if_le (tgt := 20) (tk tkL_act 9 rfl) (by decide) (fun c13 => ?_) (fun c13 => ?_)
  · refine pw_iconst (v := 0) (tk tkL_act 12 rfl) (by decide) ?_
    have ei : isV v = false := by
      unfold isV
      rw [(lwF_0 (by have := lwF_lt (v >>> ((22 : Int32) &&& 31)) (show 0 < 9 by decide); omega)).mp c13]; rfl
    refine pw_ist4 (tk tkL_act 13 rfl) rfl (by decide) ?_
    refine pw_iload_n (tk tkL_act 14 rfl) rfl ?_
    refine pw_bipush (v := 24) (tk tkL_act 15 rfl) (by decide) ?_
    refine pw_cS (ct_L_low _ _ 24 (by decide) (by decide)) okL_low (tk tkL_act 16 rfl) mkL_37 stL_low rfl rfl (by decide) (by decide) (Nat.le_of_ble_eq_true rfl) ?_
    refine pw_ist5 (tk tkL_act 17 rfl) rfl (by decide) ?_
    refine pw_iload_n (tk tkL_act 18 rfl) rfl ?_
    refine pw_iload (tk tkL_act 19 rfl) rfl ?_
    refine pw_if_eq (tgt := 51) (tk tkL_act 20 rfl) (by decide) (fun c34 => ?_) (fun c34 => c34 (by decide) |>.elim)
    refine pw_bipush (v := 9) (tk tkL_act 27 rfl) (by decide) ?_
    refine pw_cS (ct_L_low _ _ 9 (by decide) (by decide)) okL_low (tk tkL_act 28 rfl) mkL_37 stL_low rfl rfl (by decide) (by decide) (Nat.le_of_ble_eq_true rfl) ?_
    refine pw_ist6 (tk tkL_act 29 rfl) rfl (by decide) ?_
    refine pw_iload_n (tk tkL_act 30 rfl) rfl ?_
    refine pw_iconst (v := 2) (tk tkL_act 31 rfl) (by decide) ?_
    refine pw_ishr (tk tkL_act 32 rfl) ?_
    refine pw_iload (tk tkL_act 33 rfl) rfl ?_
    refine pw_if_eq (tgt := 70) (tk tkL_act 34 rfl) (by decide) (fun c63 => ?_) (fun c63 => c63 (by decide) |>.elim)
    refine pw_bipush (v := 8) (tk tkL_act 37 rfl) (by decide) ?_
    refine pw_cS (ct_L_low _ _ 8 (by decide) (by decide)) okL_low (tk tkL_act 38 rfl) mkL_37 stL_low rfl rfl (by decide) (by decide) (Nat.le_of_ble_eq_true rfl) ?_
    refine pw_ist7 (tk tkL_act 39 rfl) rfl (by decide) ?_
    rw [show nI (lwF (v >>> ((5 : Int32) &&& 31)) 9) = ruV a v from by unfold ruV ruM xV; rw [if_neg (show ¬ (isV v = true ∧ 0 < uN (aS a)) from fun z => by rw [ei] at z; exact absurd z.1 (by decide))]]
    rw [show nI (lwF ((v >>> ((5 : Int32) &&& 31)) >>> ((2 : Int32) &&& 31)) 8) = roV v from by unfold roV xV; rw [ei]; rfl]
    have p := P4 x hW
    rw [ei] at p
    exact p
  · refine pw_iconst (v := 1) (tk tkL_act 10 rfl) (by decide) ?_
    refine pw_goto (tgt := 21) (tk tkL_act 11 rfl) (by decide) ?_
    have ei : isV v = true := by
      unfold isV
      exact decide_eq_true (Nat.pos_of_ne_zero fun z => c13 (by rw [z]; exact Int32.le_refl _))
    refine pw_ist4 (tk tkL_act 13 rfl) rfl (by decide) ?_
    refine pw_iload_n (tk tkL_act 14 rfl) rfl ?_
    refine pw_bipush (v := 24) (tk tkL_act 15 rfl) (by decide) ?_
    refine pw_cS (ct_L_low _ _ 24 (by decide) (by decide)) okL_low (tk tkL_act 16 rfl) mkL_37 stL_low rfl rfl (by decide) (by decide) (Nat.le_of_ble_eq_true rfl) ?_
    refine pw_ist5 (tk tkL_act 17 rfl) rfl (by decide) ?_
    refine pw_iload_n (tk tkL_act 18 rfl) rfl ?_
    refine pw_iload (tk tkL_act 19 rfl) rfl ?_
    refine pw_if_eq (tgt := 51) (tk tkL_act 20 rfl) (by decide) (fun c34 => absurd c34 (by decide)) (fun c34 => ?_)
    refine pw_aload_n (tk tkL_act 21 rfl) rfl ?_
    refine rO_ruleCount hW hg.1 hg.1.2.1 rfl (tk tkL_act 22 rfl) (by decide) (Nat.le_of_ble_eq_true rfl) (fun x hW => ?_)
    refine pw_if_le (tgt := 51) (tk tkL_act 23 rfl) (by decide) (fun c41 => ?_) (fun c41 => ?_)
    · have hu0 : uN (aS a) = 0 := (lwF_0 (by omega)).mp c41
      refine pw_bipush (v := 9) (tk tkL_act 27 rfl) (by decide) ?_
      refine pw_cS (ct_L_low _ _ 9 (by decide) (by decide)) okL_low (tk tkL_act 28 rfl) mkL_37 stL_low rfl rfl (by decide) (by decide) (Nat.le_of_ble_eq_true rfl) ?_
      refine pw_ist6 (tk tkL_act 29 rfl) rfl (by decide) ?_
      refine pw_iload_n (tk tkL_act 30 rfl) rfl ?_
      refine pw_iconst (v := 2) (tk tkL_act 31 rfl) (by decide) ?_
      refine pw_ishr (tk tkL_act 32 rfl) ?_
      refine pw_iload (tk tkL_act 33 rfl) rfl ?_
      refine pw_if_eq (tgt := 70) (tk tkL_act 34 rfl) (by decide) (fun c63 => absurd c63 (by decide)) (fun c63 => ?_)
      refine pw_iconst (v := 3) (tk tkL_act 35 rfl) (by decide) ?_
      refine pw_goto (tgt := 72) (tk tkL_act 36 rfl) (by decide) ?_
      refine pw_cS (ct_L_low _ _ 3 (by decide) (by decide)) okL_low (tk tkL_act 38 rfl) mkL_37 stL_low rfl rfl (by decide) (by decide) (Nat.le_of_ble_eq_true rfl) ?_
      refine pw_ist7 (tk tkL_act 39 rfl) rfl (by decide) ?_
      rw [show nI (lwF (v >>> ((5 : Int32) &&& 31)) 9) = ruV a v from by unfold ruV ruM xV; rw [if_neg (show ¬ (isV v = true ∧ 0 < uN (aS a)) from fun z => by omega)]]
      rw [show nI (lwF ((v >>> ((5 : Int32) &&& 31)) >>> ((2 : Int32) &&& 31)) 3) = roV v from by unfold roV xV; rw [ei]; rfl]
      have p := P4 x hW
      rw [ei] at p
      exact p
    · have hu0 : ¬ uN (aS a) = 0 := fun z => c41 ((lwF_0 (by omega)).mpr z)
      refine pw_aload_n (tk tkL_act 24 rfl) rfl ?_
      refine rO_ruleCount hW hg.1 hg.1.2.1 rfl (tk tkL_act 25 rfl) (by decide) (Nat.le_of_ble_eq_true rfl) (fun x hW => ?_)
      refine pw_goto (tgt := 53) (tk tkL_act 26 rfl) (by decide) ?_
      refine pw_cS (ct_L_low _ _ (uN (aS a)) (Nat.pos_of_ne_zero hu0) (by omega)) okL_low (tk tkL_act 28 rfl) mkL_37 stL_low rfl rfl (by decide) (by decide) (Nat.le_of_ble_eq_true rfl) ?_
      refine pw_ist6 (tk tkL_act 29 rfl) rfl (by decide) ?_
      refine pw_iload_n (tk tkL_act 30 rfl) rfl ?_
      refine pw_iconst (v := 2) (tk tkL_act 31 rfl) (by decide) ?_
      refine pw_ishr (tk tkL_act 32 rfl) ?_
      refine pw_iload (tk tkL_act 33 rfl) rfl ?_
      refine pw_if_eq (tgt := 70) (tk tkL_act 34 rfl) (by decide) (fun c63 => absurd c63 (by decide)) (fun c63 => ?_)
      refine pw_iconst (v := 3) (tk tkL_act 35 rfl) (by decide) ?_
      refine pw_goto (tgt := 72) (tk tkL_act 36 rfl) (by decide) ?_
      refine pw_cS (ct_L_low _ _ 3 (by decide) (by decide)) okL_low (tk tkL_act 38 rfl) mkL_37 stL_low rfl rfl (by decide) (by decide) (Nat.le_of_ble_eq_true rfl) ?_
      refine pw_ist7 (tk tkL_act 39 rfl) rfl (by decide) ?_
      rw [show nI (lwF (v >>> ((5 : Int32) &&& 31)) (uN (aS a))) = ruV a v from by unfold ruV ruM xV; rw [if_pos (show isV v = true ∧ 0 < uN (aS a) from ⟨ei, Nat.pos_of_ne_zero hu0⟩)]]
      rw [show nI (lwF ((v >>> ((5 : Int32) &&& 31)) >>> ((2 : Int32) &&& 31)) 3) = roV v from by unfold roV xV; rw [ei]; rfl]
      have p := P4 x hW
      rw [ei] at p
      exact p
