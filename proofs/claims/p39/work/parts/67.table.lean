/-! ===== THE TABLE IS SO ===== -/
theorem v_sum {a : AM} {c : Nat} (hc : c < 3) : (ssumOf a (nI c)).2.1 = sumF (aS a) c 6 := by
  unfold ssumOf
  rw [if_neg (ne_f (show inR (nI c) 0 2 = true from inR_t (n := 2) (by omega) (by decide))), nI_clamp (by omega)]
set_option maxRecDepth 100000 in
set_option maxHeartbeats 4000000 in
theorem ct_L_isTableSo (x : XW) {a b : AM} {w : Int32} (hW : W2 a b w x) {B : Nat} (hB : B < 2 ^ 30) (iv : IV B (aS a)) : CT ML_isTableSo 31 0 [.ref 160] (hp x) (QI 1 (W2 a b w)) := by
  refine ct_of (by decide +kernel) (by decide) rfl (k := 8) (ls := [some (.ref 160), none, none, none, none, none, none, none, none]) rfl (Nat.le_of_ble_eq_true rfl) ?_
  have hv := iv.vs
  obtain ⟨-, hval, l, lm, hlg, hac⟩ := id iv
  obtain ⟨u, eu⟩ : ∃ u, u = uN (aS a) := ⟨_, rfl⟩
  have hu8 := hv.1
  rw [← eu] at hu8 hlg hac
  have h01 := hv.2.2.2.2.1
  have e25 : aS a 25 = nI u := by rw [eu]; exact hv.2.1
  have e99 : aS a 99 = nI l.length := lm.2.1
  have hl := lm.1
  have hrl : ∀ j, j < l.length → (∃ i, i < u ∧ aS a (100 + j) = nI i) ∧ ∃ d, d < 6 ∧ aS a (116 + j) = nI d := fun j hj => by
    obtain ⟨p, hp⟩ : ∃ p, l[j]? = some p := ⟨_, List.getElem?_eq_getElem hj⟩
    obtain ⟨q1, q2⟩ := lm.2.2 j p hp
    rw [q1, q2]
    exact hlg p (List.mem_of_getElem? hp)
  have E0 : ∀ x, W2 a b w x → ∀ z4 z5 z6 z7 z8, PW ML_isTableSo 31 0 412 [some (.ref 160), some (.int (smN (aS a) 6)), some (.int (mkM (fun i => rcN (aS a) u i 8 i) u)), some (.int 1), z4, z5, z6, z7, z8] [] (hp x) (QI 1 (W2 a b w)) := by
    intro x hW z4 z5 z6 z7 z8
    refine pw_iload_n (tk tkL_isTableSo 207 rfl) rfl ?_
    refine pw_if_eq (tgt := 460) (tk tkL_isTableSo 208 rfl) (by decide) (fun c413 => absurd c413 (by decide)) (fun c413 => ?_)
    refine pw_aload_n (tk tkL_isTableSo 209 rfl) rfl ?_
    refine rO_rowCount hW hv  (show smN (aS a) 6 = smN (aS a) 6 from rfl) rfl (tk tkL_isTableSo 210 rfl) (by decide) (Nat.le_of_ble_eq_true rfl) (fun x hW => ?_)
    refine pw_iload_n (tk tkL_isTableSo 211 rfl) rfl ?_
    refine pw_icmp_ne (tgt := 460) (tk tkL_isTableSo 212 rfl) (by decide) (fun c421 => absurd rfl c421) (fun c421 => ?_)
    refine pw_aload_n (tk tkL_isTableSo 213 rfl) rfl ?_
    refine rO_circularRules hW hv  (v := mkM (fun i => rcN (aS a) u i 8 i) u) (by rw [eu]; rfl) rfl (tk tkL_isTableSo 214 rfl) (by decide) (Nat.le_of_ble_eq_true rfl) (fun x hW => ?_)
    refine pw_iload_n (tk tkL_isTableSo 215 rfl) rfl ?_
    refine pw_icmp_ne (tgt := 460) (tk tkL_isTableSo 216 rfl) (by decide) (fun c429 => absurd rfl c429) (fun c429 => ?_)
    refine pw_iload_n (tk tkL_isTableSo 217 rfl) rfl ?_
    refine pw_if_gt (tgt := 456) (tk tkL_isTableSo 218 rfl) (by decide) (fun c433 => ?_) (fun c433 => ?_)
    · refine pw_iconst (v := 1) (tk tkL_isTableSo 231 rfl) (by decide) ?_
      refine pw_goto (tgt := 461) (tk tkL_isTableSo 232 rfl) (by decide) ?_
      exact pw_ireturn (tk tkL_isTableSo 234 rfl) rfl (by decide) (by first | rfl | exact nar_bI _) ⟨_, rfl, hW, rfl⟩
    · have r0 : rowN (aS a) 6 = 0 := by
        have q : ¬ 0 < smN (aS a) 6 := c433
        rw [smN_row 6 h01] at q
        rcases Nat.eq_zero_or_pos (rowN (aS a) 6) with z | z
        · exact z
        · exact absurd ((nI_ltI (a := 0) (by decide) (by have := rowN_le (aS a) 6; omega)).mpr z) q
      have n1 : ∀ j, j < 6 → ¬ aS a j = 1 := rowN_0 6 r0
      have sum0 : sumF (aS a) 0 6 + sumF (aS a) 1 6 + sumF (aS a) 2 6 = 0 := by rw [sumF_0 0 6 n1, sumF_0 1 6 n1, sumF_0 2 6 n1]; rfl
      refine pw_aload_n (tk tkL_isTableSo 219 rfl) rfl ?_
      refine pw_iconst (v := 0) (tk tkL_isTableSo 220 rfl) (by decide) ?_
      refine rO_sumOf hW hv (inR_r (n := 2) (show 0 ≤ 2 by decide) (by decide)) (v_sum (c := 0) (by decide)) rfl (tk tkL_isTableSo 221 rfl) (by decide) (Nat.le_of_ble_eq_true rfl) (fun x hW => ?_)
      refine pw_aload_n (tk tkL_isTableSo 222 rfl) rfl ?_
      refine pw_iconst (v := 1) (tk tkL_isTableSo 223 rfl) (by decide) ?_
      refine rO_sumOf hW hv (inR_r (n := 2) (show 1 ≤ 2 by decide) (by decide)) (v_sum (c := 1) (by decide)) rfl (tk tkL_isTableSo 224 rfl) (by decide) (Nat.le_of_ble_eq_true rfl) (fun x hW => ?_)
      refine pw_iadd (tk tkL_isTableSo 225 rfl) ?_
      refine pw_aload_n (tk tkL_isTableSo 226 rfl) rfl ?_
      refine pw_iconst (v := 2) (tk tkL_isTableSo 227 rfl) (by decide) ?_
      refine rO_sumOf hW hv (inR_r (n := 2) (show 2 ≤ 2 by decide) (by decide)) (v_sum (c := 2) (by decide)) rfl (tk tkL_isTableSo 228 rfl) (by decide) (Nat.le_of_ble_eq_true rfl) (fun x hW => ?_)
      refine pw_iadd (tk tkL_isTableSo 229 rfl) ?_
      refine pw_if_ne (tgt := 460) (tk tkL_isTableSo 230 rfl) (by decide) (fun c453 => absurd sum0 c453) (fun c453 => ?_)
      refine pw_iconst (v := 1) (tk tkL_isTableSo 231 rfl) (by decide) ?_
      refine pw_goto (tgt := 461) (tk tkL_isTableSo 232 rfl) (by decide) ?_
      exact pw_ireturn (tk tkL_isTableSo 234 rfl) rfl (by decide) (by first | rfl | exact nar_bI _) ⟨_, rfl, hW, rfl⟩
  have D : ∀ k i, i + k = l.length → ∀ x, W2 a b w x → ∀ z5 z6 z7 z8, PW ML_isTableSo 31 0 354 [some (.ref 160), some (.int (smN (aS a) 6)), some (.int (mkM (fun i => rcN (aS a) u i 8 i) u)), some (.int 1), some (.int (nI i)), z5, z6, z7, z8] [] (hp x) (QI 1 (W2 a b w)) := by
    intro k
    induction k with
    | zero =>
      intro i hi x hW z5 z6 z7 z8
      obtain rfl : i = l.length := by omega
      refine pw_iload (tk tkL_isTableSo 180 rfl) rfl ?_
      refine pw_aload_n (tk tkL_isTableSo 181 rfl) rfl ?_
      refine rO_logSize hW hv  e99 rfl (tk tkL_isTableSo 182 rfl) (by decide) (Nat.le_of_ble_eq_true rfl) (fun x hW => ?_)
      refine pw_icmp_ge (tgt := 412) (tk tkL_isTableSo 183 rfl) (by decide) (fun c360 => ?_) (fun c360 => absurd (Int32.le_refl _) c360)
      exact E0 x hW _ z5 z6 z7 z8
    | succ k ih =>
      intro i hi x hW z5 z6 z7 z8
      have hil : i < l.length := by omega
      obtain ⟨⟨i1, hi1, e1⟩, d1, hd1, e2⟩ := hrl i hil
      refine pw_iload (tk tkL_isTableSo 180 rfl) rfl ?_
      refine pw_aload_n (tk tkL_isTableSo 181 rfl) rfl ?_
      refine rO_logSize hW hv  e99 rfl (tk tkL_isTableSo 182 rfl) (by decide) (Nat.le_of_ble_eq_true rfl) (fun x hW => ?_)
      refine pw_icmp_ge (tgt := 412) (tk tkL_isTableSo 183 rfl) (by decide) (fun c360 => absurd c360 (nI_ge hil (by omega))) (fun c360 => ?_)
      refine pw_iload_n (tk tkL_isTableSo 184 rfl) rfl ?_
      refine pw_if_eq (tgt := 404) (tk tkL_isTableSo 185 rfl) (by decide) (fun c364 => absurd c364 (by decide)) (fun c364 => ?_)
      refine pw_aload_n (tk tkL_isTableSo 186 rfl) rfl ?_
      refine pw_iload (tk tkL_isTableSo 187 rfl) rfl ?_
      refine rO_loggedDepth hW hv (inR_p e99 hil (by omega)) ((v_log e99 hil (by omega)).2.trans e2) rfl (tk tkL_isTableSo 188 rfl) (by decide) (Nat.le_of_ble_eq_true rfl) (fun x hW => ?_)
      refine pw_if_lt (tgt := 404) (tk tkL_isTableSo 189 rfl) (by decide) (fun c373 => absurd c373 (nI_pos (by omega))) (fun c373 => ?_)
      refine pw_aload_n (tk tkL_isTableSo 190 rfl) rfl ?_
      refine pw_iload (tk tkL_isTableSo 191 rfl) rfl ?_
      refine rO_loggedDepth hW hv (inR_p e99 hil (by omega)) ((v_log e99 hil (by omega)).2.trans e2) rfl (tk tkL_isTableSo 192 rfl) (by decide) (Nat.le_of_ble_eq_true rfl) (fun x hW => ?_)
      refine pw_bipush (v := 6) (tk tkL_isTableSo 193 rfl) (by decide) ?_
      refine pw_icmp_ge (tgt := 404) (tk tkL_isTableSo 194 rfl) (by decide) (fun c384 => absurd c384 (nI_ge (b := 6) hd1 (by decide))) (fun c384 => ?_)
      refine pw_aload_n (tk tkL_isTableSo 195 rfl) rfl ?_
      refine pw_iload (tk tkL_isTableSo 196 rfl) rfl ?_
      refine rO_loggedRule hW hv (inR_p e99 hil (by omega)) ((v_log e99 hil (by omega)).1.trans e1) rfl (tk tkL_isTableSo 197 rfl) (by decide) (Nat.le_of_ble_eq_true rfl) (fun x hW => ?_)
      refine pw_aload_n (tk tkL_isTableSo 198 rfl) rfl ?_
      refine rO_ruleCount hW hv  e25 rfl (tk tkL_isTableSo 199 rfl) (by decide) (Nat.le_of_ble_eq_true rfl) (fun x hW => ?_)
      refine pw_icmp_ge (tgt := 404) (tk tkL_isTableSo 200 rfl) (by decide) (fun c397 => absurd c397 (nI_ge hi1 (by omega))) (fun c397 => ?_)
      refine pw_iconst (v := 1) (tk tkL_isTableSo 201 rfl) (by decide) ?_
      refine pw_goto (tgt := 405) (tk tkL_isTableSo 202 rfl) (by decide) ?_
      refine pw_ist3 (tk tkL_isTableSo 204 rfl) rfl (by decide) ?_
      refine pw_inc4 (tk tkL_isTableSo 205 rfl) rfl (by decide) (nI_1 i) ?_
      refine pw_goto (tgt := 354) (tk tkL_isTableSo 206 rfl) (by decide) ?_
      exact ih (i + 1) (by omega) x hW z5 z6 z7 z8
  have J : ∀ i, i < u → (∀ x, W2 a b w x → ∀ z5 z6 z7 z8, PW ML_isTableSo 31 0 345 [some (.ref 160), some (.int (smN (aS a) 6)), some (.int (mkM (fun i => rcN (aS a) u i 8 i) (i + 1))), some (.int 1), some (.int (nI i)), z5, z6, z7, z8] [] (hp x) (QI 1 (W2 a b w))) → ∀ k j, j + k = u → ∀ x, W2 a b w x → ∀ z8, PW ML_isTableSo 31 0 262 [some (.ref 160), some (.int (smN (aS a) 6)), some (.int (mkM (fun i => rcN (aS a) u i 8 i) (i + 1))), some (.int 1), some (.int (nI i)), some (.int (mkM (rcN (aS a) u i 8) u)), some (.int (nI (cnF (aS a) i l.length))), some (.int (nI j)), z8] [] (hp x) (QI 1 (W2 a b w)) := by
    intro i hiu fin k
    induction k with
    | zero =>
      intro j hj x hW z8
      obtain rfl : j = u := by omega
      refine pw_iload (tk tkL_isTableSo 135 rfl) rfl ?_
      refine pw_aload_n (tk tkL_isTableSo 136 rfl) rfl ?_
      refine rO_ruleCount hW hv  e25 rfl (tk tkL_isTableSo 137 rfl) (by decide) (Nat.le_of_ble_eq_true rfl) (fun x hW => ?_)
      refine pw_icmp_ge (tgt := 345) (tk tkL_isTableSo 138 rfl) (by decide) (fun c268 => ?_) (fun c268 => absurd (Int32.le_refl _) c268)
      exact fin x hW _ _ _ z8
    | succ k ih =>
      intro j hj x hW z8
      have hju : j < u := by omega
      by_cases h : stO (aS a) i j = true
      · refine pw_iload (tk tkL_isTableSo 135 rfl) rfl ?_
        refine pw_aload_n (tk tkL_isTableSo 136 rfl) rfl ?_
        refine rO_ruleCount hW hv  e25 rfl (tk tkL_isTableSo 137 rfl) (by decide) (Nat.le_of_ble_eq_true rfl) (fun x hW => ?_)
        refine pw_icmp_ge (tgt := 345) (tk tkL_isTableSo 138 rfl) (by decide) (fun c268 => absurd c268 (nI_ge hju (by omega))) (fun c268 => ?_)
        refine pw_aload_n (tk tkL_isTableSo 139 rfl) rfl ?_
        refine pw_iload (tk tkL_isTableSo 140 rfl) rfl ?_
        refine pw_iload (tk tkL_isTableSo 141 rfl) rfl ?_
        refine rO_canSetOff hW hv (inR_p e25 hiu (by omega)) (inR_p e25 hju (by omega)) ((v_set e25 hiu hju (by omega)).trans (congrArg bI (h))) rfl (tk tkL_isTableSo 142 rfl) (by decide) (Nat.le_of_ble_eq_true rfl) (fun x hW => ?_)
        refine pw_ist8 (tk tkL_isTableSo 143 rfl) rfl (by decide) ?_
        refine pw_iload_n (tk tkL_isTableSo 144 rfl) rfl ?_
        refine pw_if_eq (tgt := 337) (tk tkL_isTableSo 145 rfl) (by decide) (fun c282 => absurd c282 (by decide)) (fun c282 => ?_)
        refine pw_iload (tk tkL_isTableSo 146 rfl) rfl ?_
        refine pw_if_eq (tgt := 319) (tk tkL_isTableSo 147 rfl) (by decide) (fun c287 => absurd c287 (by decide)) (fun c287 => ?_)
        refine pw_iload (tk tkL_isTableSo 148 rfl) rfl ?_
        refine pw_iload (tk tkL_isTableSo 149 rfl) rfl ?_
        refine pw_ishr (tk tkL_isTableSo 150 rfl) ?_
        refine pw_iconst (v := 1) (tk tkL_isTableSo 151 rfl) (by decide) ?_
        refine pw_iand (tk tkL_isTableSo 152 rfl) ?_
        refine pw_iconst (v := 1) (tk tkL_isTableSo 153 rfl) (by decide) ?_
        refine pw_icmp_ne (tgt := 337) (tk tkL_isTableSo 154 rfl) (by decide) (fun c298 => absurd (mk_bit1 hu8 hju (reach_st hju h hu8).1) c298) (fun c298 => ?_)
        refine pw_iload (tk tkL_isTableSo 155 rfl) rfl ?_
        refine pw_aload_n (tk tkL_isTableSo 156 rfl) rfl ?_
        refine pw_iload (tk tkL_isTableSo 157 rfl) rfl ?_
        refine rO_reachOf hW hv (inR_p e25 hju (by omega)) ((v_rule e25 hju (by omega)).2.2.2.1.trans (by rw [← eu])) rfl (tk tkL_isTableSo 158 rfl) (by decide) (Nat.le_of_ble_eq_true rfl) (fun x hW => ?_)
        refine pw_iand (tk tkL_isTableSo 159 rfl) ?_
        refine pw_aload_n (tk tkL_isTableSo 160 rfl) rfl ?_
        refine pw_iload (tk tkL_isTableSo 161 rfl) rfl ?_
        refine rO_reachOf hW hv (inR_p e25 hju (by omega)) ((v_rule e25 hju (by omega)).2.2.2.1.trans (by rw [← eu])) rfl (tk tkL_isTableSo 162 rfl) (by decide) (Nat.le_of_ble_eq_true rfl) (fun x hW => ?_)
        refine pw_icmp_ne (tgt := 337) (tk tkL_isTableSo 163 rfl) (by decide) (fun c316 => absurd (mk_sub (reach_st hju h hu8).2) c316) (fun c316 => ?_)
        refine pw_iload (tk tkL_isTableSo 164 rfl) rfl ?_
        refine pw_if_eq (tgt := 333) (tk tkL_isTableSo 165 rfl) (by decide) (fun c321 => absurd c321 (by decide)) (fun c321 => ?_)
        refine pw_aload_n (tk tkL_isTableSo 166 rfl) rfl ?_
        refine pw_iload (tk tkL_isTableSo 167 rfl) rfl ?_
        refine rO_isMuted hW hv (inR_p e25 hju (by omega)) ((v_rule e25 hju (by omega)).2.2.1.trans (if_neg (by rw [stO_nm h]; decide))) rfl (tk tkL_isTableSo 168 rfl) (by decide) (Nat.le_of_ble_eq_true rfl) (fun x hW => ?_)
        refine pw_if_ne (tgt := 337) (tk tkL_isTableSo 169 rfl) (by decide) (fun c330 => c330 (by decide) |>.elim) (fun c330 => ?_)
        refine pw_iconst (v := 1) (tk tkL_isTableSo 170 rfl) (by decide) ?_
        refine pw_goto (tgt := 338) (tk tkL_isTableSo 171 rfl) (by decide) ?_
        refine pw_ist3 (tk tkL_isTableSo 173 rfl) rfl (by decide) ?_
        refine pw_inc7 (tk tkL_isTableSo 174 rfl) rfl (by decide) (nI_1 j) ?_
        refine pw_goto (tgt := 262) (tk tkL_isTableSo 175 rfl) (by decide) ?_
        exact ih (j + 1) (by omega) x hW _
      · refine pw_iload (tk tkL_isTableSo 135 rfl) rfl ?_
        refine pw_aload_n (tk tkL_isTableSo 136 rfl) rfl ?_
        refine rO_ruleCount hW hv  e25 rfl (tk tkL_isTableSo 137 rfl) (by decide) (Nat.le_of_ble_eq_true rfl) (fun x hW => ?_)
        refine pw_icmp_ge (tgt := 345) (tk tkL_isTableSo 138 rfl) (by decide) (fun c268 => absurd c268 (nI_ge hju (by omega))) (fun c268 => ?_)
        refine pw_aload_n (tk tkL_isTableSo 139 rfl) rfl ?_
        refine pw_iload (tk tkL_isTableSo 140 rfl) rfl ?_
        refine pw_iload (tk tkL_isTableSo 141 rfl) rfl ?_
        refine rO_canSetOff hW hv (inR_p e25 hiu (by omega)) (inR_p e25 hju (by omega)) ((v_set e25 hiu hju (by omega)).trans (congrArg bI (Bool.eq_false_iff.mpr h))) rfl (tk tkL_isTableSo 142 rfl) (by decide) (Nat.le_of_ble_eq_true rfl) (fun x hW => ?_)
        refine pw_ist8 (tk tkL_isTableSo 143 rfl) rfl (by decide) ?_
        refine pw_iload_n (tk tkL_isTableSo 144 rfl) rfl ?_
        refine pw_if_eq (tgt := 337) (tk tkL_isTableSo 145 rfl) (by decide) (fun c282 => absurd c282 (by decide)) (fun c282 => ?_)
        refine pw_iload (tk tkL_isTableSo 146 rfl) rfl ?_
        refine pw_if_eq (tgt := 319) (tk tkL_isTableSo 147 rfl) (by decide) (fun c287 => ?_) (fun c287 => c287 (by decide) |>.elim)
        refine pw_iload (tk tkL_isTableSo 164 rfl) rfl ?_
        refine pw_if_eq (tgt := 333) (tk tkL_isTableSo 165 rfl) (by decide) (fun c321 => ?_) (fun c321 => c321 (by decide) |>.elim)
        refine pw_iconst (v := 1) (tk tkL_isTableSo 170 rfl) (by decide) ?_
        refine pw_goto (tgt := 338) (tk tkL_isTableSo 171 rfl) (by decide) ?_
        refine pw_ist3 (tk tkL_isTableSo 173 rfl) rfl (by decide) ?_
        refine pw_inc7 (tk tkL_isTableSo 174 rfl) rfl (by decide) (nI_1 j) ?_
        refine pw_goto (tgt := 262) (tk tkL_isTableSo 175 rfl) (by decide) ?_
        exact ih (j + 1) (by omega) x hW _
  have C : ∀ i, i < u → (∀ x, W2 a b w x → ∀ z7 z8, PW ML_isTableSo 31 0 182 [some (.ref 160), some (.int (smN (aS a) 6)), some (.int (mkM (fun i => rcN (aS a) u i 8 i) (i))), some (.int 1), some (.int (nI i)), some (.int (mkM (rcN (aS a) u i 8) u)), some (.int (nI (cnF (aS a) i l.length))), z7, z8] [] (hp x) (QI 1 (W2 a b w))) → ∀ k j, j + k = l.length → ∀ x, W2 a b w x → ∀ z8, PW ML_isTableSo 31 0 146 [some (.ref 160), some (.int (smN (aS a) 6)), some (.int (mkM (fun i => rcN (aS a) u i 8 i) (i))), some (.int 1), some (.int (nI i)), some (.int (mkM (rcN (aS a) u i 8) u)), some (.int (nI (cnF (aS a) i j))), some (.int (nI j)), z8] [] (hp x) (QI 1 (W2 a b w)) := by
    intro i hiu fin k
    induction k with
    | zero =>
      intro j hj x hW z8
      obtain rfl : j = l.length := by omega
      refine pw_iload (tk tkL_isTableSo 75 rfl) rfl ?_
      refine pw_aload_n (tk tkL_isTableSo 76 rfl) rfl ?_
      refine rO_logSize hW hv  e99 rfl (tk tkL_isTableSo 77 rfl) (by decide) (Nat.le_of_ble_eq_true rfl) (fun x hW => ?_)
      refine pw_icmp_ge (tgt := 182) (tk tkL_isTableSo 78 rfl) (by decide) (fun c152 => ?_) (fun c152 => absurd (Int32.le_refl _) c152)
      exact fin x hW _ z8
    | succ k ih =>
      intro j hj x hW z8
      have hjl : j < l.length := by omega
      refine pw_iload (tk tkL_isTableSo 75 rfl) rfl ?_
      refine pw_aload_n (tk tkL_isTableSo 76 rfl) rfl ?_
      refine rO_logSize hW hv  e99 rfl (tk tkL_isTableSo 77 rfl) (by decide) (Nat.le_of_ble_eq_true rfl) (fun x hW => ?_)
      refine pw_icmp_ge (tgt := 182) (tk tkL_isTableSo 78 rfl) (by decide) (fun c152 => absurd c152 (nI_ge hjl (by omega))) (fun c152 => ?_)
      refine pw_iload (tk tkL_isTableSo 79 rfl) rfl ?_
      refine pw_aload_n (tk tkL_isTableSo 80 rfl) rfl ?_
      refine pw_iload (tk tkL_isTableSo 81 rfl) rfl ?_
      refine rO_loggedRule hW hv (inR_p e99 hjl (by omega)) (v_log e99 hjl (by omega)).1 rfl (tk tkL_isTableSo 82 rfl) (by decide) (Nat.le_of_ble_eq_true rfl) (fun x hW => ?_)
      refine pw_iload (tk tkL_isTableSo 83 rfl) rfl ?_
      refine pw_icmp_ne (tgt := 172) (tk tkL_isTableSo 84 rfl) (by decide) (fun c165 => ?_) (fun c165 => ?_)
      · refine pw_iconst (v := 0) (tk tkL_isTableSo 87 rfl) (by decide) ?_
        have ec : nI (cnF (aS a) i j) + 0 = nI (cnF (aS a) i (j + 1)) := by
          show _ = nI (cnF (aS a) i j + (if aS a (100 + j) = nI i then 1 else 0))
          rw [if_neg c165, Nat.add_zero, Int32.add_zero]
        refine pw_iadd (tk tkL_isTableSo 88 rfl) ?_
        rw [ec]
        refine pw_ist6 (tk tkL_isTableSo 89 rfl) rfl (by decide) ?_
        refine pw_inc7 (tk tkL_isTableSo 90 rfl) rfl (by decide) (nI_1 j) ?_
        refine pw_goto (tgt := 146) (tk tkL_isTableSo 91 rfl) (by decide) ?_
        exact ih (j + 1) (by omega) x hW z8
      · refine pw_iconst (v := 1) (tk tkL_isTableSo 85 rfl) (by decide) ?_
        refine pw_goto (tgt := 173) (tk tkL_isTableSo 86 rfl) (by decide) ?_
        have ec : nI (cnF (aS a) i j) + 1 = nI (cnF (aS a) i (j + 1)) := by
          show _ = nI (cnF (aS a) i j + (if aS a (100 + j) = nI i then 1 else 0))
          rw [if_pos c165, nI_1]
        refine pw_iadd (tk tkL_isTableSo 88 rfl) ?_
        rw [ec]
        refine pw_ist6 (tk tkL_isTableSo 89 rfl) rfl (by decide) ?_
        refine pw_inc7 (tk tkL_isTableSo 90 rfl) rfl (by decide) (nI_1 j) ?_
        refine pw_goto (tgt := 146) (tk tkL_isTableSo 91 rfl) (by decide) ?_
        exact ih (j + 1) (by omega) x hW z8
  have Bq : ∀ k i, i + k = u → ∀ x, W2 a b w x → ∀ z5 z6 z7 z8, PW ML_isTableSo 31 0 123 [some (.ref 160), some (.int (smN (aS a) 6)), some (.int (mkM (fun i => rcN (aS a) u i 8 i) (i))), some (.int 1), some (.int (nI i)), z5, z6, z7, z8] [] (hp x) (QI 1 (W2 a b w)) := by
    intro k
    induction k with
    | zero =>
      intro i hi x hW z5 z6 z7 z8
      obtain rfl : i = u := by omega
      refine pw_iload (tk tkL_isTableSo 63 rfl) rfl ?_
      refine pw_aload_n (tk tkL_isTableSo 64 rfl) rfl ?_
      refine rO_ruleCount hW hv  e25 rfl (tk tkL_isTableSo 65 rfl) (by decide) (Nat.le_of_ble_eq_true rfl) (fun x hW => ?_)
      refine pw_icmp_ge (tgt := 351) (tk tkL_isTableSo 66 rfl) (by decide) (fun c129 => ?_) (fun c129 => absurd (Int32.le_refl _) c129)
      refine pw_iconst (v := 0) (tk tkL_isTableSo 178 rfl) (by decide) ?_
      refine pw_ist4 (tk tkL_isTableSo 179 rfl) rfl (by decide) ?_
      exact D l.length 0 (by omega) x hW z5 z6 z7 z8
    | succ k ih =>
      intro i hi x hW z5 z6 z7 z8
      have hiu : i < u := by omega
      obtain ⟨m, hm, em, hcm⟩ := hac i hiu
      have hcl : cnF (aS a) i l.length = cnL i l := by have q := cnF_l lm i l.length (Nat.le_refl _); rw [List.take_length] at q; exact q
      have fin : ∀ x, W2 a b w x → ∀ z5 z6 z7 z8, PW ML_isTableSo 31 0 345 [some (.ref 160), some (.int (smN (aS a) 6)), some (.int (mkM (fun i => rcN (aS a) u i 8 i) (i + 1))), some (.int 1), some (.int (nI i)), z5, z6, z7, z8] [] (hp x) (QI 1 (W2 a b w)) := by
        intro x hW z5 z6 z7 z8
        refine pw_inc4 (tk tkL_isTableSo 176 rfl) rfl (by decide) (nI_1 i) ?_
        refine pw_goto (tgt := 123) (tk tkL_isTableSo 177 rfl) (by decide) ?_
        exact ih (i + 1) (by omega) x hW z5 z6 z7 z8
      have h7 := (hv.2.2.2.2.2 i (by omega)).2.2.2.1
      have h3 := (hv.2.2.2.2.2 i (by omega)).2.2.2.2
      have mid : ∀ x, W2 a b w x → ∀ z7 z8, PW ML_isTableSo 31 0 182 [some (.ref 160), some (.int (smN (aS a) 6)), some (.int (mkM (fun i => rcN (aS a) u i 8 i) (i))), some (.int 1), some (.int (nI i)), some (.int (mkM (rcN (aS a) u i 8) u)), some (.int (nI (cnF (aS a) i l.length))), z7, z8] [] (hp x) (QI 1 (W2 a b w)) := by
        intro x hW z7 z8
        by_cases c7 : rN (aS a) i 7 = 1
        · have off : ¬ rN (aS a) i 7 = 0 ∨ (¬ rN (aS a) i 3 = 2 ∧ ¬ rN (aS a) i 3 = 3) := .inl (by rw [c7]; decide)
          refine pw_iload_n (tk tkL_isTableSo 92 rfl) rfl ?_
          refine pw_iload (tk tkL_isTableSo 93 rfl) rfl ?_
          refine pw_iconst (v := 1) (tk tkL_isTableSo 94 rfl) (by decide) ?_
          refine pw_iload (tk tkL_isTableSo 95 rfl) rfl ?_
          refine pw_ishl (tk tkL_isTableSo 96 rfl) ?_
          refine pw_iand (tk tkL_isTableSo 97 rfl) ?_
          rw [mk_and _ hu8 hiu]
          refine pw_ior (tk tkL_isTableSo 98 rfl) ?_
          refine pw_ist2 (tk tkL_isTableSo 99 rfl) rfl (by decide) ?_
          refine pw_iload_n (tk tkL_isTableSo 100 rfl) rfl ?_
          refine pw_if_eq (tgt := 257) (tk tkL_isTableSo 101 rfl) (by decide) (fun c193 => absurd c193 (by decide)) (fun c193 => ?_)
          refine pw_iload (tk tkL_isTableSo 102 rfl) rfl ?_
          refine pw_aload_n (tk tkL_isTableSo 103 rfl) rfl ?_
          refine pw_iload (tk tkL_isTableSo 104 rfl) rfl ?_
          refine rO_reachByTable hW hv (inR_p e25 hiu (by omega)) ((v_rule e25 hiu (by omega)).2.2.2.2.trans (by rw [← eu])) rfl (tk tkL_isTableSo 105 rfl) (by decide) (Nat.le_of_ble_eq_true rfl) (fun x hW => ?_)
          refine pw_icmp_ne (tgt := 257) (tk tkL_isTableSo 106 rfl) (by decide) (fun c204 => absurd rfl c204) (fun c204 => ?_)
          refine pw_iload (tk tkL_isTableSo 107 rfl) rfl ?_
          refine pw_iconst (v := 1) (tk tkL_isTableSo 108 rfl) (by decide) ?_
          refine pw_aload_n (tk tkL_isTableSo 109 rfl) rfl ?_
          refine rO_ruleCount hW hv  e25 rfl (tk tkL_isTableSo 110 rfl) (by decide) (Nat.le_of_ble_eq_true rfl) (fun x hW => ?_)
          refine pw_ishl (tk tkL_isTableSo 111 rfl) ?_
          refine pw_icmp_ge (tgt := 257) (tk tkL_isTableSo 112 rfl) (by decide) (fun c215 => absurd c215 (mk_lt _ hu8)) (fun c215 => ?_)
          refine pw_iload (tk tkL_isTableSo 113 rfl) rfl ?_
          refine pw_aload_n (tk tkL_isTableSo 114 rfl) rfl ?_
          refine pw_iload (tk tkL_isTableSo 115 rfl) rfl ?_
          refine rO_actsOf hW hv (inR_p e25 hiu (by omega)) ((v_rule e25 hiu (by omega)).2.1.trans em) rfl (tk tkL_isTableSo 116 rfl) (by decide) (Nat.le_of_ble_eq_true rfl) (fun x hW => ?_)
          refine pw_icmp_gt (tgt := 257) (tk tkL_isTableSo 117 rfl) (by decide) (fun c226 => absurd c226 (nI_nlt (by omega) (by omega))) (fun c226 => ?_)
          refine pw_aload_n (tk tkL_isTableSo 118 rfl) rfl ?_
          refine pw_iload (tk tkL_isTableSo 119 rfl) rfl ?_
          refine rO_isMuted hW hv (inR_p e25 hiu (by omega)) ((v_rule e25 hiu (by omega)).2.2.1.trans (if_pos c7)) rfl (tk tkL_isTableSo 120 rfl) (by decide) (Nat.le_of_ble_eq_true rfl) (fun x hW => ?_)
          refine pw_if_ne (tgt := 248) (tk tkL_isTableSo 121 rfl) (by decide) (fun c235 => ?_) (fun c235 => absurd c235 (by decide))
          refine pw_iload (tk tkL_isTableSo 127 rfl) rfl ?_
          refine pw_if_ne (tgt := 257) (tk tkL_isTableSo 128 rfl) (by decide) (fun c250 => absurd (reach_off (s := aS a) (u := u) (i := i) off) c250) (fun c250 => ?_)
          refine pw_iconst (v := 1) (tk tkL_isTableSo 129 rfl) (by decide) ?_
          refine pw_goto (tgt := 258) (tk tkL_isTableSo 130 rfl) (by decide) ?_
          refine pw_ist3 (tk tkL_isTableSo 132 rfl) rfl (by decide) ?_
          refine pw_iconst (v := 0) (tk tkL_isTableSo 133 rfl) (by decide) ?_
          refine pw_ist7 (tk tkL_isTableSo 134 rfl) rfl (by decide) ?_
          exact J i hiu fin u 0 (by omega) x hW z8
        · by_cases c3 : rN (aS a) i 3 = 0 ∨ rN (aS a) i 3 = 1
          · have off : ¬ rN (aS a) i 7 = 0 ∨ (¬ rN (aS a) i 3 = 2 ∧ ¬ rN (aS a) i 3 = 3) := .inr (by rcases c3 with q | q <;> rw [q] <;> decide)
            refine pw_iload_n (tk tkL_isTableSo 92 rfl) rfl ?_
            refine pw_iload (tk tkL_isTableSo 93 rfl) rfl ?_
            refine pw_iconst (v := 1) (tk tkL_isTableSo 94 rfl) (by decide) ?_
            refine pw_iload (tk tkL_isTableSo 95 rfl) rfl ?_
            refine pw_ishl (tk tkL_isTableSo 96 rfl) ?_
            refine pw_iand (tk tkL_isTableSo 97 rfl) ?_
            rw [mk_and _ hu8 hiu]
            refine pw_ior (tk tkL_isTableSo 98 rfl) ?_
            refine pw_ist2 (tk tkL_isTableSo 99 rfl) rfl (by decide) ?_
            refine pw_iload_n (tk tkL_isTableSo 100 rfl) rfl ?_
            refine pw_if_eq (tgt := 257) (tk tkL_isTableSo 101 rfl) (by decide) (fun c193 => absurd c193 (by decide)) (fun c193 => ?_)
            refine pw_iload (tk tkL_isTableSo 102 rfl) rfl ?_
            refine pw_aload_n (tk tkL_isTableSo 103 rfl) rfl ?_
            refine pw_iload (tk tkL_isTableSo 104 rfl) rfl ?_
            refine rO_reachByTable hW hv (inR_p e25 hiu (by omega)) ((v_rule e25 hiu (by omega)).2.2.2.2.trans (by rw [← eu])) rfl (tk tkL_isTableSo 105 rfl) (by decide) (Nat.le_of_ble_eq_true rfl) (fun x hW => ?_)
            refine pw_icmp_ne (tgt := 257) (tk tkL_isTableSo 106 rfl) (by decide) (fun c204 => absurd rfl c204) (fun c204 => ?_)
            refine pw_iload (tk tkL_isTableSo 107 rfl) rfl ?_
            refine pw_iconst (v := 1) (tk tkL_isTableSo 108 rfl) (by decide) ?_
            refine pw_aload_n (tk tkL_isTableSo 109 rfl) rfl ?_
            refine rO_ruleCount hW hv  e25 rfl (tk tkL_isTableSo 110 rfl) (by decide) (Nat.le_of_ble_eq_true rfl) (fun x hW => ?_)
            refine pw_ishl (tk tkL_isTableSo 111 rfl) ?_
            refine pw_icmp_ge (tgt := 257) (tk tkL_isTableSo 112 rfl) (by decide) (fun c215 => absurd c215 (mk_lt _ hu8)) (fun c215 => ?_)
            refine pw_iload (tk tkL_isTableSo 113 rfl) rfl ?_
            refine pw_aload_n (tk tkL_isTableSo 114 rfl) rfl ?_
            refine pw_iload (tk tkL_isTableSo 115 rfl) rfl ?_
            refine rO_actsOf hW hv (inR_p e25 hiu (by omega)) ((v_rule e25 hiu (by omega)).2.1.trans em) rfl (tk tkL_isTableSo 116 rfl) (by decide) (Nat.le_of_ble_eq_true rfl) (fun x hW => ?_)
            refine pw_icmp_gt (tgt := 257) (tk tkL_isTableSo 117 rfl) (by decide) (fun c226 => absurd c226 (nI_nlt (by omega) (by omega))) (fun c226 => ?_)
            refine pw_aload_n (tk tkL_isTableSo 118 rfl) rfl ?_
            refine pw_iload (tk tkL_isTableSo 119 rfl) rfl ?_
            refine rO_isMuted hW hv (inR_p e25 hiu (by omega)) ((v_rule e25 hiu (by omega)).2.2.1.trans (if_neg c7)) rfl (tk tkL_isTableSo 120 rfl) (by decide) (Nat.le_of_ble_eq_true rfl) (fun x hW => ?_)
            refine pw_if_ne (tgt := 248) (tk tkL_isTableSo 121 rfl) (by decide) (fun c235 => c235 (by decide) |>.elim) (fun c235 => ?_)
            refine pw_aload_n (tk tkL_isTableSo 122 rfl) rfl ?_
            refine pw_iload (tk tkL_isTableSo 123 rfl) rfl ?_
            refine rO_actionOf hW hv (inR_p e25 hiu (by omega)) (v_rule e25 hiu (by omega)).1 rfl (tk tkL_isTableSo 124 rfl) (by decide) (Nat.le_of_ble_eq_true rfl) (fun x hW => ?_)
            refine pw_iconst (v := 1) (tk tkL_isTableSo 125 rfl) (by decide) ?_
            refine pw_icmp_gt (tgt := 253) (tk tkL_isTableSo 126 rfl) (by decide) (fun c245 => absurd c245 (by rcases c3 with q | q <;> rw [q] <;> decide)) (fun c245 => ?_)
            refine pw_iload (tk tkL_isTableSo 127 rfl) rfl ?_
            refine pw_if_ne (tgt := 257) (tk tkL_isTableSo 128 rfl) (by decide) (fun c250 => absurd (reach_off (s := aS a) (u := u) (i := i) off) c250) (fun c250 => ?_)
            refine pw_iconst (v := 1) (tk tkL_isTableSo 129 rfl) (by decide) ?_
            refine pw_goto (tgt := 258) (tk tkL_isTableSo 130 rfl) (by decide) ?_
            refine pw_ist3 (tk tkL_isTableSo 132 rfl) rfl (by decide) ?_
            refine pw_iconst (v := 0) (tk tkL_isTableSo 133 rfl) (by decide) ?_
            refine pw_ist7 (tk tkL_isTableSo 134 rfl) rfl (by decide) ?_
            exact J i hiu fin u 0 (by omega) x hW z8
          · have c3 : rN (aS a) i 3 = 2 ∨ rN (aS a) i 3 = 3 := by rcases h3 with q | q | q | q; exact absurd (.inl q) c3; exact absurd (.inr q) c3; exact .inl q; exact .inr q
            refine pw_iload_n (tk tkL_isTableSo 92 rfl) rfl ?_
            refine pw_iload (tk tkL_isTableSo 93 rfl) rfl ?_
            refine pw_iconst (v := 1) (tk tkL_isTableSo 94 rfl) (by decide) ?_
            refine pw_iload (tk tkL_isTableSo 95 rfl) rfl ?_
            refine pw_ishl (tk tkL_isTableSo 96 rfl) ?_
            refine pw_iand (tk tkL_isTableSo 97 rfl) ?_
            rw [mk_and _ hu8 hiu]
            refine pw_ior (tk tkL_isTableSo 98 rfl) ?_
            refine pw_ist2 (tk tkL_isTableSo 99 rfl) rfl (by decide) ?_
            refine pw_iload_n (tk tkL_isTableSo 100 rfl) rfl ?_
            refine pw_if_eq (tgt := 257) (tk tkL_isTableSo 101 rfl) (by decide) (fun c193 => absurd c193 (by decide)) (fun c193 => ?_)
            refine pw_iload (tk tkL_isTableSo 102 rfl) rfl ?_
            refine pw_aload_n (tk tkL_isTableSo 103 rfl) rfl ?_
            refine pw_iload (tk tkL_isTableSo 104 rfl) rfl ?_
            refine rO_reachByTable hW hv (inR_p e25 hiu (by omega)) ((v_rule e25 hiu (by omega)).2.2.2.2.trans (by rw [← eu])) rfl (tk tkL_isTableSo 105 rfl) (by decide) (Nat.le_of_ble_eq_true rfl) (fun x hW => ?_)
            refine pw_icmp_ne (tgt := 257) (tk tkL_isTableSo 106 rfl) (by decide) (fun c204 => absurd rfl c204) (fun c204 => ?_)
            refine pw_iload (tk tkL_isTableSo 107 rfl) rfl ?_
            refine pw_iconst (v := 1) (tk tkL_isTableSo 108 rfl) (by decide) ?_
            refine pw_aload_n (tk tkL_isTableSo 109 rfl) rfl ?_
            refine rO_ruleCount hW hv  e25 rfl (tk tkL_isTableSo 110 rfl) (by decide) (Nat.le_of_ble_eq_true rfl) (fun x hW => ?_)
            refine pw_ishl (tk tkL_isTableSo 111 rfl) ?_
            refine pw_icmp_ge (tgt := 257) (tk tkL_isTableSo 112 rfl) (by decide) (fun c215 => absurd c215 (mk_lt _ hu8)) (fun c215 => ?_)
            refine pw_iload (tk tkL_isTableSo 113 rfl) rfl ?_
            refine pw_aload_n (tk tkL_isTableSo 114 rfl) rfl ?_
            refine pw_iload (tk tkL_isTableSo 115 rfl) rfl ?_
            refine rO_actsOf hW hv (inR_p e25 hiu (by omega)) ((v_rule e25 hiu (by omega)).2.1.trans em) rfl (tk tkL_isTableSo 116 rfl) (by decide) (Nat.le_of_ble_eq_true rfl) (fun x hW => ?_)
            refine pw_icmp_gt (tgt := 257) (tk tkL_isTableSo 117 rfl) (by decide) (fun c226 => absurd c226 (nI_nlt (by omega) (by omega))) (fun c226 => ?_)
            refine pw_aload_n (tk tkL_isTableSo 118 rfl) rfl ?_
            refine pw_iload (tk tkL_isTableSo 119 rfl) rfl ?_
            refine rO_isMuted hW hv (inR_p e25 hiu (by omega)) ((v_rule e25 hiu (by omega)).2.2.1.trans (if_neg c7)) rfl (tk tkL_isTableSo 120 rfl) (by decide) (Nat.le_of_ble_eq_true rfl) (fun x hW => ?_)
            refine pw_if_ne (tgt := 248) (tk tkL_isTableSo 121 rfl) (by decide) (fun c235 => c235 (by decide) |>.elim) (fun c235 => ?_)
            refine pw_aload_n (tk tkL_isTableSo 122 rfl) rfl ?_
            refine pw_iload (tk tkL_isTableSo 123 rfl) rfl ?_
            refine rO_actionOf hW hv (inR_p e25 hiu (by omega)) (v_rule e25 hiu (by omega)).1 rfl (tk tkL_isTableSo 124 rfl) (by decide) (Nat.le_of_ble_eq_true rfl) (fun x hW => ?_)
            refine pw_iconst (v := 1) (tk tkL_isTableSo 125 rfl) (by decide) ?_
            refine pw_icmp_gt (tgt := 253) (tk tkL_isTableSo 126 rfl) (by decide) (fun c245 => ?_) (fun c245 => absurd (by rcases c3 with q | q <;> rw [q] <;> decide) c245)
            refine pw_iconst (v := 1) (tk tkL_isTableSo 129 rfl) (by decide) ?_
            refine pw_goto (tgt := 258) (tk tkL_isTableSo 130 rfl) (by decide) ?_
            refine pw_ist3 (tk tkL_isTableSo 132 rfl) rfl (by decide) ?_
            refine pw_iconst (v := 0) (tk tkL_isTableSo 133 rfl) (by decide) ?_
            refine pw_ist7 (tk tkL_isTableSo 134 rfl) rfl (by decide) ?_
            exact J i hiu fin u 0 (by omega) x hW z8
      refine pw_iload (tk tkL_isTableSo 63 rfl) rfl ?_
      refine pw_aload_n (tk tkL_isTableSo 64 rfl) rfl ?_
      refine rO_ruleCount hW hv  e25 rfl (tk tkL_isTableSo 65 rfl) (by decide) (Nat.le_of_ble_eq_true rfl) (fun x hW => ?_)
      refine pw_icmp_ge (tgt := 351) (tk tkL_isTableSo 66 rfl) (by decide) (fun c129 => absurd c129 (nI_ge hiu (by omega))) (fun c129 => ?_)
      refine pw_aload_n (tk tkL_isTableSo 67 rfl) rfl ?_
      refine pw_iload (tk tkL_isTableSo 68 rfl) rfl ?_
      refine rO_reachOf hW hv (inR_p e25 hiu (by omega)) ((v_rule e25 hiu (by omega)).2.2.2.1.trans (by rw [← eu])) rfl (tk tkL_isTableSo 69 rfl) (by decide) (Nat.le_of_ble_eq_true rfl) (fun x hW => ?_)
      refine pw_ist5 (tk tkL_isTableSo 70 rfl) rfl (by decide) ?_
      refine pw_iconst (v := 0) (tk tkL_isTableSo 71 rfl) (by decide) ?_
      refine pw_ist6 (tk tkL_isTableSo 72 rfl) rfl (by decide) ?_
      refine pw_iconst (v := 0) (tk tkL_isTableSo 73 rfl) (by decide) ?_
      refine pw_ist7 (tk tkL_isTableSo 74 rfl) rfl (by decide) ?_
      exact C i hiu mid l.length 0 (by omega) x hW z8
  have K : ∀ i, i < 6 → (∀ x, W2 a b w x → ∀ z5 z6 z7 z8, PW ML_isTableSo 31 0 114 [some (.ref 160), some (.int (smN (aS a) (i + 1))), some (.int (0)), some (.int 1), some (.int (nI i)), z5, z6, z7, z8] [] (hp x) (QI 1 (W2 a b w))) → ∀ k j, j + k = 3 → ∀ x, W2 a b w x → ∀ z6 z7 z8, PW ML_isTableSo 31 0 58 [some (.ref 160), some (.int (smN (aS a) (i + 1))), some (.int (0)), some (.int 1), some (.int (nI i)), some (.int (nI j)), z6, z7, z8] [] (hp x) (QI 1 (W2 a b w)) := by
    intro i hi6 fin k
    induction k with
    | zero =>
      intro j hj x hW z6 z7 z8
      obtain rfl : j = 3 := by omega
      refine pw_iload (tk tkL_isTableSo 33 rfl) rfl ?_
      refine pw_iconst (v := 3) (tk tkL_isTableSo 34 rfl) (by decide) ?_
      refine pw_icmp_ge (tgt := 114) (tk tkL_isTableSo 35 rfl) (by decide) (fun c61 => ?_) (fun c61 => absurd (Int32.le_refl _) c61)
      exact fin x hW _ z6 z7 z8
    | succ k ih =>
      intro j hj x hW z6 z7 z8
      have hj3 : j < 3 := by omega
      by_cases h0 : aS a i = 1
      · refine pw_iload (tk tkL_isTableSo 33 rfl) rfl ?_
        refine pw_iconst (v := 3) (tk tkL_isTableSo 34 rfl) (by decide) ?_
        refine pw_icmp_ge (tgt := 114) (tk tkL_isTableSo 35 rfl) (by decide) (fun c61 => absurd c61 (nI_ge (b := 3) hj3 (by decide))) (fun c61 => ?_)
        refine pw_aload_n (tk tkL_isTableSo 36 rfl) rfl ?_
        refine pw_iload (tk tkL_isTableSo 37 rfl) rfl ?_
        refine rO_hasRow hW hv (inR_r (n := 5) (by omega) (by decide)) ((v_hasRow hi6).trans (if_pos h0)) rfl (tk tkL_isTableSo 38 rfl) (by decide) (Nat.le_of_ble_eq_true rfl) (fun x hW => ?_)
        refine pw_if_eq (tgt := 114) (tk tkL_isTableSo 39 rfl) (by decide) (fun c70 => absurd c70 (by decide)) (fun c70 => ?_)
        obtain ⟨k1, hk1, e1⟩ := hval i hi6 h0 j hj3
        refine pw_iload_n (tk tkL_isTableSo 40 rfl) rfl ?_
        refine pw_if_eq (tgt := 106) (tk tkL_isTableSo 41 rfl) (by decide) (fun c74 => absurd c74 (by decide)) (fun c74 => ?_)
        refine pw_aload_n (tk tkL_isTableSo 42 rfl) rfl ?_
        refine pw_iload (tk tkL_isTableSo 43 rfl) rfl ?_
        refine pw_iload (tk tkL_isTableSo 44 rfl) rfl ?_
        refine rO_valueAt hW hv (inR_r (n := 5) (by omega) (by decide)) (inR_r (n := 2) (by omega) (by decide)) (by rw [nI_clamp (by omega), h0]; decide) ((v_valueAt hi6 hj3 (by rw [h0]; decide)).trans e1) rfl (tk tkL_isTableSo 45 rfl) (by decide) (Nat.le_of_ble_eq_true rfl) (fun x hW => ?_)
        refine pw_if_lt (tgt := 106) (tk tkL_isTableSo 46 rfl) (by decide) (fun c85 => absurd c85 (nI_pos (by omega))) (fun c85 => ?_)
        refine pw_aload_n (tk tkL_isTableSo 47 rfl) rfl ?_
        refine pw_iload (tk tkL_isTableSo 48 rfl) rfl ?_
        refine pw_iload (tk tkL_isTableSo 49 rfl) rfl ?_
        refine rO_valueAt hW hv (inR_r (n := 5) (by omega) (by decide)) (inR_r (n := 2) (by omega) (by decide)) (by rw [nI_clamp (by omega), h0]; decide) ((v_valueAt hi6 hj3 (by rw [h0]; decide)).trans e1) rfl (tk tkL_isTableSo 50 rfl) (by decide) (Nat.le_of_ble_eq_true rfl) (fun x hW => ?_)
        refine pw_sipush (v := 1000) (tk tkL_isTableSo 51 rfl) (by decide) ?_
        refine pw_icmp_ge (tgt := 106) (tk tkL_isTableSo 52 rfl) (by decide) (fun c99 => absurd c99 (nI_ge (b := 1000) hk1 (by decide))) (fun c99 => ?_)
        refine pw_iconst (v := 1) (tk tkL_isTableSo 53 rfl) (by decide) ?_
        refine pw_goto (tgt := 107) (tk tkL_isTableSo 54 rfl) (by decide) ?_
        refine pw_ist3 (tk tkL_isTableSo 56 rfl) rfl (by decide) ?_
        refine pw_inc5 (tk tkL_isTableSo 57 rfl) rfl (by decide) (nI_1 j) ?_
        refine pw_goto (tgt := 58) (tk tkL_isTableSo 58 rfl) (by decide) ?_
        exact ih (j + 1) (by omega) x hW z6 z7 z8
      · refine pw_iload (tk tkL_isTableSo 33 rfl) rfl ?_
        refine pw_iconst (v := 3) (tk tkL_isTableSo 34 rfl) (by decide) ?_
        refine pw_icmp_ge (tgt := 114) (tk tkL_isTableSo 35 rfl) (by decide) (fun c61 => absurd c61 (nI_ge (b := 3) hj3 (by decide))) (fun c61 => ?_)
        refine pw_aload_n (tk tkL_isTableSo 36 rfl) rfl ?_
        refine pw_iload (tk tkL_isTableSo 37 rfl) rfl ?_
        refine rO_hasRow hW hv (inR_r (n := 5) (by omega) (by decide)) ((v_hasRow hi6).trans (if_neg h0)) rfl (tk tkL_isTableSo 38 rfl) (by decide) (Nat.le_of_ble_eq_true rfl) (fun x hW => ?_)
        refine pw_if_eq (tgt := 114) (tk tkL_isTableSo 39 rfl) (by decide) (fun c70 => ?_) (fun c70 => c70 (by decide) |>.elim)
        exact fin x hW _ z6 z7 z8
  have A1 : ∀ k i, i + k = 6 → ∀ x, W2 a b w x → ∀ z5 z6 z7 z8, PW ML_isTableSo 31 0 31 [some (.ref 160), some (.int (smN (aS a) i)), some (.int (0)), some (.int 1), some (.int (nI i)), z5, z6, z7, z8] [] (hp x) (QI 1 (W2 a b w)) := by
    intro k
    induction k with
    | zero =>
      intro i hi x hW z5 z6 z7 z8
      obtain rfl : i = 6 := by omega
      refine pw_iload (tk tkL_isTableSo 18 rfl) rfl ?_
      refine pw_bipush (v := 6) (tk tkL_isTableSo 19 rfl) (by decide) ?_
      refine pw_icmp_ge (tgt := 120) (tk tkL_isTableSo 20 rfl) (by decide) (fun c35 => ?_) (fun c35 => absurd (Int32.le_refl _) c35)
      refine pw_iconst (v := 0) (tk tkL_isTableSo 61 rfl) (by decide) ?_
      refine pw_ist4 (tk tkL_isTableSo 62 rfl) rfl (by decide) ?_
      exact Bq u 0 (by omega) x hW z5 z6 z7 z8
    | succ k ih =>
      intro i hi x hW z5 z6 z7 z8
      have hi6 : i < 6 := by omega
      have fin : ∀ x, W2 a b w x → ∀ z5 z6 z7 z8, PW ML_isTableSo 31 0 114 [some (.ref 160), some (.int (smN (aS a) (i + 1))), some (.int (0)), some (.int 1), some (.int (nI i)), z5, z6, z7, z8] [] (hp x) (QI 1 (W2 a b w)) := by
        intro x hW z5 z6 z7 z8
        refine pw_inc4 (tk tkL_isTableSo 59 rfl) rfl (by decide) (nI_1 i) ?_
        refine pw_goto (tgt := 31) (tk tkL_isTableSo 60 rfl) (by decide) ?_
        exact ih (i + 1) (by omega) x hW z5 z6 z7 z8
      by_cases h0 : aS a i = 1
      · refine pw_iload (tk tkL_isTableSo 18 rfl) rfl ?_
        refine pw_bipush (v := 6) (tk tkL_isTableSo 19 rfl) (by decide) ?_
        refine pw_icmp_ge (tgt := 120) (tk tkL_isTableSo 20 rfl) (by decide) (fun c35 => absurd c35 (nI_ge (b := 6) hi6 (by decide))) (fun c35 => ?_)
        refine pw_iload_n (tk tkL_isTableSo 21 rfl) rfl ?_
        refine pw_aload_n (tk tkL_isTableSo 22 rfl) rfl ?_
        refine pw_iload (tk tkL_isTableSo 23 rfl) rfl ?_
        refine rO_hasRow hW hv (inR_r (n := 5) (by omega) (by decide)) ((v_hasRow hi6).trans (if_pos h0)) rfl (tk tkL_isTableSo 24 rfl) (by decide) (Nat.le_of_ble_eq_true rfl) (fun x hW => ?_)
        refine pw_if_eq (tgt := 52) (tk tkL_isTableSo 25 rfl) (by decide) (fun c45 => absurd c45 (by decide)) (fun c45 => ?_)
        refine pw_iconst (v := 1) (tk tkL_isTableSo 26 rfl) (by decide) ?_
        refine pw_goto (tgt := 53) (tk tkL_isTableSo 27 rfl) (by decide) ?_
        refine pw_iadd (tk tkL_isTableSo 29 rfl) ?_
        rw [show smN (aS a) i + 1 = smN (aS a) (i + 1) from by show _ = smN (aS a) i + aS a i; rw [h0]]
        refine pw_ist1 (tk tkL_isTableSo 30 rfl) rfl (by decide) ?_
        refine pw_iconst (v := 0) (tk tkL_isTableSo 31 rfl) (by decide) ?_
        refine pw_ist5 (tk tkL_isTableSo 32 rfl) rfl (by decide) ?_
        exact K i hi6 fin 3 0 (by omega) x hW z6 z7 z8
      · refine pw_iload (tk tkL_isTableSo 18 rfl) rfl ?_
        refine pw_bipush (v := 6) (tk tkL_isTableSo 19 rfl) (by decide) ?_
        refine pw_icmp_ge (tgt := 120) (tk tkL_isTableSo 20 rfl) (by decide) (fun c35 => absurd c35 (nI_ge (b := 6) hi6 (by decide))) (fun c35 => ?_)
        refine pw_iload_n (tk tkL_isTableSo 21 rfl) rfl ?_
        refine pw_aload_n (tk tkL_isTableSo 22 rfl) rfl ?_
        refine pw_iload (tk tkL_isTableSo 23 rfl) rfl ?_
        refine rO_hasRow hW hv (inR_r (n := 5) (by omega) (by decide)) ((v_hasRow hi6).trans (if_neg h0)) rfl (tk tkL_isTableSo 24 rfl) (by decide) (Nat.le_of_ble_eq_true rfl) (fun x hW => ?_)
        refine pw_if_eq (tgt := 52) (tk tkL_isTableSo 25 rfl) (by decide) (fun c45 => ?_) (fun c45 => c45 (by decide) |>.elim)
        refine pw_iconst (v := 0) (tk tkL_isTableSo 28 rfl) (by decide) ?_
        refine pw_iadd (tk tkL_isTableSo 29 rfl) ?_
        rw [show smN (aS a) i + 0 = smN (aS a) (i + 1) from by show _ = smN (aS a) i + aS a i; rw [(h01 i hi6).resolve_right h0]]
        refine pw_ist1 (tk tkL_isTableSo 30 rfl) rfl (by decide) ?_
        refine pw_iconst (v := 0) (tk tkL_isTableSo 31 rfl) (by decide) ?_
        refine pw_ist5 (tk tkL_isTableSo 32 rfl) rfl (by decide) ?_
        exact K i hi6 fin 3 0 (by omega) x hW z6 z7 z8
  refine pw_iconst (v := 0) (tk tkL_isTableSo 0 rfl) (by decide) ?_
  refine pw_ist1 (tk tkL_isTableSo 1 rfl) rfl (by decide) ?_
  refine pw_iconst (v := 0) (tk tkL_isTableSo 2 rfl) (by decide) ?_
  refine pw_ist2 (tk tkL_isTableSo 3 rfl) rfl (by decide) ?_
  refine pw_aload_n (tk tkL_isTableSo 4 rfl) rfl ?_
  refine rO_ruleCount hW hv  e25 rfl (tk tkL_isTableSo 5 rfl) (by decide) (Nat.le_of_ble_eq_true rfl) (fun x hW => ?_)
  refine pw_bipush (v := 8) (tk tkL_isTableSo 6 rfl) (by decide) ?_
  refine pw_icmp_gt (tgt := 26) (tk tkL_isTableSo 7 rfl) (by decide) (fun c10 => absurd c10 (nI_nlt (a := 8) (by omega) (by decide))) (fun c10 => ?_)
  refine pw_aload_n (tk tkL_isTableSo 8 rfl) rfl ?_
  refine rO_logSize hW hv  e99 rfl (tk tkL_isTableSo 9 rfl) (by decide) (Nat.le_of_ble_eq_true rfl) (fun x hW => ?_)
  refine pw_bipush (v := 16) (tk tkL_isTableSo 10 rfl) (by decide) ?_
  refine pw_icmp_gt (tgt := 26) (tk tkL_isTableSo 11 rfl) (by decide) (fun c19 => absurd c19 (nI_nlt (a := 16) (by omega) (by decide))) (fun c19 => ?_)
  refine pw_iconst (v := 1) (tk tkL_isTableSo 12 rfl) (by decide) ?_
  refine pw_goto (tgt := 27) (tk tkL_isTableSo 13 rfl) (by decide) ?_
  refine pw_ist3 (tk tkL_isTableSo 15 rfl) rfl (by decide) ?_
  refine pw_iconst (v := 0) (tk tkL_isTableSo 16 rfl) (by decide) ?_
  refine pw_ist4 (tk tkL_isTableSo 17 rfl) rfl (by decide) ?_
  exact A1 6 0 (by omega) x hW _ _ _ _
