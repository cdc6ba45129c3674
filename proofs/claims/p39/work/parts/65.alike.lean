/-! ===== TWO OBJECTS THAT HOLD THE SAME NUMBERS ARE ALIKE ===== -/
theorem inR_r {r n : Nat} (h : r ≤ n) (hn : n < 2 ^ 31) : inR (nI r) 0 (nI n) = true := inR_t h hn
/-- a rule's, an act's number is in range -/
theorem inR_p {s : ST} {k i u : Nat} (e : s k = nI u) (h : i < u) (hu : u < 1000) : inR (nI i) 0 (s k - 1) = true := by
  rw [e, show nI u - 1 = nI (u - 1) from pk_sub (b := 1) (by omega)]
  exact inR_t (by omega) (by omega)
theorem v_hasRow {a : AM} {r : Nat} (hr : r < 6) : (shasRow a (nI r)).2.1 = if aS a r = 1 then 1 else 0 := by
  unfold shasRow
  rw [if_neg (ne_f (show inR (nI r) 0 5 = true from inR_t (n := 5) (by omega) (by decide))), nI_clamp (by omega)]
  split <;> rfl
theorem v_valueAt {a : AM} {r c : Nat} (hr : r < 6) (hc : c < 3) (h : ¬ aS a r = 0) : (svalueAt a (nI r) (nI c)).2.1 = aS a (6 + 3 * r + c) := by
  unfold svalueAt
  rw [if_neg (ne_f (show inR (nI r) 0 5 = true from inR_t (n := 5) (by omega) (by decide))), if_neg (ne_f (show inR (nI c) 0 2 = true from inR_t (n := 2) (by omega) (by decide))), nI_clamp (by omega), nI_clamp (by omega), if_neg h]
theorem v_rule {a : AM} {i u : Nat} (e : aS a 25 = nI u) (h : i < u) (hu : u < 1000) : (sactionOf a (nI i)).2.1 = rN (aS a) i 3 ∧ (sactsOf a (nI i)).2.1 = rN (aS a) i 8 ∧ (sisMuted a (nI i)).2.1 = (if rN (aS a) i 7 = 1 then 1 else 0) ∧ (sreachOf a (nI i)).2.1 = mkM (rcN (aS a) (uN (aS a)) i 8) (uN (aS a)) ∧ (sreachByTable a (nI i)).2.1 = mkM (rcN (aS a) (uN (aS a)) i 8) (uN (aS a)) := by
  have q := ne_f (inR_p e h hu)
  unfold sactionOf sactsOf sisMuted sreachByTable sreachOf
  rw [if_neg q, if_neg q, if_neg q, if_neg q, nI_clamp (by omega)]
  exact ⟨rfl, rfl, by split <;> rfl, rfl, rfl⟩
theorem v_log {a : AM} {i u : Nat} (e : aS a 99 = nI u) (h : i < u) (hu : u < 1000) : (sloggedRule a (nI i)).2.1 = aS a (100 + i) ∧ (sloggedDepth a (nI i)).2.1 = aS a (116 + i) := by
  have q := ne_f (inR_p e h hu)
  unfold sloggedRule sloggedDepth
  rw [if_neg q, if_neg q, nI_clamp (by omega)]
  exact ⟨rfl, rfl⟩
theorem v_set {a : AM} {i j u : Nat} (e : aS a 25 = nI u) (h : i < u) (h2 : j < u) (hu : u < 1000) : (scanSetOff a (nI i) (nI j)).2.1 = bI (stO (aS a) i j) := by
  unfold scanSetOff
  rw [if_neg (ne_f (inR_p e h hu)), if_neg (ne_f (inR_p e h2 hu)), nI_clamp (by omega), nI_clamp (by omega)]
set_option maxRecDepth 100000 in
set_option maxHeartbeats 4000000 in
theorem ct_L_areAlike (x : XW) {a b : AM} {w : Int32} (hW : W2 a b w x) (hv : VS (uN (aS a)) (aS a)) (hab : aS b = aS a) : CT ML_areAlike 31 0 [.ref 160, .ref 416] (hp x) (QI 1 (W2 a b w)) := by
  refine ct_of (by decide +kernel) (by decide) rfl (k := 3) (ls := [some (.ref 160), some (.ref 416), none, none, none]) rfl (Nat.le_of_ble_eq_true rfl) ?_
  have hv2 : VS (uN (aS b)) (aS b) := by rw [hab]; exact hv
  obtain ⟨u, eu⟩ : ∃ u, u = uN (aS a) := ⟨_, rfl⟩
  have hu8 := hv.1
  have h01 := hv.2.2.2.2.1
  have ea25 : aS a 25 = nI u := by rw [eu]; exact hv.2.1
  have eb25 : aS b 25 = nI u := by rw [hab]; exact ea25
  obtain ⟨l, hl, ea99⟩ := hv.2.2.2.1
  have eb99 : aS b 99 = nI l := by rw [hab]; exact ea99
  rw [← eu] at hu8
  have L4 : ∀ k i, i + k = l → ∀ x, W2 a b w x → ∀ z, PW ML_areAlike 31 0 215 [some (.ref 160), some (.ref 416), some (.int 1), some (.int (nI i)), z] [] (hp x) (QI 1 (W2 a b w)) := by
    intro k
    induction k with
    | zero =>
      intro i hi x hW z
      obtain rfl : i = l := by omega
      refine pw_iload_n (tk tkL_areAlike 112 rfl) rfl ?_
      refine pw_aload_n (tk tkL_areAlike 113 rfl) rfl ?_
      refine rO_logSize hW hv  ea99 rfl (tk tkL_areAlike 114 rfl) (by decide) (Nat.le_of_ble_eq_true rfl) (fun x hW => ?_)
      refine pw_icmp_ge (tgt := 265) (tk tkL_areAlike 115 rfl) (by decide) (fun c220 => ?_) (fun c220 => absurd (Int32.le_refl _) c220)
      refine pw_iload_n (tk tkL_areAlike 138 rfl) rfl ?_
      exact pw_ireturn (tk tkL_areAlike 139 rfl) rfl (by decide) (by first | rfl | exact nar_bI _) ⟨_, rfl, hW, rfl⟩
    | succ k ih =>
      intro i hi x hW z
      have hil : i < l := by omega
      refine pw_iload_n (tk tkL_areAlike 112 rfl) rfl ?_
      refine pw_aload_n (tk tkL_areAlike 113 rfl) rfl ?_
      refine rO_logSize hW hv  ea99 rfl (tk tkL_areAlike 114 rfl) (by decide) (Nat.le_of_ble_eq_true rfl) (fun x hW => ?_)
      refine pw_icmp_ge (tgt := 265) (tk tkL_areAlike 115 rfl) (by decide) (fun c220 => absurd c220 (nI_ge hil (by omega))) (fun c220 => ?_)
      refine pw_iload_n (tk tkL_areAlike 116 rfl) rfl ?_
      refine pw_if_eq (tgt := 265) (tk tkL_areAlike 117 rfl) (by decide) (fun c224 => absurd c224 (by decide)) (fun c224 => ?_)
      refine pw_aload_n (tk tkL_areAlike 118 rfl) rfl ?_
      refine pw_iload_n (tk tkL_areAlike 119 rfl) rfl ?_
      refine rO_loggedRule hW hv (inR_p ea99 hil (by omega)) (v_log ea99 hil (by omega)).1 rfl (tk tkL_areAlike 120 rfl) (by decide) (Nat.le_of_ble_eq_true rfl) (fun x hW => ?_)
      refine pw_aload_n (tk tkL_areAlike 121 rfl) rfl ?_
      refine pw_iload_n (tk tkL_areAlike 122 rfl) rfl ?_
      refine rP_loggedRule hW hv2 (inR_p eb99 hil (by omega)) ((v_log eb99 hil (by omega)).1.trans (by rw [hab])) rfl (tk tkL_areAlike 123 rfl) (by decide) (Nat.le_of_ble_eq_true rfl) (fun x hW => ?_)
      refine pw_icmp_ne (tgt := 257) (tk tkL_areAlike 124 rfl) (by decide) (fun c237 => absurd rfl c237) (fun c237 => ?_)
      refine pw_aload_n (tk tkL_areAlike 125 rfl) rfl ?_
      refine pw_iload_n (tk tkL_areAlike 126 rfl) rfl ?_
      refine rO_loggedDepth hW hv (inR_p ea99 hil (by omega)) (v_log ea99 hil (by omega)).2 rfl (tk tkL_areAlike 127 rfl) (by decide) (Nat.le_of_ble_eq_true rfl) (fun x hW => ?_)
      refine pw_aload_n (tk tkL_areAlike 128 rfl) rfl ?_
      refine pw_iload_n (tk tkL_areAlike 129 rfl) rfl ?_
      refine rP_loggedDepth hW hv2 (inR_p eb99 hil (by omega)) ((v_log eb99 hil (by omega)).2.trans (by rw [hab])) rfl (tk tkL_areAlike 130 rfl) (by decide) (Nat.le_of_ble_eq_true rfl) (fun x hW => ?_)
      refine pw_icmp_ne (tgt := 257) (tk tkL_areAlike 131 rfl) (by decide) (fun c250 => absurd rfl c250) (fun c250 => ?_)
      refine pw_iconst (v := 1) (tk tkL_areAlike 132 rfl) (by decide) ?_
      refine pw_goto (tgt := 258) (tk tkL_areAlike 133 rfl) (by decide) ?_
      refine pw_ist2 (tk tkL_areAlike 135 rfl) rfl (by decide) ?_
      refine pw_inc3 (tk tkL_areAlike 136 rfl) rfl (by decide) (nI_1 i) ?_
      refine pw_goto (tgt := 215) (tk tkL_areAlike 137 rfl) (by decide) ?_
      exact ih (i + 1) (by omega) x hW z
  have L3 : ∀ k i, i + k = u → ∀ x, W2 a b w x → ∀ z, PW ML_areAlike 31 0 150 [some (.ref 160), some (.ref 416), some (.int 1), some (.int (nI i)), z] [] (hp x) (QI 1 (W2 a b w)) := by
    intro k
    induction k with
    | zero =>
      intro i hi x hW z
      obtain rfl : i = u := by omega
      refine pw_iload_n (tk tkL_areAlike 77 rfl) rfl ?_
      refine pw_aload_n (tk tkL_areAlike 78 rfl) rfl ?_
      refine rO_ruleCount hW hv  ea25 rfl (tk tkL_areAlike 79 rfl) (by decide) (Nat.le_of_ble_eq_true rfl) (fun x hW => ?_)
      refine pw_icmp_ge (tgt := 213) (tk tkL_areAlike 80 rfl) (by decide) (fun c155 => ?_) (fun c155 => absurd (Int32.le_refl _) c155)
      refine pw_iconst (v := 0) (tk tkL_areAlike 110 rfl) (by decide) ?_
      refine pw_ist3 (tk tkL_areAlike 111 rfl) rfl (by decide) ?_
      exact L4 l 0 (by omega) x hW z
    | succ k ih =>
      intro i hi x hW z
      have hiu : i < u := by omega
      refine pw_iload_n (tk tkL_areAlike 77 rfl) rfl ?_
      refine pw_aload_n (tk tkL_areAlike 78 rfl) rfl ?_
      refine rO_ruleCount hW hv  ea25 rfl (tk tkL_areAlike 79 rfl) (by decide) (Nat.le_of_ble_eq_true rfl) (fun x hW => ?_)
      refine pw_icmp_ge (tgt := 213) (tk tkL_areAlike 80 rfl) (by decide) (fun c155 => absurd c155 (nI_ge hiu (by omega))) (fun c155 => ?_)
      refine pw_iload_n (tk tkL_areAlike 81 rfl) rfl ?_
      refine pw_if_eq (tgt := 213) (tk tkL_areAlike 82 rfl) (by decide) (fun c159 => absurd c159 (by decide)) (fun c159 => ?_)
      refine pw_aload_n (tk tkL_areAlike 83 rfl) rfl ?_
      refine pw_iload_n (tk tkL_areAlike 84 rfl) rfl ?_
      refine rO_actionOf hW hv (inR_p ea25 hiu (by omega)) (v_rule ea25 hiu (by omega)).1 rfl (tk tkL_areAlike 85 rfl) (by decide) (Nat.le_of_ble_eq_true rfl) (fun x hW => ?_)
      refine pw_aload_n (tk tkL_areAlike 86 rfl) rfl ?_
      refine pw_iload_n (tk tkL_areAlike 87 rfl) rfl ?_
      refine rP_actionOf hW hv2 (inR_p eb25 hiu (by omega)) ((v_rule eb25 hiu (by omega)).1.trans (by rw [hab])) rfl (tk tkL_areAlike 88 rfl) (by decide) (Nat.le_of_ble_eq_true rfl) (fun x hW => ?_)
      refine pw_icmp_ne (tgt := 205) (tk tkL_areAlike 89 rfl) (by decide) (fun c172 => absurd rfl c172) (fun c172 => ?_)
      refine pw_aload_n (tk tkL_areAlike 90 rfl) rfl ?_
      refine pw_iload_n (tk tkL_areAlike 91 rfl) rfl ?_
      refine rO_isMuted hW hv (inR_p ea25 hiu (by omega)) (v_rule ea25 hiu (by omega)).2.2.1 rfl (tk tkL_areAlike 92 rfl) (by decide) (Nat.le_of_ble_eq_true rfl) (fun x hW => ?_)
      refine pw_aload_n (tk tkL_areAlike 93 rfl) rfl ?_
      refine pw_iload_n (tk tkL_areAlike 94 rfl) rfl ?_
      refine rP_isMuted hW hv2 (inR_p eb25 hiu (by omega)) ((v_rule eb25 hiu (by omega)).2.2.1.trans (by rw [hab])) rfl (tk tkL_areAlike 95 rfl) (by decide) (Nat.le_of_ble_eq_true rfl) (fun x hW => ?_)
      refine pw_icmp_ne (tgt := 205) (tk tkL_areAlike 96 rfl) (by decide) (fun c185 => absurd rfl c185) (fun c185 => ?_)
      refine pw_aload_n (tk tkL_areAlike 97 rfl) rfl ?_
      refine pw_iload_n (tk tkL_areAlike 98 rfl) rfl ?_
      refine rO_actsOf hW hv (inR_p ea25 hiu (by omega)) (v_rule ea25 hiu (by omega)).2.1 rfl (tk tkL_areAlike 99 rfl) (by decide) (Nat.le_of_ble_eq_true rfl) (fun x hW => ?_)
      refine pw_aload_n (tk tkL_areAlike 100 rfl) rfl ?_
      refine pw_iload_n (tk tkL_areAlike 101 rfl) rfl ?_
      refine rP_actsOf hW hv2 (inR_p eb25 hiu (by omega)) ((v_rule eb25 hiu (by omega)).2.1.trans (by rw [hab])) rfl (tk tkL_areAlike 102 rfl) (by decide) (Nat.le_of_ble_eq_true rfl) (fun x hW => ?_)
      refine pw_icmp_ne (tgt := 205) (tk tkL_areAlike 103 rfl) (by decide) (fun c198 => absurd rfl c198) (fun c198 => ?_)
      refine pw_iconst (v := 1) (tk tkL_areAlike 104 rfl) (by decide) ?_
      refine pw_goto (tgt := 206) (tk tkL_areAlike 105 rfl) (by decide) ?_
      refine pw_ist2 (tk tkL_areAlike 107 rfl) rfl (by decide) ?_
      refine pw_inc3 (tk tkL_areAlike 108 rfl) rfl (by decide) (nI_1 i) ?_
      refine pw_goto (tgt := 150) (tk tkL_areAlike 109 rfl) (by decide) ?_
      exact ih (i + 1) (by omega) x hW z
  have C : ∀ i, i < 6 → ∀ k j, j + k = 3 → (∀ x, W2 a b w x → ∀ z, PW ML_areAlike 31 0 142 [some (.ref 160), some (.ref 416), some (.int 1), some (.int (nI i)), z] [] (hp x) (QI 1 (W2 a b w))) → ∀ x, W2 a b w x → PW ML_areAlike 31 0 95 [some (.ref 160), some (.ref 416), some (.int 1), some (.int (nI i)), some (.int (nI j))] [] (hp x) (QI 1 (W2 a b w)) := by
    intro i hi6 k
    induction k with
    | zero =>
      intro j hj fin x hW
      obtain rfl : j = 3 := by omega
      refine pw_iload (tk tkL_areAlike 49 rfl) rfl ?_
      refine pw_iconst (v := 3) (tk tkL_areAlike 50 rfl) (by decide) ?_
      refine pw_icmp_ge (tgt := 142) (tk tkL_areAlike 51 rfl) (by decide) (fun c98 => ?_) (fun c98 => absurd (Int32.le_refl _) c98)
      exact fin x hW _
    | succ k ih =>
      intro j hj fin x hW
      have hj3 : j < 3 := by omega
      by_cases h0 : aS a i = 1
      · refine pw_iload (tk tkL_areAlike 49 rfl) rfl ?_
        refine pw_iconst (v := 3) (tk tkL_areAlike 50 rfl) (by decide) ?_
        refine pw_icmp_ge (tgt := 142) (tk tkL_areAlike 51 rfl) (by decide) (fun c98 => absurd c98 (nI_ge (b := 3) hj3 (by decide))) (fun c98 => ?_)
        refine pw_iload_n (tk tkL_areAlike 52 rfl) rfl ?_
        refine pw_if_eq (tgt := 142) (tk tkL_areAlike 53 rfl) (by decide) (fun c102 => absurd c102 (by decide)) (fun c102 => ?_)
        refine pw_aload_n (tk tkL_areAlike 54 rfl) rfl ?_
        refine pw_iload_n (tk tkL_areAlike 55 rfl) rfl ?_
        refine rO_hasRow hW hv (inR_r (n := 5) (by omega) (by decide)) ((v_hasRow hi6).trans (if_pos h0)) rfl (tk tkL_areAlike 56 rfl) (by decide) (Nat.le_of_ble_eq_true rfl) (fun x hW => ?_)
        refine pw_if_eq (tgt := 142) (tk tkL_areAlike 57 rfl) (by decide) (fun c110 => absurd c110 (by decide)) (fun c110 => ?_)
        refine pw_aload_n (tk tkL_areAlike 58 rfl) rfl ?_
        refine pw_iload_n (tk tkL_areAlike 59 rfl) rfl ?_
        refine pw_iload (tk tkL_areAlike 60 rfl) rfl ?_
        refine rO_valueAt hW hv (inR_r (n := 5) (by omega) (by decide)) (inR_r (n := 2) (by omega) (by decide)) (by rw [nI_clamp (by omega), h0]; decide) (v_valueAt hi6 hj3 (by rw [h0]; decide)) rfl (tk tkL_areAlike 61 rfl) (by decide) (Nat.le_of_ble_eq_true rfl) (fun x hW => ?_)
        refine pw_aload_n (tk tkL_areAlike 62 rfl) rfl ?_
        refine pw_iload_n (tk tkL_areAlike 63 rfl) rfl ?_
        refine pw_iload (tk tkL_areAlike 64 rfl) rfl ?_
        refine rP_valueAt hW hv2 (inR_r (n := 5) (by omega) (by decide)) (inR_r (n := 2) (by omega) (by decide)) (by rw [nI_clamp (by omega), hab, h0]; decide) ((v_valueAt hi6 hj3 (by rw [hab, h0]; decide)).trans (by rw [hab])) rfl (tk tkL_areAlike 65 rfl) (by decide) (Nat.le_of_ble_eq_true rfl) (fun x hW => ?_)
        refine pw_icmp_ne (tgt := 134) (tk tkL_areAlike 66 rfl) (by decide) (fun c127 => absurd rfl c127) (fun c127 => ?_)
        refine pw_iconst (v := 1) (tk tkL_areAlike 67 rfl) (by decide) ?_
        refine pw_goto (tgt := 135) (tk tkL_areAlike 68 rfl) (by decide) ?_
        refine pw_ist2 (tk tkL_areAlike 70 rfl) rfl (by decide) ?_
        refine pw_inc4 (tk tkL_areAlike 71 rfl) rfl (by decide) (nI_1 j) ?_
        refine pw_goto (tgt := 95) (tk tkL_areAlike 72 rfl) (by decide) ?_
        exact ih (j + 1) (by omega) fin x hW
      · refine pw_iload (tk tkL_areAlike 49 rfl) rfl ?_
        refine pw_iconst (v := 3) (tk tkL_areAlike 50 rfl) (by decide) ?_
        refine pw_icmp_ge (tgt := 142) (tk tkL_areAlike 51 rfl) (by decide) (fun c98 => absurd c98 (nI_ge (b := 3) hj3 (by decide))) (fun c98 => ?_)
        refine pw_iload_n (tk tkL_areAlike 52 rfl) rfl ?_
        refine pw_if_eq (tgt := 142) (tk tkL_areAlike 53 rfl) (by decide) (fun c102 => absurd c102 (by decide)) (fun c102 => ?_)
        refine pw_aload_n (tk tkL_areAlike 54 rfl) rfl ?_
        refine pw_iload_n (tk tkL_areAlike 55 rfl) rfl ?_
        refine rO_hasRow hW hv (inR_r (n := 5) (by omega) (by decide)) ((v_hasRow hi6).trans (if_neg h0)) rfl (tk tkL_areAlike 56 rfl) (by decide) (Nat.le_of_ble_eq_true rfl) (fun x hW => ?_)
        refine pw_if_eq (tgt := 142) (tk tkL_areAlike 57 rfl) (by decide) (fun c110 => ?_) (fun c110 => c110 (by decide) |>.elim)
        exact fin x hW _
  have L1 : ∀ k i, i + k = 6 → ∀ x, W2 a b w x → ∀ z, PW ML_areAlike 31 0 63 [some (.ref 160), some (.ref 416), some (.int 1), some (.int (nI i)), z] [] (hp x) (QI 1 (W2 a b w)) := by
    intro k
    induction k with
    | zero =>
      intro i hi x hW z
      obtain rfl : i = 6 := by omega
      refine pw_iload_n (tk tkL_areAlike 31 rfl) rfl ?_
      refine pw_bipush (v := 6) (tk tkL_areAlike 32 rfl) (by decide) ?_
      refine pw_icmp_ge (tgt := 148) (tk tkL_areAlike 33 rfl) (by decide) (fun c66 => ?_) (fun c66 => absurd (Int32.le_refl _) c66)
      refine pw_iconst (v := 0) (tk tkL_areAlike 75 rfl) (by decide) ?_
      refine pw_ist3 (tk tkL_areAlike 76 rfl) rfl (by decide) ?_
      exact L3 u 0 (by omega) x hW z
    | succ k ih =>
      intro i hi x hW z
      have hi6 : i < 6 := by omega
      have fin : ∀ x, W2 a b w x → ∀ z, PW ML_areAlike 31 0 142 [some (.ref 160), some (.ref 416), some (.int 1), some (.int (nI i)), z] [] (hp x) (QI 1 (W2 a b w)) := by
        intro x hW z
        refine pw_inc3 (tk tkL_areAlike 73 rfl) rfl (by decide) (nI_1 i) ?_
        refine pw_goto (tgt := 63) (tk tkL_areAlike 74 rfl) (by decide) ?_
        exact ih (i + 1) (by omega) x hW z
      refine pw_iload_n (tk tkL_areAlike 31 rfl) rfl ?_
      refine pw_bipush (v := 6) (tk tkL_areAlike 32 rfl) (by decide) ?_
      refine pw_icmp_ge (tgt := 148) (tk tkL_areAlike 33 rfl) (by decide) (fun c66 => absurd c66 (nI_ge (b := 6) hi6 (by decide))) (fun c66 => ?_)
      refine pw_iload_n (tk tkL_areAlike 34 rfl) rfl ?_
      refine pw_if_eq (tgt := 90) (tk tkL_areAlike 35 rfl) (by decide) (fun c70 => absurd c70 (by decide)) (fun c70 => ?_)
      refine pw_aload_n (tk tkL_areAlike 36 rfl) rfl ?_
      refine pw_iload_n (tk tkL_areAlike 37 rfl) rfl ?_
      refine rO_hasRow hW hv (inR_r (n := 5) (by omega) (by decide)) (v_hasRow hi6) rfl (tk tkL_areAlike 38 rfl) (by decide) (Nat.le_of_ble_eq_true rfl) (fun x hW => ?_)
      refine pw_aload_n (tk tkL_areAlike 39 rfl) rfl ?_
      refine pw_iload_n (tk tkL_areAlike 40 rfl) rfl ?_
      refine rP_hasRow hW hv2 (inR_r (n := 5) (by omega) (by decide)) ((v_hasRow hi6).trans (by rw [hab])) rfl (tk tkL_areAlike 41 rfl) (by decide) (Nat.le_of_ble_eq_true rfl) (fun x hW => ?_)
      refine pw_icmp_ne (tgt := 90) (tk tkL_areAlike 42 rfl) (by decide) (fun c83 => absurd rfl c83) (fun c83 => ?_)
      refine pw_iconst (v := 1) (tk tkL_areAlike 43 rfl) (by decide) ?_
      refine pw_goto (tgt := 91) (tk tkL_areAlike 44 rfl) (by decide) ?_
      refine pw_ist2 (tk tkL_areAlike 46 rfl) rfl (by decide) ?_
      refine pw_iconst (v := 0) (tk tkL_areAlike 47 rfl) (by decide) ?_
      refine pw_ist4 (tk tkL_areAlike 48 rfl) rfl (by decide) ?_
      exact C i hi6 3 0 (by omega) fin x hW
  refine pw_aload_n (tk tkL_areAlike 0 rfl) rfl ?_
  refine rO_rowCount hW hv  (show smN (aS a) 6 = smN (aS a) 6 from rfl) rfl (tk tkL_areAlike 1 rfl) (by decide) (Nat.le_of_ble_eq_true rfl) (fun x hW => ?_)
  refine pw_aload_n (tk tkL_areAlike 2 rfl) rfl ?_
  refine rP_rowCount hW hv2  (show smN (aS b) 6 = smN (aS a) 6 by rw [hab]) rfl (tk tkL_areAlike 3 rfl) (by decide) (Nat.le_of_ble_eq_true rfl) (fun x hW => ?_)
  refine pw_icmp_ne (tgt := 59) (tk tkL_areAlike 4 rfl) (by decide) (fun c8 => absurd rfl c8) (fun c8 => ?_)
  refine pw_aload_n (tk tkL_areAlike 5 rfl) rfl ?_
  refine rO_eventCount hW hv  (show aS a 98 = aS a 98 from rfl) rfl (tk tkL_areAlike 6 rfl) (by decide) (Nat.le_of_ble_eq_true rfl) (fun x hW => ?_)
  refine pw_aload_n (tk tkL_areAlike 7 rfl) rfl ?_
  refine rP_eventCount hW hv2  (show aS b 98 = aS a 98 by rw [hab]) rfl (tk tkL_areAlike 8 rfl) (by decide) (Nat.le_of_ble_eq_true rfl) (fun x hW => ?_)
  refine pw_icmp_ne (tgt := 59) (tk tkL_areAlike 9 rfl) (by decide) (fun c19 => absurd rfl c19) (fun c19 => ?_)
  refine pw_aload_n (tk tkL_areAlike 10 rfl) rfl ?_
  refine rO_logSize hW hv  ea99 rfl (tk tkL_areAlike 11 rfl) (by decide) (Nat.le_of_ble_eq_true rfl) (fun x hW => ?_)
  refine pw_aload_n (tk tkL_areAlike 12 rfl) rfl ?_
  refine rP_logSize hW hv2  eb99 rfl (tk tkL_areAlike 13 rfl) (by decide) (Nat.le_of_ble_eq_true rfl) (fun x hW => ?_)
  refine pw_icmp_ne (tgt := 59) (tk tkL_areAlike 14 rfl) (by decide) (fun c30 => absurd rfl c30) (fun c30 => ?_)
  refine pw_aload_n (tk tkL_areAlike 15 rfl) rfl ?_
  refine rO_ruleCount hW hv  ea25 rfl (tk tkL_areAlike 16 rfl) (by decide) (Nat.le_of_ble_eq_true rfl) (fun x hW => ?_)
  refine pw_aload_n (tk tkL_areAlike 17 rfl) rfl ?_
  refine rP_ruleCount hW hv2  eb25 rfl (tk tkL_areAlike 18 rfl) (by decide) (Nat.le_of_ble_eq_true rfl) (fun x hW => ?_)
  refine pw_icmp_ne (tgt := 59) (tk tkL_areAlike 19 rfl) (by decide) (fun c41 => absurd rfl c41) (fun c41 => ?_)
  refine pw_aload_n (tk tkL_areAlike 20 rfl) rfl ?_
  refine rO_circularRules hW hv  (v := (scircularRules a).2.1) rfl rfl (tk tkL_areAlike 21 rfl) (by decide) (Nat.le_of_ble_eq_true rfl) (fun x hW => ?_)
  refine pw_aload_n (tk tkL_areAlike 22 rfl) rfl ?_
  refine rP_circularRules hW hv2  (v := (scircularRules a).2.1) (by unfold scircularRules; dsimp only; rw [hab]) rfl (tk tkL_areAlike 23 rfl) (by decide) (Nat.le_of_ble_eq_true rfl) (fun x hW => ?_)
  refine pw_icmp_ne (tgt := 59) (tk tkL_areAlike 24 rfl) (by decide) (fun c52 => absurd rfl c52) (fun c52 => ?_)
  refine pw_iconst (v := 1) (tk tkL_areAlike 25 rfl) (by decide) ?_
  refine pw_goto (tgt := 60) (tk tkL_areAlike 26 rfl) (by decide) ?_
  refine pw_ist2 (tk tkL_areAlike 28 rfl) rfl (by decide) ?_
  refine pw_iconst (v := 0) (tk tkL_areAlike 29 rfl) (by decide) ?_
  refine pw_ist3 (tk tkL_areAlike 30 rfl) rfl (by decide) ?_
  exact L1 6 0 (by omega) x hW _
