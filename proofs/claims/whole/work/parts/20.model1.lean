def inR (v lo hi : Int32) : Bool := decide (¬ v < lo) && decide (¬ hi < v)
set_option maxRecDepth 100000 in
set_option maxHeartbeats 4000000 in
theorem ct_X8_in (h : Hp) (v lo hi : Int32) : CT MX8_in 0 0 [.int v, .int lo, .int hi] h (Det (.inl (some (.int (bI (inR v lo hi))))) h) := by
  refine ct_of (by decide +kernel) (by decide) rfl (k := 0) (ls := [some (.int v), some (.int lo), some (.int hi)]) rfl (Nat.le_of_ble_eq_true rfl) ?_
  refine pw_iload_n (tk tkX8_in 0 rfl) rfl ?_
  refine pw_iload_n (tk tkX8_in 1 rfl) rfl ?_
  refine pw_icmp_lt (tgt := 14) (tk tkX8_in 2 rfl) (by decide) (fun c2 => ?_) (fun c2 => ?_)
  · refine pw_iconst (v := 0) (tk tkX8_in 8 rfl) (by decide) ?_
    exact pw_ireturn (tk tkX8_in 9 rfl) rfl (by decide) (by first | rfl | exact nar_bI _) ⟨by simp [inR, bI, *], rfl⟩
  · refine pw_iload_n (tk tkX8_in 3 rfl) rfl ?_
    refine pw_iload_n (tk tkX8_in 4 rfl) rfl ?_
    refine pw_icmp_gt (tgt := 14) (tk tkX8_in 5 rfl) (by decide) (fun c7 => ?_) (fun c7 => ?_)
    · refine pw_iconst (v := 0) (tk tkX8_in 8 rfl) (by decide) ?_
      exact pw_ireturn (tk tkX8_in 9 rfl) rfl (by decide) (by first | rfl | exact nar_bI _) ⟨by simp [inR, bI, *], rfl⟩
    · refine pw_iconst (v := 1) (tk tkX8_in 6 rfl) (by decide) ?_
      refine pw_goto (tgt := 15) (tk tkX8_in 7 rfl) (by decide) ?_
      exact pw_ireturn (tk tkX8_in 9 rfl) rfl (by decide) (by first | rfl | exact nar_bI _) ⟨by simp [inR, bI, *], rfl⟩
set_option maxRecDepth 100000 in
set_option maxHeartbeats 4000000 in
theorem ct_X8_thrown (x : XW) : CT MX8_thrown 0 0 [.ref 171] (hp x) (Det (.inl (some (.int (mF x.2.1 0)))) (hp x)) := by
  refine ct_of (by decide +kernel) (by decide) rfl (k := 0) (ls := [some (.ref 171)]) rfl (Nat.le_of_ble_eq_true rfl) ?_
  refine pw_aload_n (tk tkX8_thrown 0 rfl) rfl ?_
  refine g8_thrown (tk tkX8_thrown 1 rfl) fkX8_28 ?_
  exact pw_ireturn (tk tkX8_thrown 2 rfl) rfl (by decide) rfl ⟨rfl, rfl⟩
def xThr (x : XW) (v : Int32) : XW := uM7 x (upd (mF x.2.1) 0 v)
set_option maxRecDepth 100000 in
set_option maxHeartbeats 4000000 in
theorem ct_X8_holds (x : XW) (p : Int32) : CT MX8_holds 0 0 [.ref 171, .int p] (hp x) (Det (.inl (some (.int (bI (decide (p = 0)))))) (hp (xThr x p))) := by
  refine ct_of (by decide +kernel) (by decide) rfl (k := 0) (ls := [some (.ref 171), some (.int p)]) rfl (Nat.le_of_ble_eq_true rfl) ?_
  refine pw_aload_n (tk tkX8_holds 0 rfl) rfl ?_
  refine pw_iload_n (tk tkX8_holds 1 rfl) rfl ?_
  refine p8_thrown (tk tkX8_holds 2 rfl) fkX8_28 ?_
  refine pw_iload_n (tk tkX8_holds 3 rfl) rfl ?_
  refine pw_if_ne (tgt := 13) (tk tkX8_holds 4 rfl) (by decide) (fun c6 => ?_) (fun c6 => ?_)
  · refine pw_iconst (v := 0) (tk tkX8_holds 7 rfl) (by decide) ?_
    exact pw_ireturn (tk tkX8_holds 8 rfl) rfl (by decide) (by first | rfl | exact nar_bI _) ⟨by simp [bI, *], rfl⟩
  · refine pw_iconst (v := 1) (tk tkX8_holds 5 rfl) (by decide) ?_
    refine pw_goto (tgt := 14) (tk tkX8_holds 6 rfl) (by decide) ?_
    exact pw_ireturn (tk tkX8_holds 8 rfl) rfl (by decide) (by first | rfl | exact nar_bI _) ⟨by simp [bI, *], rfl⟩
set_option maxRecDepth 100000 in
set_option maxHeartbeats 4000000 in
theorem ct_X8_isRow (h : Hp) (v : Int32) : CT MX8_isRow 1 0 [.int v] h (Det (.inl (some (.int (bI (inR v 0 5))))) h) := by
  refine ct_of (by decide +kernel) (by decide) rfl (k := 0) (ls := [some (.int v)]) rfl (Nat.le_of_ble_eq_true rfl) ?_
  refine pw_iload_n (tk tkX8_isRow 0 rfl) rfl ?_
  refine pw_iconst (v := 0) (tk tkX8_isRow 1 rfl) (by decide) ?_
  refine pw_iconst (v := 5) (tk tkX8_isRow 2 rfl) (by decide) ?_
  refine pw_cS (ct_X8_in h v 0 5) okX8_in (tk tkX8_isRow 3 rfl) mkX8_32 stX8_in rfl rfl (by decide) (by decide) (Nat.le_of_ble_eq_true rfl) ?_
  exact pw_ireturn (tk tkX8_isRow 4 rfl) rfl (by decide) (by first | rfl | exact nar_bI _) ⟨rfl, rfl⟩
set_option maxRecDepth 100000 in
set_option maxHeartbeats 4000000 in
theorem ct_X8_isColumn (h : Hp) (v : Int32) : CT MX8_isColumn 1 0 [.int v] h (Det (.inl (some (.int (bI (inR v 0 2))))) h) := by
  refine ct_of (by decide +kernel) (by decide) rfl (k := 0) (ls := [some (.int v)]) rfl (Nat.le_of_ble_eq_true rfl) ?_
  refine pw_iload_n (tk tkX8_isColumn 0 rfl) rfl ?_
  refine pw_iconst (v := 0) (tk tkX8_isColumn 1 rfl) (by decide) ?_
  refine pw_iconst (v := 2) (tk tkX8_isColumn 2 rfl) (by decide) ?_
  refine pw_cS (ct_X8_in h v 0 2) okX8_in (tk tkX8_isColumn 3 rfl) mkX8_32 stX8_in rfl rfl (by decide) (by decide) (Nat.le_of_ble_eq_true rfl) ?_
  exact pw_ireturn (tk tkX8_isColumn 4 rfl) rfl (by decide) (by first | rfl | exact nar_bI _) ⟨rfl, rfl⟩
set_option maxRecDepth 100000 in
set_option maxHeartbeats 4000000 in
theorem ct_X8_isValue (h : Hp) (v : Int32) : CT MX8_isValue 1 0 [.int v] h (Det (.inl (some (.int (bI (inR v 0 999))))) h) := by
  refine ct_of (by decide +kernel) (by decide) rfl (k := 0) (ls := [some (.int v)]) rfl (Nat.le_of_ble_eq_true rfl) ?_
  refine pw_iload_n (tk tkX8_isValue 0 rfl) rfl ?_
  refine pw_iconst (v := 0) (tk tkX8_isValue 1 rfl) (by decide) ?_
  refine pw_sipush (v := 999) (tk tkX8_isValue 2 rfl) (by decide) ?_
  refine pw_cS (ct_X8_in h v 0 999) okX8_in (tk tkX8_isValue 3 rfl) mkX8_32 stX8_in rfl rfl (by decide) (by decide) (Nat.le_of_ble_eq_true rfl) ?_
  exact pw_ireturn (tk tkX8_isValue 4 rfl) rfl (by decide) (by first | rfl | exact nar_bI _) ⟨rfl, rfl⟩
set_option maxRecDepth 100000 in
set_option maxHeartbeats 4000000 in
theorem ct_X8_isRule (x : XW) (v : Int32) : CT MX8_isRule 1 0 [.ref 171, .int v] (hp x) (Det (.inl (some (.int (bI (inR v 0 (mS x.2.1 25 - 1)))))) (hp x)) := by
  refine ct_of (by decide +kernel) (by decide) rfl (k := 0) (ls := [some (.ref 171), some (.int v)]) rfl (Nat.le_of_ble_eq_true rfl) ?_
  refine pw_iload_n (tk tkX8_isRule 0 rfl) rfl ?_
  refine pw_iconst (v := 0) (tk tkX8_isRule 1 rfl) (by decide) ?_
  refine pw_aload_n (tk tkX8_isRule 2 rfl) rfl ?_
  refine g8_s (tk tkX8_isRule 3 rfl) fkX8_7 ?_
  refine pw_bipush (v := 25) (tk tkX8_isRule 4 rfl) (by decide) ?_
  refine al_s_e (e := 25) (tk tkX8_isRule 5 rfl) (by first | rfl | simp only [lit_nI, nI_add, pk_mul]) (by first | decide | omega) ?_
  refine pw_iconst (v := 1) (tk tkX8_isRule 6 rfl) (by decide) ?_
  refine pw_isub (tk tkX8_isRule 7 rfl) ?_
  refine pw_cS (ct_X8_in (hp x) v 0 (mS x.2.1 25 - 1)) okX8_in (tk tkX8_isRule 8 rfl) mkX8_32 stX8_in rfl rfl (by decide) (by decide) (Nat.le_of_ble_eq_true rfl) ?_
  exact pw_ireturn (tk tkX8_isRule 9 rfl) rfl (by decide) (by first | rfl | exact nar_bI _) ⟨rfl, rfl⟩
set_option maxRecDepth 100000 in
set_option maxHeartbeats 4000000 in
theorem ct_X8_of (h : Hp) (r k : Nat) : CT MX8_of 0 0 [.int (nI r), .int (nI k)] h (Det (.inl (some (.int (nI (6 + 3 * r + k))))) h) := by
  refine ct_of (by decide +kernel) (by decide) rfl (k := 0) (ls := [some (.int (nI r)), some (.int (nI k))]) rfl (Nat.le_of_ble_eq_true rfl) ?_
  refine pw_bipush (v := 6) (tk tkX8_of 0 rfl) (by decide) ?_
  refine pw_iconst (v := 3) (tk tkX8_of 1 rfl) (by decide) ?_
  refine pw_iload_n (tk tkX8_of 2 rfl) rfl ?_
  refine pw_imul (tk tkX8_of 3 rfl) ?_
  refine pw_iadd (tk tkX8_of 4 rfl) ?_
  refine pw_iload_n (tk tkX8_of 5 rfl) rfl ?_
  refine pw_iadd (tk tkX8_of 6 rfl) ?_
  exact pw_ireturn (tk tkX8_of 7 rfl) rfl (by decide) rfl ⟨by simp only [lit_nI, nI_add, pk_mul], rfl⟩
set_option maxRecDepth 100000 in
set_option maxHeartbeats 4000000 in
theorem ct_X8_at (x : XW) (r k : Nat) (hr : 26 + 9 * r + k < 132) : CT MX8_at 0 0 [.ref 171, .int (nI r), .int (nI k)] (hp x) (Det (.inl (some (.int (mS x.2.1 (26 + 9 * r + k))))) (hp x)) := by
  refine ct_of (by decide +kernel) (by decide) rfl (k := 0) (ls := [some (.ref 171), some (.int (nI r)), some (.int (nI k))]) rfl (Nat.le_of_ble_eq_true rfl) ?_
  refine pw_aload_n (tk tkX8_at 0 rfl) rfl ?_
  refine g8_s (tk tkX8_at 1 rfl) fkX8_7 ?_
  refine pw_bipush (v := 26) (tk tkX8_at 2 rfl) (by decide) ?_
  refine pw_bipush (v := 9) (tk tkX8_at 3 rfl) (by decide) ?_
  refine pw_iload_n (tk tkX8_at 4 rfl) rfl ?_
  refine pw_imul (tk tkX8_at 5 rfl) ?_
  refine pw_iadd (tk tkX8_at 6 rfl) ?_
  refine pw_iload_n (tk tkX8_at 7 rfl) rfl ?_
  refine pw_iadd (tk tkX8_at 8 rfl) ?_
  refine al_s_e (e := 26 + 9 * r + k) (tk tkX8_at 9 rfl) (by first | rfl | simp only [lit_nI, nI_add, pk_mul]) (by first | decide | omega) ?_
  exact pw_ireturn (tk tkX8_at 10 rfl) rfl (by decide) rfl ⟨rfl, rfl⟩
set_option maxRecDepth 100000 in
set_option maxHeartbeats 4000000 in
theorem ct_X8_putAside (x : XW) : CT MX8_putAside 0 0 [.ref 171] (hp x) (Det (.inl none) (hp (uM2 x (cpN 132 (mS x.2.1) (mA x.2.1))))) := by
  refine ct_of (by decide +kernel) (by decide) rfl (k := 1) (ls := [some (.ref 171), none]) rfl (Nat.le_of_ble_eq_true rfl) ?_
  have L : ∀ k i, i + k = 132 → ∀ y, y = uM2 x (cpN i (mS x.2.1) (mA x.2.1)) → PW MX8_putAside 0 0 2 [some (.ref 171), some (.int (nI i))] [] (hp y) (Det (.inl none) (hp (uM2 x (cpN 132 (mS x.2.1) (mA x.2.1))))) := by
    intro k
    induction k with
    | zero =>
      intro i hi y hy
      obtain rfl : i = 132 := by omega
      refine pw_iload_n (tk tkX8_putAside 2 rfl) rfl ?_
      refine pw_sipush (v := 132) (tk tkX8_putAside 3 rfl) (by decide) ?_
      refine pw_icmp_ge (tgt := 27) (tk tkX8_putAside 4 rfl) (by decide) (fun c6 => ?_) (fun c6 => absurd (Int32.le_refl _) c6)
      exact pw_return (tk tkX8_putAside 15 rfl) rfl (by decide) ⟨rfl, by rw [hy]⟩
    | succ k ih =>
      intro i hi y hy
      refine pw_iload_n (tk tkX8_putAside 2 rfl) rfl ?_
      refine pw_sipush (v := 132) (tk tkX8_putAside 3 rfl) (by decide) ?_
      refine pw_icmp_ge (tgt := 27) (tk tkX8_putAside 4 rfl) (by decide) (fun c6 => absurd c6 (nI_ge (b := 132) (by omega) (by decide))) (fun c6 => ?_)
      refine pw_aload_n (tk tkX8_putAside 5 rfl) rfl ?_
      refine g8_aside (tk tkX8_putAside 6 rfl) fkX8_13 ?_
      refine pw_iload_n (tk tkX8_putAside 7 rfl) rfl ?_
      refine pw_aload_n (tk tkX8_putAside 8 rfl) rfl ?_
      refine g8_s (tk tkX8_putAside 9 rfl) fkX8_7 ?_
      refine pw_iload_n (tk tkX8_putAside 10 rfl) rfl ?_
      refine al_s_e (e := i) (tk tkX8_putAside 11 rfl) rfl (by first | decide | omega) ?_
      refine as_aside_e (e := i) (tk tkX8_putAside 12 rfl) rfl (by first | decide | omega) ?_
      refine pw_inc1 (tk tkX8_putAside 13 rfl) rfl (by decide) (nI_1 i) ?_
      refine pw_goto (tgt := 2) (tk tkX8_putAside 14 rfl) (by decide) ?_
      refine ih (i + 1) (by omega) _ ?_
      rw [hy]
      show uM2 x (upd (cpN i (mS x.2.1) (mA x.2.1)) i (mS x.2.1 i)) = _
      rw [cpN_s]
  refine pw_iconst (v := 0) (tk tkX8_putAside 0 rfl) (by decide) ?_
  refine pw_ist1 (tk tkX8_putAside 1 rfl) rfl (by decide) ?_
  exact L 132 0 (by omega) x (by rw [cpN_0]; rfl)
set_option maxRecDepth 100000 in
set_option maxHeartbeats 4000000 in
theorem ct_X8_putBack (x : XW) : CT MX8_putBack 0 0 [.ref 171] (hp x) (Det (.inl none) (hp (uM1 x (cpN 132 (mA x.2.1) (mS x.2.1))))) := by
  refine ct_of (by decide +kernel) (by decide) rfl (k := 1) (ls := [some (.ref 171), none]) rfl (Nat.le_of_ble_eq_true rfl) ?_
  have L : ∀ k i, i + k = 132 → ∀ y, y = uM1 x (cpN i (mA x.2.1) (mS x.2.1)) → PW MX8_putBack 0 0 2 [some (.ref 171), some (.int (nI i))] [] (hp y) (Det (.inl none) (hp (uM1 x (cpN 132 (mA x.2.1) (mS x.2.1))))) := by
    intro k
    induction k with
    | zero =>
      intro i hi y hy
      obtain rfl : i = 132 := by omega
      refine pw_iload_n (tk tkX8_putBack 2 rfl) rfl ?_
      refine pw_sipush (v := 132) (tk tkX8_putBack 3 rfl) (by decide) ?_
      refine pw_icmp_ge (tgt := 27) (tk tkX8_putBack 4 rfl) (by decide) (fun c6 => ?_) (fun c6 => absurd (Int32.le_refl _) c6)
      exact pw_return (tk tkX8_putBack 15 rfl) rfl (by decide) ⟨rfl, by rw [hy]⟩
    | succ k ih =>
      intro i hi y hy
      refine pw_iload_n (tk tkX8_putBack 2 rfl) rfl ?_
      refine pw_sipush (v := 132) (tk tkX8_putBack 3 rfl) (by decide) ?_
      refine pw_icmp_ge (tgt := 27) (tk tkX8_putBack 4 rfl) (by decide) (fun c6 => absurd c6 (nI_ge (b := 132) (by omega) (by decide))) (fun c6 => ?_)
      refine pw_aload_n (tk tkX8_putBack 5 rfl) rfl ?_
      refine g8_s (tk tkX8_putBack 6 rfl) fkX8_7 ?_
      refine pw_iload_n (tk tkX8_putBack 7 rfl) rfl ?_
      refine pw_aload_n (tk tkX8_putBack 8 rfl) rfl ?_
      refine g8_aside (tk tkX8_putBack 9 rfl) fkX8_13 ?_
      refine pw_iload_n (tk tkX8_putBack 10 rfl) rfl ?_
      refine al_aside_e (e := i) (tk tkX8_putBack 11 rfl) rfl (by first | decide | omega) ?_
      refine as_s_e (e := i) (tk tkX8_putBack 12 rfl) rfl (by first | decide | omega) ?_
      refine pw_inc1 (tk tkX8_putBack 13 rfl) rfl (by decide) (nI_1 i) ?_
      refine pw_goto (tgt := 2) (tk tkX8_putBack 14 rfl) (by decide) ?_
      refine ih (i + 1) (by omega) _ ?_
      rw [hy]
      show uM1 x (upd (cpN i (mA x.2.1) (mS x.2.1)) i (mA x.2.1 i)) = _
      rw [cpN_s]
  refine pw_iconst (v := 0) (tk tkX8_putBack 0 rfl) (by decide) ?_
  refine pw_ist1 (tk tkX8_putBack 1 rfl) rfl (by decide) ?_
  exact L 132 0 (by omega) x (by rw [cpN_0]; rfl)
def smN (f : Nat → Int32) : Nat → Int32
  | 0 => 0
  | k + 1 => smN f k + f k
set_option maxRecDepth 100000 in
set_option maxHeartbeats 4000000 in
theorem ct_X8_rowsNow (x : XW) : CT MX8_rowsNow 0 0 [.ref 171] (hp x) (Det (.inl (some (.int (smN (mS x.2.1) 6)))) (hp x)) := by
  refine ct_of (by decide +kernel) (by decide) rfl (k := 2) (ls := [some (.ref 171), none, none]) rfl (Nat.le_of_ble_eq_true rfl) ?_
  have L : ∀ k i, i + k = 6 → PW MX8_rowsNow 0 0 4 [some (.ref 171), some (.int (smN (mS x.2.1) i)), some (.int (nI i))] [] (hp x) (Det (.inl (some (.int (smN (mS x.2.1) 6)))) (hp x)) := by
    intro k
    induction k with
    | zero =>
      intro i hi
      obtain rfl : i = 6 := by omega
      refine pw_iload_n (tk tkX8_rowsNow 4 rfl) rfl ?_
      refine pw_bipush (v := 6) (tk tkX8_rowsNow 5 rfl) (by decide) ?_
      refine pw_icmp_ge (tgt := 27) (tk tkX8_rowsNow 6 rfl) (by decide) (fun c7 => ?_) (fun c7 => absurd (Int32.le_refl _) c7)
      refine pw_iload_n (tk tkX8_rowsNow 18 rfl) rfl ?_
      exact pw_ireturn (tk tkX8_rowsNow 19 rfl) rfl (by decide) rfl ⟨rfl, rfl⟩
    | succ k ih =>
      intro i hi
      refine pw_iload_n (tk tkX8_rowsNow 4 rfl) rfl ?_
      refine pw_bipush (v := 6) (tk tkX8_rowsNow 5 rfl) (by decide) ?_
      refine pw_icmp_ge (tgt := 27) (tk tkX8_rowsNow 6 rfl) (by decide) (fun c7 => absurd c7 (nI_ge (b := 6) (by omega) (by decide))) (fun c7 => ?_)
      refine pw_iload_n (tk tkX8_rowsNow 7 rfl) rfl ?_
      refine pw_aload_n (tk tkX8_rowsNow 8 rfl) rfl ?_
      refine g8_s (tk tkX8_rowsNow 9 rfl) fkX8_7 ?_
      refine pw_iconst (v := 0) (tk tkX8_rowsNow 10 rfl) (by decide) ?_
      refine pw_iload_n (tk tkX8_rowsNow 11 rfl) rfl ?_
      refine pw_iadd (tk tkX8_rowsNow 12 rfl) ?_
      refine al_s_e (e := i) (tk tkX8_rowsNow 13 rfl) (Int32.zero_add _) (by first | decide | omega) ?_
      refine pw_iadd (tk tkX8_rowsNow 14 rfl) ?_
      refine pw_ist1 (tk tkX8_rowsNow 15 rfl) rfl (by decide) ?_
      refine pw_inc2 (tk tkX8_rowsNow 16 rfl) rfl (by decide) (nI_1 i) ?_
      refine pw_goto (tgt := 4) (tk tkX8_rowsNow 17 rfl) (by decide) ?_
      exact ih (i + 1) (by omega)
  refine pw_iconst (v := 0) (tk tkX8_rowsNow 0 rfl) (by decide) ?_
  refine pw_ist1 (tk tkX8_rowsNow 1 rfl) rfl (by decide) ?_
  refine pw_iconst (v := 0) (tk tkX8_rowsNow 2 rfl) (by decide) ?_
  refine pw_ist2 (tk tkX8_rowsNow 3 rfl) rfl (by decide) ?_
  exact L 6 0 (by omega)
