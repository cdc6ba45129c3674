theorem upd_tw (f : Nat → Int32) (k : Nat) (x y : Int32) : upd (upd f k x) k y = upd f k y := by
  funext j; unfold upd; by_cases e : j = k <;> simp [e]
theorem upd_at (f : Nat → Int32) (k : Nat) (x : Int32) : upd f k x k = x := if_pos rfl
theorem upd_nt (f : Nat → Int32) {k j : Nat} (x : Int32) (h : j ≠ k) : upd f k x j = f j := if_neg h
def shK (i : Nat) (f : Nat → Int32) : Nat → Int32 := fun j => if j < i then f (j + 132) else f j
theorem shK_0 (f : Nat → Int32) : shK 0 f = f := by funext j; unfold shK; rw [if_neg (by omega)]
theorem shK_s (i : Nat) (f : Nat → Int32) : upd (shK i f) i (shK i f (i + 132)) = shK (i + 1) f := by
  have e1 : shK i f (i + 132) = f (i + 132) := if_neg (by omega)
  rw [e1]
  funext j
  unfold shK upd
  by_cases e : j = i
  · subst e; rw [if_pos rfl, if_pos (by omega)]
  · rw [if_neg e]
    dsimp only
    by_cases e2 : j < i
    · rw [if_pos e2, if_pos (by omega)]
    · rw [if_neg e2, if_neg (by omega)]
def xRecB (y : XW) (k : Nat) : XW := uM7 (uM3 y (puN (132 * k) 132 (mA y.2.1) (mHi y.2.1))) (upd (mF y.2.1) 4 (nI (k + 1)))
def xSh (x : XW) : XW := uM7 (uM3 x (shK 660 (mHi x.2.1))) (upd (mF x.2.1) 4 (nI 5))
def xRecA (x : XW) (kn : Nat) : XW := if kn = 6 then xRecB (xSh x) 5 else xRecB x kn
set_option maxRecDepth 100000 in
set_option maxHeartbeats 4000000 in
theorem rb_X8_recordAside (y0 : XW) (k1 : Nat) (hk : mF y0.2.1 4 = nI k1) (h5 : k1 ≤ 5) (a1 : Option Value) : PW MX8_recordAside 0 0 50 [some (.ref 171), a1] [] (hp y0) (Det (.inl none) (hp (xRecB y0 k1))) := by
  have L : ∀ k i, i + k = 132 → ∀ (y : XW) (hy : y = uM3 y0 (puN (132 * k1) i (mA y0.2.1) (mHi y0.2.1))), PW MX8_recordAside 0 0 52 [some (.ref 171), some (.int (nI i))] [] (hp y) (Det (.inl none) (hp (xRecB y0 k1))) := by
    intro k
    induction k with
    | zero =>
      intro i hi y hy
      have ei : i = 132 := by omega
      rw [ei]
      refine pw_iload_n (tk tkX8_recordAside 29 rfl) rfl ?_
      refine pw_sipush (v := 132) (tk tkX8_recordAside 30 rfl) (by decide) ?_
      refine pw_icmp_ge (tgt := 86) (tk tkX8_recordAside 31 rfl) (by decide) (fun c56 => ?_) (fun c56 => absurd (Int32.le_refl _) c56)
      refine pw_aload_n (tk tkX8_recordAside 47 rfl) rfl ?_
      refine pw_dup (tk tkX8_recordAside 48 rfl) rfl ?_
      refine g8_known (tk tkX8_recordAside 49 rfl) fkX8_36 ?_
      refine pw_iconst (v := 1) (tk tkX8_recordAside 50 rfl) (by decide) ?_
      refine pw_iadd (tk tkX8_recordAside 51 rfl) ?_
      refine p8_known (tk tkX8_recordAside 52 rfl) fkX8_36 ?_
      exact pw_return (tk tkX8_recordAside 53 rfl) rfl (by decide) ⟨rfl, by rw [ei] at hy; subst hy; unfold xRecB; rw [← nI_1, ← hk]; rfl⟩
    | succ k ih =>
      intro i hi y hy
      refine pw_iload_n (tk tkX8_recordAside 29 rfl) rfl ?_
      refine pw_sipush (v := 132) (tk tkX8_recordAside 30 rfl) (by decide) ?_
      refine pw_icmp_ge (tgt := 86) (tk tkX8_recordAside 31 rfl) (by decide) (fun c56 => absurd c56 (nI_ge (b := 132) (by omega) (by decide))) (fun c56 => ?_)
      refine pw_aload_n (tk tkX8_recordAside 32 rfl) rfl ?_
      refine g8_history (tk tkX8_recordAside 33 rfl) fkX8_16 ?_
      refine pw_sipush (v := 132) (tk tkX8_recordAside 34 rfl) (by decide) ?_
      refine pw_aload_n (tk tkX8_recordAside 35 rfl) rfl ?_
      refine g8_known (tk tkX8_recordAside 36 rfl) fkX8_36 ?_
      refine pw_imul (tk tkX8_recordAside 37 rfl) ?_
      refine pw_iload_n (tk tkX8_recordAside 38 rfl) rfl ?_
      refine pw_iadd (tk tkX8_recordAside 39 rfl) ?_
      refine pw_aload_n (tk tkX8_recordAside 40 rfl) rfl ?_
      refine g8_aside (tk tkX8_recordAside 41 rfl) fkX8_13 ?_
      refine pw_iload_n (tk tkX8_recordAside 42 rfl) rfl ?_
      refine al_aside_e (e := i) (tk tkX8_recordAside 43 rfl) rfl (by first | decide | omega) ?_
      refine as_mhist_e (e := 132 * k1 + i) (tk tkX8_recordAside 44 rfl) (by subst hy; show 132 * mF y0.2.1 4 + nI i = _; rw [hk]; simp only [lit_nI, nI_add, pk_mul]) (by first | decide | omega) ?_
      refine pw_inc1 (tk tkX8_recordAside 45 rfl) rfl (by decide) (nI_1 i) ?_
      refine pw_goto (tgt := 52) (tk tkX8_recordAside 46 rfl) (by decide) ?_
      refine ih (i + 1) (by omega) _ ?_
      rw [hy]
      show uM3 y0 (upd (puN (132 * k1) i (mA y0.2.1) (mHi y0.2.1)) (132 * k1 + i) (mA y0.2.1 i)) = _
      rw [puN_s]
  refine pw_iconst (v := 0) (tk tkX8_recordAside 27 rfl) (by decide) ?_
  refine pw_ist1 (tk tkX8_recordAside 28 rfl) rfl (by decide) ?_
  exact L 132 0 (by omega) y0 (by rw [puN_0]; rfl)
set_option maxRecDepth 100000 in
set_option maxHeartbeats 4000000 in
theorem ct_X8_recordAside (x : XW) (kn : Nat) (hk : mF x.2.1 4 = nI kn) (h6 : kn ≤ 6) : CT MX8_recordAside 0 0 [.ref 171] (hp x) (Det (.inl none) (hp (xRecA x kn))) := by
  refine ct_of (by decide +kernel) (by decide) rfl (k := 1) (ls := [some (.ref 171), none]) rfl (Nat.le_of_ble_eq_true rfl) ?_
  have L : ∀ k i, i + k = 660 → ∀ (y : XW) (hy : y = uM3 x (shK i (mHi x.2.1))) (h66 : kn = 6), PW MX8_recordAside 0 0 11 [some (.ref 171), some (.int (nI i))] [] (hp y) (Det (.inl none) (hp (xRecA x kn))) := by
    intro k
    induction k with
    | zero =>
      intro i hi y hy h66
      have ei : i = 660 := by omega
      rw [ei]
      refine pw_iload_n (tk tkX8_recordAside 6 rfl) rfl ?_
      refine pw_sipush (v := 660) (tk tkX8_recordAside 7 rfl) (by decide) ?_
      refine pw_icmp_ge (tgt := 40) (tk tkX8_recordAside 8 rfl) (by decide) (fun c15 => ?_) (fun c15 => absurd (Int32.le_refl _) c15)
      refine pw_aload_n (tk tkX8_recordAside 21 rfl) rfl ?_
      refine pw_dup (tk tkX8_recordAside 22 rfl) rfl ?_
      refine g8_known (tk tkX8_recordAside 23 rfl) fkX8_36 ?_
      refine pw_iconst (v := 1) (tk tkX8_recordAside 24 rfl) (by decide) ?_
      refine pw_isub (tk tkX8_recordAside 25 rfl) ?_
      refine p8_known (tk tkX8_recordAside 26 rfl) fkX8_36 ?_
      have e : uM7 y (upd (mF y.2.1) 4 (mF y.2.1 4 - 1)) = xSh x := by rw [ei] at hy; subst hy; unfold xSh; rw [show mF (uM3 x (shK 660 (mHi x.2.1))).2.1 4 = nI 6 from by rw [← h66]; exact hk]; rfl
      rw [e, show xRecA x kn = xRecB (xSh x) 5 from if_pos h66]
      exact rb_X8_recordAside (xSh x) 5 rfl (by decide) _
    | succ k ih =>
      intro i hi y hy h66
      refine pw_iload_n (tk tkX8_recordAside 6 rfl) rfl ?_
      refine pw_sipush (v := 660) (tk tkX8_recordAside 7 rfl) (by decide) ?_
      refine pw_icmp_ge (tgt := 40) (tk tkX8_recordAside 8 rfl) (by decide) (fun c15 => absurd c15 (nI_ge (b := 660) (by omega) (by decide))) (fun c15 => ?_)
      refine pw_aload_n (tk tkX8_recordAside 9 rfl) rfl ?_
      refine g8_history (tk tkX8_recordAside 10 rfl) fkX8_16 ?_
      refine pw_iload_n (tk tkX8_recordAside 11 rfl) rfl ?_
      refine pw_aload_n (tk tkX8_recordAside 12 rfl) rfl ?_
      refine g8_history (tk tkX8_recordAside 13 rfl) fkX8_16 ?_
      refine pw_iload_n (tk tkX8_recordAside 14 rfl) rfl ?_
      refine pw_sipush (v := 132) (tk tkX8_recordAside 15 rfl) (by decide) ?_
      refine pw_iadd (tk tkX8_recordAside 16 rfl) ?_
      refine al_mhist_e (e := i + 132) (tk tkX8_recordAside 17 rfl) (by simp only [lit_nI, nI_add]) (by first | decide | omega) ?_
      refine as_mhist_e (e := i) (tk tkX8_recordAside 18 rfl) rfl (by first | decide | omega) ?_
      refine pw_inc1 (tk tkX8_recordAside 19 rfl) rfl (by decide) (nI_1 i) ?_
      refine pw_goto (tgt := 11) (tk tkX8_recordAside 20 rfl) (by decide) ?_
      refine ih (i + 1) (by omega) _ ?_ h66
      rw [hy]
      show uM3 x (upd (shK i (mHi x.2.1)) i (shK i (mHi x.2.1) (i + 132))) = _
      rw [shK_s]
  refine pw_aload_n (tk tkX8_recordAside 0 rfl) rfl ?_
  refine g8_known (tk tkX8_recordAside 1 rfl) fkX8_36 ?_
  refine pw_bipush (v := 6) (tk tkX8_recordAside 2 rfl) (by decide) ?_
  rw [hk]
  refine pw_icmp_ne (tgt := 50) (tk tkX8_recordAside 3 rfl) (by decide) (fun c6 => ?_) (fun c6 => ?_)
  · rw [show xRecA x kn = xRecB x kn from if_neg (fun e => c6 (by rw [e]; rfl))]
    exact rb_X8_recordAside x kn hk (by have : kn ≠ 6 := fun e => c6 (by rw [e]; rfl); omega) _
  · refine pw_iconst (v := 0) (tk tkX8_recordAside 4 rfl) (by decide) ?_
    refine pw_ist1 (tk tkX8_recordAside 5 rfl) rfl (by decide) ?_
    exact L 660 0 (by omega) x (by rw [shK_0]; rfl) ((nI_eq (by omega) (by decide)).mp c6)
def xPA (x : XW) : XW := uM2 x (cpN 132 (mS x.2.1) (mA x.2.1))
def xPB (x : XW) : XW := uM1 x (cpN 132 (mA x.2.1) (mS x.2.1))
def xRec (x : XW) (kn : Nat) : XW := xRecA (xPA x) kn
set_option maxRecDepth 100000 in
set_option maxHeartbeats 4000000 in
theorem ct_X8_record (x : XW) (kn : Nat) (hk : mF x.2.1 4 = nI kn) (h6 : kn ≤ 6) : CT MX8_record 1 0 [.ref 171] (hp x) (Det (.inl none) (hp (xRec x kn))) := by
  refine ct_of (by decide +kernel) (by decide) rfl (k := 0) (ls := [some (.ref 171)]) rfl (Nat.le_of_ble_eq_true rfl) ?_
  refine pw_aload_n (tk tkX8_record 0 rfl) rfl ?_
  refine pw_cV0 (ct_X8_putAside x) okX8_putAside (tk tkX8_record 1 rfl) mkX8_39 imX8_putAside seX8_putAside (hp_ot _ 11) rfl rfl rfl (by decide) (by decide) (Nat.le_of_ble_eq_true rfl) ?_
  refine pw_aload_n (tk tkX8_record 2 rfl) rfl ?_
  refine pw_cV0 (ct_X8_recordAside (xPA x) kn hk h6) okX8_recordAside (tk tkX8_record 3 rfl) mkX8_42 imX8_recordAside seX8_recordAside (hp_ot _ 11) rfl rfl rfl (by decide) (by decide) (Nat.le_of_ble_eq_true rfl) ?_
  exact pw_return (tk tkX8_record 4 rfl) rfl (by decide) ⟨rfl, rfl⟩
def rN (s : Nat → Int32) (i k : Nat) : Int32 := s (26 + 9 * i + k)
def mkM (p : Nat → Bool) : Nat → Int32
  | 0 => 0
  | k + 1 => mkM p k ||| (if p k = true then 1 <<< (nI k &&& 31) else 0)
def seeN (s : Nat → Int32) (ev : Int32) (r : Nat) (v : Int32) (i : Nat) : Int32 := if ev = 1 then v else s (6 + 3 * r + (rN s i 1).toNatClampNeg)
def mtB (s : Nat → Int32) (ev : Int32) (r : Nat) (col v : Int32) (i : Nat) : Bool :=
  decide (rN s i 7 = 0) && (decide (rN s i 0 = ev) && ((decide (¬ ev = 1) || decide (rN s i 1 = col)) && decide (¬ seeN s ev r v i < rN s i 2)))
def mtC (s : Nat → Int32) (ev : Int32) (r : Nat) (col v : Int32) (isR : Bool) (i : Nat) : Bool := mtB s ev r col v i && (decide (rN s i 3 = 1) == isR)
theorem bI_inj {a b : Bool} : bI a = bI b ↔ a = b := by cases a <;> cases b <;> decide
set_option maxRecDepth 100000 in
set_option maxHeartbeats 4000000 in
theorem ct_X8_matching (x : XW) (u r : Nat) (hu : mS x.2.1 25 = nI u) (hu8 : u ≤ 8) (hr : r < 6) (hc : ∀ i, i < u → ∃ c, c < 3 ∧ rN (mS x.2.1) i 1 = nI c) (ev col v : Int32) (isR : Bool) : CT MX8_matching 1 0 [.ref 171, .int ev, .int (nI r), .int col, .int v, .int (bI isR)] (hp x) (Det (.inl (some (.int (mkM (mtC (mS x.2.1) ev r col v isR) u)))) (hp x)) := by
  refine ct_of (by decide +kernel) (by decide) rfl (k := 5) (ls := [some (.ref 171), some (.int ev), some (.int (nI r)), some (.int col), some (.int v), some (.int (bI isR)), none, none, none, none, none]) rfl (Nat.le_of_ble_eq_true rfl) ?_
  have L : ∀ k i, i + k = u → ∀ (a8 a9 a10 : Option Value), PW MX8_matching 1 0 6 [some (.ref 171), some (.int ev), some (.int (nI r)), some (.int col), some (.int v), some (.int (bI isR)), some (.int (mkM (mtC (mS x.2.1) ev r col v isR) i)), some (.int (nI i)), a8, a9, a10] [] (hp x) (Det (.inl (some (.int (mkM (mtC (mS x.2.1) ev r col v isR) u)))) (hp x)) := by
    intro k
    induction k with
    | zero =>
      intro i hi a8 a9 a10
      have ei : i = u := by omega
      rw [ei]
      refine pw_iload (tk tkX8_matching 4 rfl) rfl ?_
      refine pw_aload_n (tk tkX8_matching 5 rfl) rfl ?_
      refine g8_s (tk tkX8_matching 6 rfl) fkX8_7 ?_
      refine pw_bipush (v := 25) (tk tkX8_matching 7 rfl) (by decide) ?_
      refine al_s_e (e := 25) (tk tkX8_matching 8 rfl) (by first | rfl | simp only [lit_nI, nI_add, pk_mul]) (by first | decide | omega) ?_
      rw [hu]
      refine pw_icmp_ge (tgt := 147) (tk tkX8_matching 9 rfl) (by decide) (fun c15 => ?_) (fun c15 => absurd (Int32.le_refl _) c15)
      refine pw_iload (tk tkX8_matching 77 rfl) rfl ?_
      exact pw_ireturn (tk tkX8_matching 78 rfl) rfl (by decide) rfl ⟨rfl, rfl⟩
    | succ k ih =>
      intro i hi a8 a9 a10
      obtain ⟨c, hc3, hci⟩ := hc i (by omega)
      have e1 : mS x.2.1 (26 + 9 * i + 1) = nI c := hci
      have J102 : ∀ (b : Bool) (a9 : Option Value), b = mtB (mS x.2.1) ev r col v i → PW MX8_matching 1 0 102 [some (.ref 171), some (.int ev), some (.int (nI r)), some (.int col), some (.int v), some (.int (bI isR)), some (.int (mkM (mtC (mS x.2.1) ev r col v isR) i)), some (.int (nI i)), some (.int (nI c)), a9, some (.int (bI b))] [] (hp x) (Det (.inl (some (.int (mkM (mtC (mS x.2.1) ev r col v isR) u)))) (hp x)) := by
        intro b a9 hb
        have J137 : mtC (mS x.2.1) ev r col v isR i = false → PW MX8_matching 1 0 137 [some (.ref 171), some (.int ev), some (.int (nI r)), some (.int col), some (.int v), some (.int (bI isR)), some (.int (mkM (mtC (mS x.2.1) ev r col v isR) i)), some (.int (nI i)), some (.int (nI c)), a9, some (.int (bI b))] [.int (mkM (mtC (mS x.2.1) ev r col v isR) i)] (hp x) (Det (.inl (some (.int (mkM (mtC (mS x.2.1) ev r col v isR) u)))) (hp x)) := by
          intro hf
          refine pw_iconst (v := 0) (tk tkX8_matching 72 rfl) (by decide) ?_
          refine pw_ior (tk tkX8_matching 73 rfl) ?_
          refine pw_ist6 (tk tkX8_matching 74 rfl) rfl (by decide) ?_
          refine pw_inc7 (tk tkX8_matching 75 rfl) rfl (by decide) (nI_1 i) ?_
          refine pw_goto (tgt := 6) (tk tkX8_matching 76 rfl) (by decide) ?_
          have e9 : mkM (mtC (mS x.2.1) ev r col v isR) (i + 1) = mkM (mtC (mS x.2.1) ev r col v isR) i ||| 0 := by
            show _ ||| (if mtC (mS x.2.1) ev r col v isR i = true then _ else _) = _
            rw [if_neg (by rw [hf]; decide)]
          rw [← e9]
          exact ih (i + 1) (by omega) _ _ _
        refine pw_iload (tk tkX8_matching 54 rfl) rfl ?_
        refine pw_iload (tk tkX8_matching 55 rfl) rfl ?_
        refine pw_ifb (tgt := 137) (tk tkX8_matching 56 rfl) (by decide) (fun c106 => ?_) (fun c106 => ?_)
        · refine J137 ?_
          unfold mtC
          rw [← hb, c106]
          cases isR <;> first | rfl | (simp [rN, c106]; done) | exact absurd c127 (by decide) | exact absurd rfl c127
        · refine pw_aload_n (tk tkX8_matching 57 rfl) rfl ?_
          refine pw_iload (tk tkX8_matching 58 rfl) rfl ?_
          refine pw_iconst (v := 3) (tk tkX8_matching 59 rfl) (by decide) ?_
          refine pw_cV (ct_X8_at x i 3 (by omega)) okX8_at (tk tkX8_matching 60 rfl) mkX8_45 imX8_at seX8_at (hp_ot _ 11) rfl rfl rfl (by decide) (by decide) (Nat.le_of_ble_eq_true rfl) ?_
          refine pw_iconst (v := 1) (tk tkX8_matching 61 rfl) (by decide) ?_
          refine pw_icmp_ne (tgt := 124) (tk tkX8_matching 62 rfl) (by decide) (fun c117 => ?_) (fun c117 => ?_)
          · refine pw_iconst (v := 0) (tk tkX8_matching 65 rfl) (by decide) ?_
            refine pw_iload (tk tkX8_matching 66 rfl) rfl ?_
            refine pw_icmp_ne (tgt := 137) (tk tkX8_matching 67 rfl) (by decide) (fun c127 => ?_) (fun c127 => ?_)
            · refine J137 ?_
              unfold mtC
              rw [← hb, c106]
              cases isR <;> first | rfl | (simp [rN, c106, c117, c127]; done) | exact absurd c127 (by decide) | exact absurd rfl c127
            · refine pw_iconst (v := 1) (tk tkX8_matching 68 rfl) (by decide) ?_
              refine pw_iload (tk tkX8_matching 69 rfl) rfl ?_
              refine pw_ishl (tk tkX8_matching 70 rfl) ?_
              refine pw_goto (tgt := 138) (tk tkX8_matching 71 rfl) (by decide) ?_
              refine pw_ior (tk tkX8_matching 73 rfl) ?_
              refine pw_ist6 (tk tkX8_matching 74 rfl) rfl (by decide) ?_
              refine pw_inc7 (tk tkX8_matching 75 rfl) rfl (by decide) (nI_1 i) ?_
              refine pw_goto (tgt := 6) (tk tkX8_matching 76 rfl) (by decide) ?_
              have e9 : mkM (mtC (mS x.2.1) ev r col v isR) (i + 1) = mkM (mtC (mS x.2.1) ev r col v isR) i ||| 1 <<< (nI i &&& 31) := by
                show _ ||| (if mtC (mS x.2.1) ev r col v isR i = true then _ else _) = _
                rw [if_pos (by unfold mtC; rw [← hb, c106]; cases isR <;> first | rfl | (simp [rN, c106, c117, c127]; done) | exact absurd c127 (by decide) | exact absurd rfl c127)]
              rw [← e9]
              exact ih (i + 1) (by omega) _ _ _
          · refine pw_iconst (v := 1) (tk tkX8_matching 63 rfl) (by decide) ?_
            refine pw_goto (tgt := 125) (tk tkX8_matching 64 rfl) (by decide) ?_
            refine pw_iload (tk tkX8_matching 66 rfl) rfl ?_
            refine pw_icmp_ne (tgt := 137) (tk tkX8_matching 67 rfl) (by decide) (fun c127 => ?_) (fun c127 => ?_)
            · refine J137 ?_
              unfold mtC
              rw [← hb, c106]
              cases isR <;> first | rfl | (simp [rN, c106, c117, c127]; done) | exact absurd c127 (by decide) | exact absurd rfl c127
            · refine pw_iconst (v := 1) (tk tkX8_matching 68 rfl) (by decide) ?_
              refine pw_iload (tk tkX8_matching 69 rfl) rfl ?_
              refine pw_ishl (tk tkX8_matching 70 rfl) ?_
              refine pw_goto (tgt := 138) (tk tkX8_matching 71 rfl) (by decide) ?_
              refine pw_ior (tk tkX8_matching 73 rfl) ?_
              refine pw_ist6 (tk tkX8_matching 74 rfl) rfl (by decide) ?_
              refine pw_inc7 (tk tkX8_matching 75 rfl) rfl (by decide) (nI_1 i) ?_
              refine pw_goto (tgt := 6) (tk tkX8_matching 76 rfl) (by decide) ?_
              have e9 : mkM (mtC (mS x.2.1) ev r col v isR) (i + 1) = mkM (mtC (mS x.2.1) ev r col v isR) i ||| 1 <<< (nI i &&& 31) := by
                show _ ||| (if mtC (mS x.2.1) ev r col v isR i = true then _ else _) = _
                rw [if_pos (by unfold mtC; rw [← hb, c106]; cases isR <;> first | rfl | (simp [rN, c106, c117, c127]; done) | exact absurd c127 (by decide) | exact absurd rfl c127)]
              rw [← e9]
              exact ih (i + 1) (by omega) _ _ _
      have J50 : ∀ (w : Int32) (a10 : Option Value), w = seeN (mS x.2.1) ev r v i → PW MX8_matching 1 0 50 [some (.ref 171), some (.int ev), some (.int (nI r)), some (.int col), some (.int v), some (.int (bI isR)), some (.int (mkM (mtC (mS x.2.1) ev r col v isR) i)), some (.int (nI i)), some (.int (nI c)), some (.int w), a10] [] (hp x) (Det (.inl (some (.int (mkM (mtC (mS x.2.1) ev r col v isR) u)))) (hp x)) := by
        intro w a10 hw
        refine pw_aload_n (tk tkX8_matching 27 rfl) rfl ?_
        refine pw_iload (tk tkX8_matching 28 rfl) rfl ?_
        refine pw_bipush (v := 7) (tk tkX8_matching 29 rfl) (by decide) ?_
        refine pw_cV (ct_X8_at x i 7 (by omega)) okX8_at (tk tkX8_matching 30 rfl) mkX8_45 imX8_at seX8_at (hp_ot _ 11) rfl rfl rfl (by decide) (by decide) (Nat.le_of_ble_eq_true rfl) ?_
        refine pw_if_ne (tgt := 99) (tk tkX8_matching 31 rfl) (by decide) (fun c58 => ?_) (fun c58 => ?_)
        · refine pw_iconst (v := 0) (tk tkX8_matching 52 rfl) (by decide) ?_
          refine pw_ist10 (tk tkX8_matching 53 rfl) rfl (by decide) ?_
          exact J102 false _ (by unfold mtB; rw [← hw]; simp [rN, e1, c58])
        · refine pw_aload_n (tk tkX8_matching 32 rfl) rfl ?_
          refine pw_iload (tk tkX8_matching 33 rfl) rfl ?_
          refine pw_iconst (v := 0) (tk tkX8_matching 34 rfl) (by decide) ?_
          refine pw_cV (ct_X8_at x i 0 (by omega)) okX8_at (tk tkX8_matching 35 rfl) mkX8_45 imX8_at seX8_at (hp_ot _ 11) rfl rfl rfl (by decide) (by decide) (Nat.le_of_ble_eq_true rfl) ?_
          rw [show 26 + 9 * i + 0 = 26 + 9 * i from rfl]
          refine pw_iload_n (tk tkX8_matching 36 rfl) rfl ?_
          refine pw_icmp_ne (tgt := 99) (tk tkX8_matching 37 rfl) (by decide) (fun c69 => ?_) (fun c69 => ?_)
          · refine pw_iconst (v := 0) (tk tkX8_matching 52 rfl) (by decide) ?_
            refine pw_ist10 (tk tkX8_matching 53 rfl) rfl (by decide) ?_
            exact J102 false _ (by unfold mtB; rw [← hw]; simp [rN, e1, c58, c69])
          · refine pw_iload_n (tk tkX8_matching 38 rfl) rfl ?_
            refine pw_iconst (v := 1) (tk tkX8_matching 39 rfl) (by decide) ?_
            refine pw_icmp_ne (tgt := 83) (tk tkX8_matching 40 rfl) (by decide) (fun c74 => ?_) (fun c74 => ?_)
            · refine pw_iload (tk tkX8_matching 44 rfl) rfl ?_
              refine pw_aload_n (tk tkX8_matching 45 rfl) rfl ?_
              refine pw_iload (tk tkX8_matching 46 rfl) rfl ?_
              refine pw_iconst (v := 2) (tk tkX8_matching 47 rfl) (by decide) ?_
              refine pw_cV (ct_X8_at x i 2 (by omega)) okX8_at (tk tkX8_matching 48 rfl) mkX8_45 imX8_at seX8_at (hp_ot _ 11) rfl rfl rfl (by decide) (by decide) (Nat.le_of_ble_eq_true rfl) ?_
              refine pw_icmp_lt (tgt := 99) (tk tkX8_matching 49 rfl) (by decide) (fun c92 => ?_) (fun c92 => ?_)
              · refine pw_iconst (v := 0) (tk tkX8_matching 52 rfl) (by decide) ?_
                refine pw_ist10 (tk tkX8_matching 53 rfl) rfl (by decide) ?_
                exact J102 false _ (by unfold mtB; rw [← hw]; simp [rN, e1, c58, c69, c74, c92])
              · refine pw_iconst (v := 1) (tk tkX8_matching 50 rfl) (by decide) ?_
                refine pw_goto (tgt := 100) (tk tkX8_matching 51 rfl) (by decide) ?_
                refine pw_ist10 (tk tkX8_matching 53 rfl) rfl (by decide) ?_
                exact J102 true _ (by unfold mtB; rw [← hw]; simp [rN, e1, c58, c69, c74, c92])
            · refine pw_iload (tk tkX8_matching 41 rfl) rfl ?_
              refine pw_iload_n (tk tkX8_matching 42 rfl) rfl ?_
              refine pw_icmp_ne (tgt := 99) (tk tkX8_matching 43 rfl) (by decide) (fun c80 => ?_) (fun c80 => ?_)
              · refine pw_iconst (v := 0) (tk tkX8_matching 52 rfl) (by decide) ?_
                refine pw_ist10 (tk tkX8_matching 53 rfl) rfl (by decide) ?_
                exact J102 false _ (by unfold mtB; rw [← hw]; simp [rN, e1, c58, c69, c74, c80])
              · refine pw_iload (tk tkX8_matching 44 rfl) rfl ?_
                refine pw_aload_n (tk tkX8_matching 45 rfl) rfl ?_
                refine pw_iload (tk tkX8_matching 46 rfl) rfl ?_
                refine pw_iconst (v := 2) (tk tkX8_matching 47 rfl) (by decide) ?_
                refine pw_cV (ct_X8_at x i 2 (by omega)) okX8_at (tk tkX8_matching 48 rfl) mkX8_45 imX8_at seX8_at (hp_ot _ 11) rfl rfl rfl (by decide) (by decide) (Nat.le_of_ble_eq_true rfl) ?_
                refine pw_icmp_lt (tgt := 99) (tk tkX8_matching 49 rfl) (by decide) (fun c92 => ?_) (fun c92 => ?_)
                · refine pw_iconst (v := 0) (tk tkX8_matching 52 rfl) (by decide) ?_
                  refine pw_ist10 (tk tkX8_matching 53 rfl) rfl (by decide) ?_
                  exact J102 false _ (by unfold mtB; rw [← hw]; simp [rN, e1, c58, c69, c74, c80, c92])
                · refine pw_iconst (v := 1) (tk tkX8_matching 50 rfl) (by decide) ?_
                  refine pw_goto (tgt := 100) (tk tkX8_matching 51 rfl) (by decide) ?_
                  refine pw_ist10 (tk tkX8_matching 53 rfl) rfl (by decide) ?_
                  exact J102 true _ (by unfold mtB; rw [← hw]; simp [rN, e1, c58, c69, c74, c80, c92])
      have J27 : ∀ (a9 a10 : Option Value), PW MX8_matching 1 0 27 [some (.ref 171), some (.int ev), some (.int (nI r)), some (.int col), some (.int v), some (.int (bI isR)), some (.int (mkM (mtC (mS x.2.1) ev r col v isR) i)), some (.int (nI i)), some (.int (mS x.2.1 (26 + 9 * i + 1))), a9, a10] [] (hp x) (Det (.inl (some (.int (mkM (mtC (mS x.2.1) ev r col v isR) u)))) (hp x)) := by
        intro a9 a10
        rw [e1]
        refine pw_iload_n (tk tkX8_matching 15 rfl) rfl ?_
        refine pw_iconst (v := 1) (tk tkX8_matching 16 rfl) (by decide) ?_
        refine pw_icmp_ne (tgt := 37) (tk tkX8_matching 17 rfl) (by decide) (fun c29 => ?_) (fun c29 => ?_)
        · refine pw_aload_n (tk tkX8_matching 20 rfl) rfl ?_
          refine g8_s (tk tkX8_matching 21 rfl) fkX8_7 ?_
          refine pw_iload_n (tk tkX8_matching 22 rfl) rfl ?_
          refine pw_iload (tk tkX8_matching 23 rfl) rfl ?_
          refine pw_cS (ct_X8_of _ r c) okX8_of (tk tkX8_matching 24 rfl) mkX8_49 stX8_of rfl rfl (by decide) (by decide) (Nat.le_of_ble_eq_true rfl) ?_
          refine al_s_e (e := 6 + 3 * r + c) (tk tkX8_matching 25 rfl) rfl (by first | decide | omega) ?_
          refine pw_ist9 (tk tkX8_matching 26 rfl) rfl (by decide) ?_
          exact J50 _ _ (by simp [seeN, rN, e1, nI_clamp (show c < 2 ^ 31 by omega), c29])
        · refine pw_iload (tk tkX8_matching 18 rfl) rfl ?_
          refine pw_goto (tgt := 48) (tk tkX8_matching 19 rfl) (by decide) ?_
          refine pw_ist9 (tk tkX8_matching 26 rfl) rfl (by decide) ?_
          exact J50 _ _ (by simp [seeN, rN, e1, nI_clamp (show c < 2 ^ 31 by omega), c29])
      refine pw_iload (tk tkX8_matching 4 rfl) rfl ?_
      refine pw_aload_n (tk tkX8_matching 5 rfl) rfl ?_
      refine g8_s (tk tkX8_matching 6 rfl) fkX8_7 ?_
      refine pw_bipush (v := 25) (tk tkX8_matching 7 rfl) (by decide) ?_
      refine al_s_e (e := 25) (tk tkX8_matching 8 rfl) (by first | rfl | simp only [lit_nI, nI_add, pk_mul]) (by first | decide | omega) ?_
      rw [hu]
      refine pw_icmp_ge (tgt := 147) (tk tkX8_matching 9 rfl) (by decide) (fun c15 => absurd c15 (nI_ge (by omega) (by omega))) (fun c15 => ?_)
      refine pw_aload_n (tk tkX8_matching 10 rfl) rfl ?_
      refine pw_iload (tk tkX8_matching 11 rfl) rfl ?_
      refine pw_iconst (v := 1) (tk tkX8_matching 12 rfl) (by decide) ?_
      refine pw_cV (ct_X8_at x i 1 (by omega)) okX8_at (tk tkX8_matching 13 rfl) mkX8_45 imX8_at seX8_at (hp_ot _ 11) rfl rfl rfl (by decide) (by decide) (Nat.le_of_ble_eq_true rfl) ?_
      refine pw_ist8 (tk tkX8_matching 14 rfl) rfl (by decide) ?_
      exact J27 _ _
  refine pw_iconst (v := 0) (tk tkX8_matching 0 rfl) (by decide) ?_
  refine pw_ist6 (tk tkX8_matching 1 rfl) rfl (by decide) ?_
  refine pw_iconst (v := 0) (tk tkX8_matching 2 rfl) (by decide) ?_
  refine pw_ist7 (tk tkX8_matching 3 rfl) rfl (by decide) ?_
  exact L u 0 (by omega) _ _ _
