theorem or_if (w : Int32) (a b : Bool) : (if a = true then w else 0) ||| (if b = true then w else 0) = if (a || b) = true then w else 0 := by cases a <;> cases b <;> simp
theorem mk_or (p q : Nat → Bool) : ∀ (u : Nat), mkM p u ||| mkM q u = mkM (fun j => p j || q j) u
  | 0 => (Int32.or_zero : (0 : Int32) ||| 0 = 0)
  | u + 1 => by
    have e : ∀ a b c d : Int32, (a ||| c) ||| (b ||| d) = (a ||| b) ||| (c ||| d) := fun a b c d => by
      rw [Int32.or_assoc, Int32.or_assoc, ← Int32.or_assoc c b d, Int32.or_comm c b, Int32.or_assoc b c d]
    exact (e _ _ _ _).trans (by rw [mk_or p q u, or_if]; rfl)
def sumF (s : Nat → Int32) (c : Nat) : Nat → Int32
  | 0 => 0
  | k + 1 => sumF s c k + (if s k = 1 then s (6 + 3 * k + c) else 0)
def ssumOf (a : AM) (c : Int32) : RS3 := if inR c 0 2 = false then (1, 0, a) else (0, sumF (aS a) c.toNatClampNeg 6, a)
set_option maxRecDepth 100000 in
set_option maxHeartbeats 4000000 in
theorem ct_X8_sumOf (x : XW) (hx : VM x.2.1) (c : Int32) : CT MX8_sumOf 3 0 [.ref 171, .int c] (hp x) (MOQ x (ssumOf (aOf x.2.1) c)) := by
  refine ct_of (by decide +kernel) (by decide) rfl (k := 2) (ls := [some (.ref 171), some (.int c), none, none]) rfl (Nat.le_of_ble_eq_true rfl) ?_
  obtain ⟨hu, hu8⟩ := hx.u
  obtain ⟨l99, hl, el⟩ := hx.l
  have hv : VS (uN (mS x.2.1)) (mS x.2.1) := hx.2.2.2.2.2
  have L : ∀ k i, i + k = 6 → ∀ (c1 : Nat) (hc : c1 < 3) (ec : c = nI c1) (he : ssumOf (aOf x.2.1) c = (0, sumF (mS x.2.1) c1 6, aOf x.2.1)), PW MX8_sumOf 3 0 25 [some (.ref 171), some (.int c), some (.int (sumF (mS x.2.1) c1 i)), some (.int (nI i))] [] (hp (xThr x 0)) (MOQ x (ssumOf (aOf x.2.1) c)) := by
    intro k
    induction k with
    | zero =>
      intro i hi c1 hc ec he
      have ei : i = 6 := by omega
      rw [ei]
      refine pw_iload_n (tk tkX8_sumOf 15 rfl) rfl ?_
      refine pw_bipush (v := 6) (tk tkX8_sumOf 16 rfl) (by decide) ?_
      refine pw_icmp_ge (tgt := 66) (tk tkX8_sumOf 17 rfl) (by decide) (fun c28 => ?_) (fun c28 => absurd (Int32.le_refl _) c28)
      refine pw_iload_n (tk tkX8_sumOf 39 rfl) rfl ?_
      refine pw_ireturn (tk tkX8_sumOf 40 rfl) rfl (by decide) rfl ?_
      rw [he]
      exact ⟨_, rfl, rfl, rfl, rfl, rfl, hx, AE.rf _⟩
    | succ k ih =>
      intro i hi c1 hc ec he
      refine pw_iload_n (tk tkX8_sumOf 15 rfl) rfl ?_
      refine pw_bipush (v := 6) (tk tkX8_sumOf 16 rfl) (by decide) ?_
      refine pw_icmp_ge (tgt := 66) (tk tkX8_sumOf 17 rfl) (by decide) (fun c28 => absurd c28 (nI_ge (b := 6) (by omega) (by decide))) (fun c28 => ?_)
      refine pw_iload_n (tk tkX8_sumOf 18 rfl) rfl ?_
      refine pw_aload_n (tk tkX8_sumOf 19 rfl) rfl ?_
      refine g8_s (tk tkX8_sumOf 20 rfl) fkX8_7 ?_
      refine pw_iconst (v := 0) (tk tkX8_sumOf 21 rfl) (by decide) ?_
      refine pw_iload_n (tk tkX8_sumOf 22 rfl) rfl ?_
      refine pw_iadd (tk tkX8_sumOf 23 rfl) ?_
      refine al_s_e (e := i) (tk tkX8_sumOf 24 rfl) (Int32.zero_add _) (by first | decide | omega) ?_
      refine pw_iconst (v := 1) (tk tkX8_sumOf 25 rfl) (by decide) ?_
      refine pw_icmp_ne (tgt := 57) (tk tkX8_sumOf 26 rfl) (by decide) (fun c41 => ?_) (fun c41 => ?_)
      · refine pw_iconst (v := 0) (tk tkX8_sumOf 34 rfl) (by decide) ?_
        refine pw_iadd (tk tkX8_sumOf 35 rfl) ?_
        refine pw_ist2 (tk tkX8_sumOf 36 rfl) rfl (by decide) ?_
        refine pw_inc3 (tk tkX8_sumOf 37 rfl) rfl (by decide) (nI_1 i) ?_
        refine pw_goto (tgt := 25) (tk tkX8_sumOf 38 rfl) (by decide) ?_
        have e9 : sumF (mS x.2.1) c1 (i + 1) = sumF (mS x.2.1) c1 i + 0 := by
          show _ + (if _ then _ else _) = _
          rw [if_neg (show ¬ mS x.2.1 i = 1 from c41)]
        rw [← e9]
        exact ih (i + 1) (by omega) c1 hc ec he
      · refine pw_aload_n (tk tkX8_sumOf 27 rfl) rfl ?_
        refine g8_s (tk tkX8_sumOf 28 rfl) fkX8_7 ?_
        refine pw_iload_n (tk tkX8_sumOf 29 rfl) rfl ?_
        refine pw_iload_n (tk tkX8_sumOf 30 rfl) rfl ?_
        refine pw_cS (ct_X8_ofW _ _ _) okX8_of (tk tkX8_sumOf 31 rfl) mkX8_49 stX8_of rfl rfl (by decide) (by decide) (Nat.le_of_ble_eq_true rfl) ?_
        refine al_s_e (e := 6 + 3 * i + c1) (tk tkX8_sumOf 32 rfl) (of_ix rfl ec) (by first | decide | omega) ?_
        refine pw_goto (tgt := 58) (tk tkX8_sumOf 33 rfl) (by decide) ?_
        refine pw_iadd (tk tkX8_sumOf 35 rfl) ?_
        refine pw_ist2 (tk tkX8_sumOf 36 rfl) rfl (by decide) ?_
        refine pw_inc3 (tk tkX8_sumOf 37 rfl) rfl (by decide) (nI_1 i) ?_
        refine pw_goto (tgt := 25) (tk tkX8_sumOf 38 rfl) (by decide) ?_
        have e9 : sumF (mS x.2.1) c1 (i + 1) = sumF (mS x.2.1) c1 i + mS (xThr x 0).2.1 (6 + 3 * i + c1) := by
          show _ + (if _ then _ else _) = _
          rw [if_pos (show mS x.2.1 i = 1 from c41)]; exact rfl --]
        rw [← e9]
        exact ih (i + 1) (by omega) c1 hc ec he
  refine pw_aload_n (tk tkX8_sumOf 0 rfl) rfl ?_
  refine pw_iload_n (tk tkX8_sumOf 1 rfl) rfl ?_
  refine pw_cS (ct_X8_isColumn _ _) okX8_isColumn (tk tkX8_sumOf 2 rfl) mkX8_94 stX8_isColumn rfl rfl (by decide) (by decide) (Nat.le_of_ble_eq_true rfl) ?_
  refine pw_ifb (tgt := 12) (tk tkX8_sumOf 3 rfl) (by decide) (fun c5 => ?_) (fun c5 => ?_)
  · refine pw_iconst (v := 1) (tk tkX8_sumOf 6 rfl) (by decide) ?_
    refine pw_cV (ct_X8_holds x _) okX8_holds (tk tkX8_sumOf 7 rfl) mkX8_97 imX8_holds seX8_holds (hp_ot _ 11) rfl rfl rfl (by decide) (by decide) (Nat.le_of_ble_eq_true rfl) ?_
    refine pw_ifnb (tgt := 21) (tk tkX8_sumOf 8 rfl) (by decide) (fun c16 => absurd c16 (by decide)) (fun c16 => ?_)
    refine pw_iconst (v := 0) (tk tkX8_sumOf 9 rfl) (by decide) ?_
    refine pw_ireturn (tk tkX8_sumOf 10 rfl) rfl (by decide) rfl ?_
    have e : ssumOf (aOf x.2.1) c = (1, 0, aOf x.2.1) := (if_pos c5)
    rw [e]
    exact ⟨_, rfl, rfl, rfl, rfl, rfl, hx, AE.rf _⟩
  · refine pw_iconst (v := 0) (tk tkX8_sumOf 4 rfl) (by decide) ?_
    refine pw_goto (tgt := 13) (tk tkX8_sumOf 5 rfl) (by decide) ?_
    refine pw_cV (ct_X8_holds x _) okX8_holds (tk tkX8_sumOf 7 rfl) mkX8_97 imX8_holds seX8_holds (hp_ot _ 11) rfl rfl rfl (by decide) (by decide) (Nat.le_of_ble_eq_true rfl) ?_
    refine pw_ifnb (tgt := 21) (tk tkX8_sumOf 8 rfl) (by decide) (fun c16 => ?_) (fun c16 => absurd c16 (by decide))
    refine pw_iconst (v := 0) (tk tkX8_sumOf 11 rfl) (by decide) ?_
    refine pw_ist2 (tk tkX8_sumOf 12 rfl) rfl (by decide) ?_
    refine pw_iconst (v := 0) (tk tkX8_sumOf 13 rfl) (by decide) ?_
    refine pw_ist3 (tk tkX8_sumOf 14 rfl) rfl (by decide) ?_
    obtain ⟨c1, hc, ec, ec2⟩ := inR_col c5
    exact L 6 0 (by omega) c1 hc ec ((if_neg (ne_f c5)).trans (by rw [ec2]; rfl))
def stO (s : Nat → Int32) (i j : Nat) : Bool := decide (rN s i 7 = 0) && (decide (rN s j 7 = 0) && ((decide (rN s i 3 = 2) && (decide (rN s j 0 = 1) && decide (rN s j 1 = rN s i 5))) || (decide (rN s i 3 = 3) && decide (rN s j 0 = 2))))
set_option maxRecDepth 100000 in
set_option maxHeartbeats 4000000 in
theorem ct_X8_setsOff (x : XW) (i j : Nat) (hi : i < 8) (hj : j < 8) : CT MX8_setsOff 1 0 [.ref 171, .int (nI i), .int (nI j)] (hp x) (Det (.inl (some (.int (bI (stO (mS x.2.1) i j))))) (hp x)) := by
  refine ct_of (by decide +kernel) (by decide) rfl (k := 2) (ls := [some (.ref 171), some (.int (nI i)), some (.int (nI j)), none, none]) rfl (Nat.le_of_ble_eq_true rfl) ?_
  have n3 : (3 : Int32) ≠ 2 := by decide
  have k1 : ∀ z, (bI true = z) = (1 = z) := fun _ => rfl
  have k0 : ∀ z, (bI false = z) = (0 = z) := fun _ => rfl
  refine pw_aload_n (tk tkX8_setsOff 0 rfl) rfl ?_
  refine pw_iload_n (tk tkX8_setsOff 1 rfl) rfl ?_
  refine pw_iconst (v := 3) (tk tkX8_setsOff 2 rfl) (by decide) ?_
  refine pw_cV (ct_X8_at x i 3 (by omega)) okX8_at (tk tkX8_setsOff 3 rfl) mkX8_45 imX8_at seX8_at (hp_ot _ 11) rfl rfl rfl (by decide) (by decide) (Nat.le_of_ble_eq_true rfl) ?_
  refine pw_iconst (v := 2) (tk tkX8_setsOff 4 rfl) (by decide) ?_
  refine pw_icmp_ne (tgt := 39) (tk tkX8_setsOff 5 rfl) (by decide) (fun c7 => ?_) (fun c7 => ?_)
  · refine pw_iconst (v := 0) (tk tkX8_setsOff 23 rfl) (by decide) ?_
    refine pw_ist3 (tk tkX8_setsOff 24 rfl) rfl (by decide) ?_
    refine pw_aload_n (tk tkX8_setsOff 25 rfl) rfl ?_
    refine pw_iload_n (tk tkX8_setsOff 26 rfl) rfl ?_
    refine pw_iconst (v := 3) (tk tkX8_setsOff 27 rfl) (by decide) ?_
    refine pw_cV (ct_X8_at x i 3 (by omega)) okX8_at (tk tkX8_setsOff 28 rfl) mkX8_45 imX8_at seX8_at (hp_ot _ 11) rfl rfl rfl (by decide) (by decide) (Nat.le_of_ble_eq_true rfl) ?_
    refine pw_iconst (v := 3) (tk tkX8_setsOff 29 rfl) (by decide) ?_
    refine pw_icmp_ne (tgt := 65) (tk tkX8_setsOff 30 rfl) (by decide) (fun c48 => ?_) (fun c48 => ?_)
    · refine pw_iconst (v := 0) (tk tkX8_setsOff 39 rfl) (by decide) ?_
      refine pw_ist4 (tk tkX8_setsOff 40 rfl) rfl (by decide) ?_
      refine pw_aload_n (tk tkX8_setsOff 41 rfl) rfl ?_
      refine pw_iload_n (tk tkX8_setsOff 42 rfl) rfl ?_
      refine pw_bipush (v := 7) (tk tkX8_setsOff 43 rfl) (by decide) ?_
      refine pw_cV (ct_X8_at x i 7 (by omega)) okX8_at (tk tkX8_setsOff 44 rfl) mkX8_45 imX8_at seX8_at (hp_ot _ 11) rfl rfl rfl (by decide) (by decide) (Nat.le_of_ble_eq_true rfl) ?_
      refine pw_if_ne (tgt := 101) (tk tkX8_setsOff 45 rfl) (by decide) (fun c75 => ?_) (fun c75 => ?_)
      · refine pw_iconst (v := 0) (tk tkX8_setsOff 57 rfl) (by decide) ?_
        refine pw_ireturn (tk tkX8_setsOff 58 rfl) rfl (by decide) (by first | rfl | exact nar_bI _) ?_
        refine ⟨congrArg (fun b => Sum.inl (some (Value.int (bI b)))) (show false = stO (mS x.2.1) i j from ?_), rfl⟩
        unfold stO rN
        simp [c7, c48, c75]
      · refine pw_aload_n (tk tkX8_setsOff 46 rfl) rfl ?_
        refine pw_iload_n (tk tkX8_setsOff 47 rfl) rfl ?_
        refine pw_bipush (v := 7) (tk tkX8_setsOff 48 rfl) (by decide) ?_
        refine pw_cV (ct_X8_at x j 7 (by omega)) okX8_at (tk tkX8_setsOff 49 rfl) mkX8_45 imX8_at seX8_at (hp_ot _ 11) rfl rfl rfl (by decide) (by decide) (Nat.le_of_ble_eq_true rfl) ?_
        refine pw_if_ne (tgt := 101) (tk tkX8_setsOff 50 rfl) (by decide) (fun c85 => ?_) (fun c85 => ?_)
        · refine pw_iconst (v := 0) (tk tkX8_setsOff 57 rfl) (by decide) ?_
          refine pw_ireturn (tk tkX8_setsOff 58 rfl) rfl (by decide) (by first | rfl | exact nar_bI _) ?_
          refine ⟨congrArg (fun b => Sum.inl (some (Value.int (bI b)))) (show false = stO (mS x.2.1) i j from ?_), rfl⟩
          unfold stO rN
          simp [c7, c48, c75, c85]
        · refine pw_iload_n (tk tkX8_setsOff 51 rfl) rfl ?_
          refine pw_if_ne (tgt := 97) (tk tkX8_setsOff 52 rfl) (by decide) (fun c89 => c89 (by decide) |>.elim) (fun c89 => ?_)
          refine pw_iload (tk tkX8_setsOff 53 rfl) rfl ?_
          refine pw_if_eq (tgt := 101) (tk tkX8_setsOff 54 rfl) (by decide) (fun c94 => ?_) (fun c94 => c94 (by decide) |>.elim)
          refine pw_iconst (v := 0) (tk tkX8_setsOff 57 rfl) (by decide) ?_
          refine pw_ireturn (tk tkX8_setsOff 58 rfl) rfl (by decide) (by first | rfl | exact nar_bI _) ?_
          refine ⟨congrArg (fun b => Sum.inl (some (Value.int (bI b)))) (show false = stO (mS x.2.1) i j from ?_), rfl⟩
          unfold stO rN
          simp [c7, c48, c75, c85]
    · refine pw_aload_n (tk tkX8_setsOff 31 rfl) rfl ?_
      refine pw_iload_n (tk tkX8_setsOff 32 rfl) rfl ?_
      refine pw_iconst (v := 0) (tk tkX8_setsOff 33 rfl) (by decide) ?_
      refine pw_cV (ct_X8_at x j 0 (by omega)) okX8_at (tk tkX8_setsOff 34 rfl) mkX8_45 imX8_at seX8_at (hp_ot _ 11) rfl rfl rfl (by decide) (by decide) (Nat.le_of_ble_eq_true rfl) ?_
      rw [show 26 + 9 * j + 0 = 26 + 9 * j from rfl]
      refine pw_iconst (v := 2) (tk tkX8_setsOff 35 rfl) (by decide) ?_
      refine pw_icmp_ne (tgt := 65) (tk tkX8_setsOff 36 rfl) (by decide) (fun c58 => ?_) (fun c58 => ?_)
      · refine pw_iconst (v := 0) (tk tkX8_setsOff 39 rfl) (by decide) ?_
        refine pw_ist4 (tk tkX8_setsOff 40 rfl) rfl (by decide) ?_
        refine pw_aload_n (tk tkX8_setsOff 41 rfl) rfl ?_
        refine pw_iload_n (tk tkX8_setsOff 42 rfl) rfl ?_
        refine pw_bipush (v := 7) (tk tkX8_setsOff 43 rfl) (by decide) ?_
        refine pw_cV (ct_X8_at x i 7 (by omega)) okX8_at (tk tkX8_setsOff 44 rfl) mkX8_45 imX8_at seX8_at (hp_ot _ 11) rfl rfl rfl (by decide) (by decide) (Nat.le_of_ble_eq_true rfl) ?_
        refine pw_if_ne (tgt := 101) (tk tkX8_setsOff 45 rfl) (by decide) (fun c75 => ?_) (fun c75 => ?_)
        · refine pw_iconst (v := 0) (tk tkX8_setsOff 57 rfl) (by decide) ?_
          refine pw_ireturn (tk tkX8_setsOff 58 rfl) rfl (by decide) (by first | rfl | exact nar_bI _) ?_
          refine ⟨congrArg (fun b => Sum.inl (some (Value.int (bI b)))) (show false = stO (mS x.2.1) i j from ?_), rfl⟩
          unfold stO rN
          simp [c7, c48, c58, c75]
        · refine pw_aload_n (tk tkX8_setsOff 46 rfl) rfl ?_
          refine pw_iload_n (tk tkX8_setsOff 47 rfl) rfl ?_
          refine pw_bipush (v := 7) (tk tkX8_setsOff 48 rfl) (by decide) ?_
          refine pw_cV (ct_X8_at x j 7 (by omega)) okX8_at (tk tkX8_setsOff 49 rfl) mkX8_45 imX8_at seX8_at (hp_ot _ 11) rfl rfl rfl (by decide) (by decide) (Nat.le_of_ble_eq_true rfl) ?_
          refine pw_if_ne (tgt := 101) (tk tkX8_setsOff 50 rfl) (by decide) (fun c85 => ?_) (fun c85 => ?_)
          · refine pw_iconst (v := 0) (tk tkX8_setsOff 57 rfl) (by decide) ?_
            refine pw_ireturn (tk tkX8_setsOff 58 rfl) rfl (by decide) (by first | rfl | exact nar_bI _) ?_
            refine ⟨congrArg (fun b => Sum.inl (some (Value.int (bI b)))) (show false = stO (mS x.2.1) i j from ?_), rfl⟩
            unfold stO rN
            simp [c7, c48, c58, c75, c85]
          · refine pw_iload_n (tk tkX8_setsOff 51 rfl) rfl ?_
            refine pw_if_ne (tgt := 97) (tk tkX8_setsOff 52 rfl) (by decide) (fun c89 => c89 (by decide) |>.elim) (fun c89 => ?_)
            refine pw_iload (tk tkX8_setsOff 53 rfl) rfl ?_
            refine pw_if_eq (tgt := 101) (tk tkX8_setsOff 54 rfl) (by decide) (fun c94 => ?_) (fun c94 => c94 (by decide) |>.elim)
            refine pw_iconst (v := 0) (tk tkX8_setsOff 57 rfl) (by decide) ?_
            refine pw_ireturn (tk tkX8_setsOff 58 rfl) rfl (by decide) (by first | rfl | exact nar_bI _) ?_
            refine ⟨congrArg (fun b => Sum.inl (some (Value.int (bI b)))) (show false = stO (mS x.2.1) i j from ?_), rfl⟩
            unfold stO rN
            simp [c7, c48, c58, c75, c85]
      · refine pw_iconst (v := 1) (tk tkX8_setsOff 37 rfl) (by decide) ?_
        refine pw_goto (tgt := 66) (tk tkX8_setsOff 38 rfl) (by decide) ?_
        refine pw_ist4 (tk tkX8_setsOff 40 rfl) rfl (by decide) ?_
        refine pw_aload_n (tk tkX8_setsOff 41 rfl) rfl ?_
        refine pw_iload_n (tk tkX8_setsOff 42 rfl) rfl ?_
        refine pw_bipush (v := 7) (tk tkX8_setsOff 43 rfl) (by decide) ?_
        refine pw_cV (ct_X8_at x i 7 (by omega)) okX8_at (tk tkX8_setsOff 44 rfl) mkX8_45 imX8_at seX8_at (hp_ot _ 11) rfl rfl rfl (by decide) (by decide) (Nat.le_of_ble_eq_true rfl) ?_
        refine pw_if_ne (tgt := 101) (tk tkX8_setsOff 45 rfl) (by decide) (fun c75 => ?_) (fun c75 => ?_)
        · refine pw_iconst (v := 0) (tk tkX8_setsOff 57 rfl) (by decide) ?_
          refine pw_ireturn (tk tkX8_setsOff 58 rfl) rfl (by decide) (by first | rfl | exact nar_bI _) ?_
          refine ⟨congrArg (fun b => Sum.inl (some (Value.int (bI b)))) (show false = stO (mS x.2.1) i j from ?_), rfl⟩
          unfold stO rN
          simp [c7, c48, c58, c75]
        · refine pw_aload_n (tk tkX8_setsOff 46 rfl) rfl ?_
          refine pw_iload_n (tk tkX8_setsOff 47 rfl) rfl ?_
          refine pw_bipush (v := 7) (tk tkX8_setsOff 48 rfl) (by decide) ?_
          refine pw_cV (ct_X8_at x j 7 (by omega)) okX8_at (tk tkX8_setsOff 49 rfl) mkX8_45 imX8_at seX8_at (hp_ot _ 11) rfl rfl rfl (by decide) (by decide) (Nat.le_of_ble_eq_true rfl) ?_
          refine pw_if_ne (tgt := 101) (tk tkX8_setsOff 50 rfl) (by decide) (fun c85 => ?_) (fun c85 => ?_)
          · refine pw_iconst (v := 0) (tk tkX8_setsOff 57 rfl) (by decide) ?_
            refine pw_ireturn (tk tkX8_setsOff 58 rfl) rfl (by decide) (by first | rfl | exact nar_bI _) ?_
            refine ⟨congrArg (fun b => Sum.inl (some (Value.int (bI b)))) (show false = stO (mS x.2.1) i j from ?_), rfl⟩
            unfold stO rN
            simp [c7, c48, c58, c75, c85]
          · refine pw_iload_n (tk tkX8_setsOff 51 rfl) rfl ?_
            refine pw_if_ne (tgt := 97) (tk tkX8_setsOff 52 rfl) (by decide) (fun c89 => c89 (by decide) |>.elim) (fun c89 => ?_)
            refine pw_iload (tk tkX8_setsOff 53 rfl) rfl ?_
            refine pw_if_eq (tgt := 101) (tk tkX8_setsOff 54 rfl) (by decide) (fun c94 => absurd c94 (by decide)) (fun c94 => ?_)
            refine pw_iconst (v := 1) (tk tkX8_setsOff 55 rfl) (by decide) ?_
            refine pw_goto (tgt := 102) (tk tkX8_setsOff 56 rfl) (by decide) ?_
            refine pw_ireturn (tk tkX8_setsOff 58 rfl) rfl (by decide) (by first | rfl | exact nar_bI _) ?_
            refine ⟨congrArg (fun b => Sum.inl (some (Value.int (bI b)))) (show true = stO (mS x.2.1) i j from ?_), rfl⟩
            unfold stO rN
            simp [c7, c48, c58, c75, c85]
  · refine pw_aload_n (tk tkX8_setsOff 6 rfl) rfl ?_
    refine pw_iload_n (tk tkX8_setsOff 7 rfl) rfl ?_
    refine pw_iconst (v := 0) (tk tkX8_setsOff 8 rfl) (by decide) ?_
    refine pw_cV (ct_X8_at x j 0 (by omega)) okX8_at (tk tkX8_setsOff 9 rfl) mkX8_45 imX8_at seX8_at (hp_ot _ 11) rfl rfl rfl (by decide) (by decide) (Nat.le_of_ble_eq_true rfl) ?_
    rw [show 26 + 9 * j + 0 = 26 + 9 * j from rfl]
    refine pw_iconst (v := 1) (tk tkX8_setsOff 10 rfl) (by decide) ?_
    refine pw_icmp_ne (tgt := 39) (tk tkX8_setsOff 11 rfl) (by decide) (fun c17 => ?_) (fun c17 => ?_)
    · refine pw_iconst (v := 0) (tk tkX8_setsOff 23 rfl) (by decide) ?_
      refine pw_ist3 (tk tkX8_setsOff 24 rfl) rfl (by decide) ?_
      refine pw_aload_n (tk tkX8_setsOff 25 rfl) rfl ?_
      refine pw_iload_n (tk tkX8_setsOff 26 rfl) rfl ?_
      refine pw_iconst (v := 3) (tk tkX8_setsOff 27 rfl) (by decide) ?_
      refine pw_cV (ct_X8_at x i 3 (by omega)) okX8_at (tk tkX8_setsOff 28 rfl) mkX8_45 imX8_at seX8_at (hp_ot _ 11) rfl rfl rfl (by decide) (by decide) (Nat.le_of_ble_eq_true rfl) ?_
      refine pw_iconst (v := 3) (tk tkX8_setsOff 29 rfl) (by decide) ?_
      refine pw_icmp_ne (tgt := 65) (tk tkX8_setsOff 30 rfl) (by decide) (fun c48 => ?_) (fun c48 => absurd (c7.symm.trans c48) (by decide))
      refine pw_iconst (v := 0) (tk tkX8_setsOff 39 rfl) (by decide) ?_
      refine pw_ist4 (tk tkX8_setsOff 40 rfl) rfl (by decide) ?_
      refine pw_aload_n (tk tkX8_setsOff 41 rfl) rfl ?_
      refine pw_iload_n (tk tkX8_setsOff 42 rfl) rfl ?_
      refine pw_bipush (v := 7) (tk tkX8_setsOff 43 rfl) (by decide) ?_
      refine pw_cV (ct_X8_at x i 7 (by omega)) okX8_at (tk tkX8_setsOff 44 rfl) mkX8_45 imX8_at seX8_at (hp_ot _ 11) rfl rfl rfl (by decide) (by decide) (Nat.le_of_ble_eq_true rfl) ?_
      refine pw_if_ne (tgt := 101) (tk tkX8_setsOff 45 rfl) (by decide) (fun c75 => ?_) (fun c75 => ?_)
      · refine pw_iconst (v := 0) (tk tkX8_setsOff 57 rfl) (by decide) ?_
        refine pw_ireturn (tk tkX8_setsOff 58 rfl) rfl (by decide) (by first | rfl | exact nar_bI _) ?_
        refine ⟨congrArg (fun b => Sum.inl (some (Value.int (bI b)))) (show false = stO (mS x.2.1) i j from ?_), rfl⟩
        unfold stO rN
        simp [c7, c17, c75]
      · refine pw_aload_n (tk tkX8_setsOff 46 rfl) rfl ?_
        refine pw_iload_n (tk tkX8_setsOff 47 rfl) rfl ?_
        refine pw_bipush (v := 7) (tk tkX8_setsOff 48 rfl) (by decide) ?_
        refine pw_cV (ct_X8_at x j 7 (by omega)) okX8_at (tk tkX8_setsOff 49 rfl) mkX8_45 imX8_at seX8_at (hp_ot _ 11) rfl rfl rfl (by decide) (by decide) (Nat.le_of_ble_eq_true rfl) ?_
        refine pw_if_ne (tgt := 101) (tk tkX8_setsOff 50 rfl) (by decide) (fun c85 => ?_) (fun c85 => ?_)
        · refine pw_iconst (v := 0) (tk tkX8_setsOff 57 rfl) (by decide) ?_
          refine pw_ireturn (tk tkX8_setsOff 58 rfl) rfl (by decide) (by first | rfl | exact nar_bI _) ?_
          refine ⟨congrArg (fun b => Sum.inl (some (Value.int (bI b)))) (show false = stO (mS x.2.1) i j from ?_), rfl⟩
          unfold stO rN
          simp [c7, c17, c75, c85]
        · refine pw_iload_n (tk tkX8_setsOff 51 rfl) rfl ?_
          refine pw_if_ne (tgt := 97) (tk tkX8_setsOff 52 rfl) (by decide) (fun c89 => c89 (by decide) |>.elim) (fun c89 => ?_)
          refine pw_iload (tk tkX8_setsOff 53 rfl) rfl ?_
          refine pw_if_eq (tgt := 101) (tk tkX8_setsOff 54 rfl) (by decide) (fun c94 => ?_) (fun c94 => c94 (by decide) |>.elim)
          refine pw_iconst (v := 0) (tk tkX8_setsOff 57 rfl) (by decide) ?_
          refine pw_ireturn (tk tkX8_setsOff 58 rfl) rfl (by decide) (by first | rfl | exact nar_bI _) ?_
          refine ⟨congrArg (fun b => Sum.inl (some (Value.int (bI b)))) (show false = stO (mS x.2.1) i j from ?_), rfl⟩
          unfold stO rN
          simp [c7, c17, c75, c85]
    · refine pw_aload_n (tk tkX8_setsOff 12 rfl) rfl ?_
      refine pw_iload_n (tk tkX8_setsOff 13 rfl) rfl ?_
      refine pw_iconst (v := 1) (tk tkX8_setsOff 14 rfl) (by decide) ?_
      refine pw_cV (ct_X8_at x j 1 (by omega)) okX8_at (tk tkX8_setsOff 15 rfl) mkX8_45 imX8_at seX8_at (hp_ot _ 11) rfl rfl rfl (by decide) (by decide) (Nat.le_of_ble_eq_true rfl) ?_
      refine pw_aload_n (tk tkX8_setsOff 16 rfl) rfl ?_
      refine pw_iload_n (tk tkX8_setsOff 17 rfl) rfl ?_
      refine pw_iconst (v := 5) (tk tkX8_setsOff 18 rfl) (by decide) ?_
      refine pw_cV (ct_X8_at x i 5 (by omega)) okX8_at (tk tkX8_setsOff 19 rfl) mkX8_45 imX8_at seX8_at (hp_ot _ 11) rfl rfl rfl (by decide) (by decide) (Nat.le_of_ble_eq_true rfl) ?_
      refine pw_icmp_ne (tgt := 39) (tk tkX8_setsOff 20 rfl) (by decide) (fun c32 => ?_) (fun c32 => ?_)
      · refine pw_iconst (v := 0) (tk tkX8_setsOff 23 rfl) (by decide) ?_
        refine pw_ist3 (tk tkX8_setsOff 24 rfl) rfl (by decide) ?_
        refine pw_aload_n (tk tkX8_setsOff 25 rfl) rfl ?_
        refine pw_iload_n (tk tkX8_setsOff 26 rfl) rfl ?_
        refine pw_iconst (v := 3) (tk tkX8_setsOff 27 rfl) (by decide) ?_
        refine pw_cV (ct_X8_at x i 3 (by omega)) okX8_at (tk tkX8_setsOff 28 rfl) mkX8_45 imX8_at seX8_at (hp_ot _ 11) rfl rfl rfl (by decide) (by decide) (Nat.le_of_ble_eq_true rfl) ?_
        refine pw_iconst (v := 3) (tk tkX8_setsOff 29 rfl) (by decide) ?_
        refine pw_icmp_ne (tgt := 65) (tk tkX8_setsOff 30 rfl) (by decide) (fun c48 => ?_) (fun c48 => absurd (c7.symm.trans c48) (by decide))
        refine pw_iconst (v := 0) (tk tkX8_setsOff 39 rfl) (by decide) ?_
        refine pw_ist4 (tk tkX8_setsOff 40 rfl) rfl (by decide) ?_
        refine pw_aload_n (tk tkX8_setsOff 41 rfl) rfl ?_
        refine pw_iload_n (tk tkX8_setsOff 42 rfl) rfl ?_
        refine pw_bipush (v := 7) (tk tkX8_setsOff 43 rfl) (by decide) ?_
        refine pw_cV (ct_X8_at x i 7 (by omega)) okX8_at (tk tkX8_setsOff 44 rfl) mkX8_45 imX8_at seX8_at (hp_ot _ 11) rfl rfl rfl (by decide) (by decide) (Nat.le_of_ble_eq_true rfl) ?_
        refine pw_if_ne (tgt := 101) (tk tkX8_setsOff 45 rfl) (by decide) (fun c75 => ?_) (fun c75 => ?_)
        · refine pw_iconst (v := 0) (tk tkX8_setsOff 57 rfl) (by decide) ?_
          refine pw_ireturn (tk tkX8_setsOff 58 rfl) rfl (by decide) (by first | rfl | exact nar_bI _) ?_
          refine ⟨congrArg (fun b => Sum.inl (some (Value.int (bI b)))) (show false = stO (mS x.2.1) i j from ?_), rfl⟩
          unfold stO rN
          simp [c7, c17, c32, c75]
        · refine pw_aload_n (tk tkX8_setsOff 46 rfl) rfl ?_
          refine pw_iload_n (tk tkX8_setsOff 47 rfl) rfl ?_
          refine pw_bipush (v := 7) (tk tkX8_setsOff 48 rfl) (by decide) ?_
          refine pw_cV (ct_X8_at x j 7 (by omega)) okX8_at (tk tkX8_setsOff 49 rfl) mkX8_45 imX8_at seX8_at (hp_ot _ 11) rfl rfl rfl (by decide) (by decide) (Nat.le_of_ble_eq_true rfl) ?_
          refine pw_if_ne (tgt := 101) (tk tkX8_setsOff 50 rfl) (by decide) (fun c85 => ?_) (fun c85 => ?_)
          · refine pw_iconst (v := 0) (tk tkX8_setsOff 57 rfl) (by decide) ?_
            refine pw_ireturn (tk tkX8_setsOff 58 rfl) rfl (by decide) (by first | rfl | exact nar_bI _) ?_
            refine ⟨congrArg (fun b => Sum.inl (some (Value.int (bI b)))) (show false = stO (mS x.2.1) i j from ?_), rfl⟩
            unfold stO rN
            simp [c7, c17, c32, c75, c85]
          · refine pw_iload_n (tk tkX8_setsOff 51 rfl) rfl ?_
            refine pw_if_ne (tgt := 97) (tk tkX8_setsOff 52 rfl) (by decide) (fun c89 => c89 (by decide) |>.elim) (fun c89 => ?_)
            refine pw_iload (tk tkX8_setsOff 53 rfl) rfl ?_
            refine pw_if_eq (tgt := 101) (tk tkX8_setsOff 54 rfl) (by decide) (fun c94 => ?_) (fun c94 => c94 (by decide) |>.elim)
            refine pw_iconst (v := 0) (tk tkX8_setsOff 57 rfl) (by decide) ?_
            refine pw_ireturn (tk tkX8_setsOff 58 rfl) rfl (by decide) (by first | rfl | exact nar_bI _) ?_
            refine ⟨congrArg (fun b => Sum.inl (some (Value.int (bI b)))) (show false = stO (mS x.2.1) i j from ?_), rfl⟩
            unfold stO rN
            simp [c7, c17, c32, c75, c85]
      · refine pw_iconst (v := 1) (tk tkX8_setsOff 21 rfl) (by decide) ?_
        refine pw_goto (tgt := 40) (tk tkX8_setsOff 22 rfl) (by decide) ?_
        refine pw_ist3 (tk tkX8_setsOff 24 rfl) rfl (by decide) ?_
        refine pw_aload_n (tk tkX8_setsOff 25 rfl) rfl ?_
        refine pw_iload_n (tk tkX8_setsOff 26 rfl) rfl ?_
        refine pw_iconst (v := 3) (tk tkX8_setsOff 27 rfl) (by decide) ?_
        refine pw_cV (ct_X8_at x i 3 (by omega)) okX8_at (tk tkX8_setsOff 28 rfl) mkX8_45 imX8_at seX8_at (hp_ot _ 11) rfl rfl rfl (by decide) (by decide) (Nat.le_of_ble_eq_true rfl) ?_
        refine pw_iconst (v := 3) (tk tkX8_setsOff 29 rfl) (by decide) ?_
        refine pw_icmp_ne (tgt := 65) (tk tkX8_setsOff 30 rfl) (by decide) (fun c48 => ?_) (fun c48 => absurd (c7.symm.trans c48) (by decide))
        refine pw_iconst (v := 0) (tk tkX8_setsOff 39 rfl) (by decide) ?_
        refine pw_ist4 (tk tkX8_setsOff 40 rfl) rfl (by decide) ?_
        refine pw_aload_n (tk tkX8_setsOff 41 rfl) rfl ?_
        refine pw_iload_n (tk tkX8_setsOff 42 rfl) rfl ?_
        refine pw_bipush (v := 7) (tk tkX8_setsOff 43 rfl) (by decide) ?_
        refine pw_cV (ct_X8_at x i 7 (by omega)) okX8_at (tk tkX8_setsOff 44 rfl) mkX8_45 imX8_at seX8_at (hp_ot _ 11) rfl rfl rfl (by decide) (by decide) (Nat.le_of_ble_eq_true rfl) ?_
        refine pw_if_ne (tgt := 101) (tk tkX8_setsOff 45 rfl) (by decide) (fun c75 => ?_) (fun c75 => ?_)
        · refine pw_iconst (v := 0) (tk tkX8_setsOff 57 rfl) (by decide) ?_
          refine pw_ireturn (tk tkX8_setsOff 58 rfl) rfl (by decide) (by first | rfl | exact nar_bI _) ?_
          refine ⟨congrArg (fun b => Sum.inl (some (Value.int (bI b)))) (show false = stO (mS x.2.1) i j from ?_), rfl⟩
          unfold stO rN
          simp [c7, c17, c32, c75]
        · refine pw_aload_n (tk tkX8_setsOff 46 rfl) rfl ?_
          refine pw_iload_n (tk tkX8_setsOff 47 rfl) rfl ?_
          refine pw_bipush (v := 7) (tk tkX8_setsOff 48 rfl) (by decide) ?_
          refine pw_cV (ct_X8_at x j 7 (by omega)) okX8_at (tk tkX8_setsOff 49 rfl) mkX8_45 imX8_at seX8_at (hp_ot _ 11) rfl rfl rfl (by decide) (by decide) (Nat.le_of_ble_eq_true rfl) ?_
          refine pw_if_ne (tgt := 101) (tk tkX8_setsOff 50 rfl) (by decide) (fun c85 => ?_) (fun c85 => ?_)
          · refine pw_iconst (v := 0) (tk tkX8_setsOff 57 rfl) (by decide) ?_
            refine pw_ireturn (tk tkX8_setsOff 58 rfl) rfl (by decide) (by first | rfl | exact nar_bI _) ?_
            refine ⟨congrArg (fun b => Sum.inl (some (Value.int (bI b)))) (show false = stO (mS x.2.1) i j from ?_), rfl⟩
            unfold stO rN
            simp [c7, c17, c32, c75, c85]
          · refine pw_iload_n (tk tkX8_setsOff 51 rfl) rfl ?_
            refine pw_if_ne (tgt := 97) (tk tkX8_setsOff 52 rfl) (by decide) (fun c89 => ?_) (fun c89 => absurd c89 (by decide))
            refine pw_iconst (v := 1) (tk tkX8_setsOff 55 rfl) (by decide) ?_
            refine pw_goto (tgt := 102) (tk tkX8_setsOff 56 rfl) (by decide) ?_
            refine pw_ireturn (tk tkX8_setsOff 58 rfl) rfl (by decide) (by first | rfl | exact nar_bI _) ?_
            refine ⟨congrArg (fun b => Sum.inl (some (Value.int (bI b)))) (show true = stO (mS x.2.1) i j from ?_), rfl⟩
            unfold stO rN
            simp [c7, c17, c32, c75, c85]
set_option maxRecDepth 100000 in
set_option maxHeartbeats 4000000 in
theorem ct_X8_straight (x : XW) (u r : Nat) (hu : mS x.2.1 25 = nI u) (hu8 : u ≤ 8) (hr : r < 8) : CT MX8_straight 2 0 [.ref 171, .int (nI r)] (hp x) (Det (.inl (some (.int (mkM (stO (mS x.2.1) r) u)))) (hp x)) := by
  refine ct_of (by decide +kernel) (by decide) rfl (k := 2) (ls := [some (.ref 171), some (.int (nI r)), none, none]) rfl (Nat.le_of_ble_eq_true rfl) ?_
  have L : ∀ k i, i + k = u → PW MX8_straight 2 0 4 [some (.ref 171), some (.int (nI r)), some (.int (mkM (stO (mS x.2.1) r) i)), some (.int (nI i))] [] (hp x) (Det (.inl (some (.int (mkM (stO (mS x.2.1) r) u)))) (hp x)) := by
    intro k
    induction k with
    | zero =>
      intro i hi 
      have ei : i = u := by omega
      rw [ei]
      refine pw_iload_n (tk tkX8_straight 4 rfl) rfl ?_
      refine pw_aload_n (tk tkX8_straight 5 rfl) rfl ?_
      refine g8_s (tk tkX8_straight 6 rfl) fkX8_7 ?_
      refine pw_bipush (v := 25) (tk tkX8_straight 7 rfl) (by decide) ?_
      refine al_s_e (e := 25) (tk tkX8_straight 8 rfl) (by first | rfl | simp only [lit_nI, nI_add, pk_mul]) (by first | decide | omega) ?_
      rw [hu]
      refine pw_icmp_ge (tgt := 40) (tk tkX8_straight 9 rfl) (by decide) (fun c12 => ?_) (fun c12 => absurd (Int32.le_refl _) c12)
      refine pw_iload_n (tk tkX8_straight 25 rfl) rfl ?_
      exact pw_ireturn (tk tkX8_straight 26 rfl) rfl (by decide) rfl ⟨rfl, rfl⟩
    | succ k ih =>
      intro i hi 
      refine pw_iload_n (tk tkX8_straight 4 rfl) rfl ?_
      refine pw_aload_n (tk tkX8_straight 5 rfl) rfl ?_
      refine g8_s (tk tkX8_straight 6 rfl) fkX8_7 ?_
      refine pw_bipush (v := 25) (tk tkX8_straight 7 rfl) (by decide) ?_
      refine al_s_e (e := 25) (tk tkX8_straight 8 rfl) (by first | rfl | simp only [lit_nI, nI_add, pk_mul]) (by first | decide | omega) ?_
      rw [hu]
      refine pw_icmp_ge (tgt := 40) (tk tkX8_straight 9 rfl) (by decide) (fun c12 => absurd c12 (nI_ge (by omega) (by omega))) (fun c12 => ?_)
      refine pw_iload_n (tk tkX8_straight 10 rfl) rfl ?_
      refine pw_aload_n (tk tkX8_straight 11 rfl) rfl ?_
      refine pw_iload_n (tk tkX8_straight 12 rfl) rfl ?_
      refine pw_iload_n (tk tkX8_straight 13 rfl) rfl ?_
      refine pw_cV (ct_X8_setsOff x r i hr (by omega)) okX8_setsOff (tk tkX8_straight 14 rfl) mkX8_125 imX8_setsOff seX8_setsOff (hp_ot _ 11) rfl rfl rfl (by decide) (by decide) (Nat.le_of_ble_eq_true rfl) ?_
      refine pw_ifb (tgt := 31) (tk tkX8_straight 15 rfl) (by decide) (fun c22 => ?_) (fun c22 => ?_)
      · refine pw_iconst (v := 0) (tk tkX8_straight 20 rfl) (by decide) ?_
        refine pw_ior (tk tkX8_straight 21 rfl) ?_
        refine pw_ist2 (tk tkX8_straight 22 rfl) rfl (by decide) ?_
        refine pw_inc3 (tk tkX8_straight 23 rfl) rfl (by decide) (nI_1 i) ?_
        refine pw_goto (tgt := 4) (tk tkX8_straight 24 rfl) (by decide) ?_
        have e9 : mkM (stO (mS x.2.1) r) (i + 1) = mkM (stO (mS x.2.1) r) i ||| 0 := by
          show _ ||| (if _ then _ else _) = _
          rw [if_neg (by rw [c22]; decide)]
        rw [← e9]
        exact ih (i + 1) (by omega)
      · refine pw_iconst (v := 1) (tk tkX8_straight 16 rfl) (by decide) ?_
        refine pw_iload_n (tk tkX8_straight 17 rfl) rfl ?_
        refine pw_ishl (tk tkX8_straight 18 rfl) ?_
        refine pw_goto (tgt := 32) (tk tkX8_straight 19 rfl) (by decide) ?_
        refine pw_ior (tk tkX8_straight 21 rfl) ?_
        refine pw_ist2 (tk tkX8_straight 22 rfl) rfl (by decide) ?_
        refine pw_inc3 (tk tkX8_straight 23 rfl) rfl (by decide) (nI_1 i) ?_
        refine pw_goto (tgt := 4) (tk tkX8_straight 24 rfl) (by decide) ?_
        have e9 : mkM (stO (mS x.2.1) r) (i + 1) = mkM (stO (mS x.2.1) r) i ||| 1 <<< (nI i &&& 31) := by
          show _ ||| (if _ then _ else _) = _
          rw [if_pos c22]
        rw [← e9]
        exact ih (i + 1) (by omega)
  refine pw_iconst (v := 0) (tk tkX8_straight 0 rfl) (by decide) ?_
  refine pw_ist2 (tk tkX8_straight 1 rfl) rfl (by decide) ?_
  refine pw_iconst (v := 0) (tk tkX8_straight 2 rfl) (by decide) ?_
  refine pw_ist3 (tk tkX8_straight 3 rfl) rfl (by decide) ?_
  exact L u 0 (by omega)
def moN (s : Nat → Int32) (p : Nat → Bool) : Nat → Nat → Bool
  | 0 => p
  | k + 1 => fun j => moN s p k j || (p k && stO s k j)
def rcN (s : Nat → Int32) (u r : Nat) : Nat → Nat → Bool
  | 0 => stO s r
  | t + 1 => moN s (rcN s u r t) u
theorem bI_1 {b : Bool} : bI b = 1 ↔ b = true := by cases b <;> decide
set_option maxRecDepth 100000 in
set_option maxHeartbeats 4000000 in
theorem ct_X8_reach (x : XW) (u r : Nat) (hu : mS x.2.1 25 = nI u) (hu8 : u ≤ 8) (hr : r < 8) : CT MX8_reach 3 0 [.ref 171, .int (nI r)] (hp x) (Det (.inl (some (.int (mkM (rcN (mS x.2.1) u r 8) u)))) (hp x)) := by
  refine ct_of (by decide +kernel) (by decide) rfl (k := 4) (ls := [some (.ref 171), some (.int (nI r)), none, none, none, none]) rfl (Nat.le_of_ble_eq_true rfl) ?_
  have K : ∀ t, (∀ (b4 b5 : Option Value), PW MX8_reach 3 0 8 [some (.ref 171), some (.int (nI r)), some (.int (mkM (rcN (mS x.2.1) u r (t + 1)) u)), some (.int (nI (t + 1))), b4, b5] [] (hp x) (Det (.inl (some (.int (mkM (rcN (mS x.2.1) u r 8) u)))) (hp x))) → ∀ k i, i + k = u → PW MX8_reach 3 0 20 [some (.ref 171), some (.int (nI r)), some (.int (mkM (rcN (mS x.2.1) u r t) u)), some (.int (nI t)), some (.int (mkM (moN (mS x.2.1) (rcN (mS x.2.1) u r t) i) u)), some (.int (nI i))] [] (hp x) (Det (.inl (some (.int (mkM (rcN (mS x.2.1) u r 8) u)))) (hp x)) := by
    intro t H k
    induction k with
    | zero =>
      intro i hi
      obtain rfl : i = u := by omega
      refine pw_iload (tk tkX8_reach 13 rfl) rfl ?_
      refine pw_aload_n (tk tkX8_reach 14 rfl) rfl ?_
      refine g8_s (tk tkX8_reach 15 rfl) fkX8_7 ?_
      refine pw_bipush (v := 25) (tk tkX8_reach 16 rfl) (by decide) ?_
      refine al_s_e (e := 25) (tk tkX8_reach 17 rfl) (by first | rfl | simp only [lit_nI, nI_add, pk_mul]) (by first | decide | omega) ?_
      rw [hu]
      refine pw_icmp_ge (tgt := 63) (tk tkX8_reach 18 rfl) (by decide) (fun c29 => ?_) (fun c29 => absurd (Int32.le_refl _) c29)
      refine pw_iload (tk tkX8_reach 36 rfl) rfl ?_
      refine pw_ist2 (tk tkX8_reach 37 rfl) rfl (by decide) ?_
      refine pw_inc3 (tk tkX8_reach 38 rfl) rfl (by decide) (nI_1 t) ?_
      refine pw_goto (tgt := 8) (tk tkX8_reach 39 rfl) (by decide) ?_
      exact H _ _
    | succ k ih =>
      intro i hi
      have e1 : rcN (mS x.2.1) u r t i = true → mkM (moN (mS x.2.1) (rcN (mS x.2.1) u r t) i) u ||| mkM (stO (mS x.2.1) i) u = mkM (moN (mS x.2.1) (rcN (mS x.2.1) u r t) (i + 1)) u := fun h => by rw [mk_or]; exact mkM_cg u (fun j _ => by show _ = (_ || (rcN (mS x.2.1) u r t i && _)); rw [h, Bool.true_and])
      have e0 : ¬ rcN (mS x.2.1) u r t i = true → mkM (moN (mS x.2.1) (rcN (mS x.2.1) u r t) i) u ||| 0 = mkM (moN (mS x.2.1) (rcN (mS x.2.1) u r t) (i + 1)) u := fun h => by rw [Int32.or_zero]; exact mkM_cg u (fun j _ => by show _ = (_ || (rcN (mS x.2.1) u r t i && _)); rw [Bool.eq_false_iff.mpr h, Bool.false_and, Bool.or_false])
      refine pw_iload (tk tkX8_reach 13 rfl) rfl ?_
      refine pw_aload_n (tk tkX8_reach 14 rfl) rfl ?_
      refine g8_s (tk tkX8_reach 15 rfl) fkX8_7 ?_
      refine pw_bipush (v := 25) (tk tkX8_reach 16 rfl) (by decide) ?_
      refine al_s_e (e := 25) (tk tkX8_reach 17 rfl) (by first | rfl | simp only [lit_nI, nI_add, pk_mul]) (by first | decide | omega) ?_
      rw [hu]
      refine pw_icmp_ge (tgt := 63) (tk tkX8_reach 18 rfl) (by decide) (fun c29 => absurd c29 (nI_ge (by omega) (by omega))) (fun c29 => ?_)
      refine pw_iload (tk tkX8_reach 19 rfl) rfl ?_
      refine pw_iload_n (tk tkX8_reach 20 rfl) rfl ?_
      refine pw_iload (tk tkX8_reach 21 rfl) rfl ?_
      refine pw_ishr (tk tkX8_reach 22 rfl) ?_
      refine pw_iconst (v := 1) (tk tkX8_reach 23 rfl) (by decide) ?_
      refine pw_iand (tk tkX8_reach 24 rfl) ?_
      refine pw_iconst (v := 1) (tk tkX8_reach 25 rfl) (by decide) ?_
      rw [mk_bit _ hu8 (by omega)]
      refine pw_icmp_ne (tgt := 53) (tk tkX8_reach 26 rfl) (by decide) (fun c41 => ?_) (fun c41 => ?_)
      · refine pw_iconst (v := 0) (tk tkX8_reach 31 rfl) (by decide) ?_
        refine pw_ior (tk tkX8_reach 32 rfl) ?_
        refine pw_ist4 (tk tkX8_reach 33 rfl) rfl (by decide) ?_
        refine pw_inc5 (tk tkX8_reach 34 rfl) rfl (by decide) (nI_1 i) ?_
        refine pw_goto (tgt := 20) (tk tkX8_reach 35 rfl) (by decide) ?_
        rw [e0 (fun h => c41 (bI_1.mpr h))]
        exact ih (i + 1) (by omega)
      · refine pw_aload_n (tk tkX8_reach 27 rfl) rfl ?_
        refine pw_iload (tk tkX8_reach 28 rfl) rfl ?_
        refine pw_cV (ct_X8_straight x u i hu hu8 (by omega)) okX8_straight (tk tkX8_reach 29 rfl) mkX8_129 imX8_straight seX8_straight (hp_ot _ 11) rfl rfl rfl (by decide) (by decide) (Nat.le_of_ble_eq_true rfl) ?_
        refine pw_goto (tgt := 54) (tk tkX8_reach 30 rfl) (by decide) ?_
        refine pw_ior (tk tkX8_reach 32 rfl) ?_
        refine pw_ist4 (tk tkX8_reach 33 rfl) rfl (by decide) ?_
        refine pw_inc5 (tk tkX8_reach 34 rfl) rfl (by decide) (nI_1 i) ?_
        refine pw_goto (tgt := 20) (tk tkX8_reach 35 rfl) (by decide) ?_
        rw [e1 (bI_1.mp c41)]
        exact ih (i + 1) (by omega)
  have L : ∀ k i, i + k = 8 → ∀ (b4 b5 : Option Value), PW MX8_reach 3 0 8 [some (.ref 171), some (.int (nI r)), some (.int (mkM (rcN (mS x.2.1) u r i) u)), some (.int (nI i)), b4, b5] [] (hp x) (Det (.inl (some (.int (mkM (rcN (mS x.2.1) u r 8) u)))) (hp x)) := by
    intro k
    induction k with
    | zero =>
      intro i hi b4 b5
      have ei : i = 8 := by omega
      rw [ei]
      refine pw_iload_n (tk tkX8_reach 6 rfl) rfl ?_
      refine pw_bipush (v := 8) (tk tkX8_reach 7 rfl) (by decide) ?_
      refine pw_icmp_ge (tgt := 72) (tk tkX8_reach 8 rfl) (by decide) (fun c11 => ?_) (fun c11 => absurd (Int32.le_refl _) c11)
      refine pw_iload_n (tk tkX8_reach 40 rfl) rfl ?_
      exact pw_ireturn (tk tkX8_reach 41 rfl) rfl (by decide) rfl ⟨rfl, rfl⟩
    | succ k ih =>
      intro i hi b4 b5
      refine pw_iload_n (tk tkX8_reach 6 rfl) rfl ?_
      refine pw_bipush (v := 8) (tk tkX8_reach 7 rfl) (by decide) ?_
      refine pw_icmp_ge (tgt := 72) (tk tkX8_reach 8 rfl) (by decide) (fun c11 => absurd c11 (nI_ge (b := 8) (by omega) (by decide))) (fun c11 => ?_)
      refine pw_iload_n (tk tkX8_reach 9 rfl) rfl ?_
      refine pw_ist4 (tk tkX8_reach 10 rfl) rfl (by decide) ?_
      refine pw_iconst (v := 0) (tk tkX8_reach 11 rfl) (by decide) ?_
      refine pw_ist5 (tk tkX8_reach 12 rfl) rfl (by decide) ?_
      exact K i (ih (i + 1) (by omega)) u 0 (by omega)
  refine pw_aload_n (tk tkX8_reach 0 rfl) rfl ?_
  refine pw_iload_n (tk tkX8_reach 1 rfl) rfl ?_
  refine pw_cV (ct_X8_straight x u r hu hu8 hr) okX8_straight (tk tkX8_reach 2 rfl) mkX8_129 imX8_straight seX8_straight (hp_ot _ 11) rfl rfl rfl (by decide) (by decide) (Nat.le_of_ble_eq_true rfl) ?_
  refine pw_ist2 (tk tkX8_reach 3 rfl) rfl (by decide) ?_
  refine pw_iconst (v := 0) (tk tkX8_reach 4 rfl) (by decide) ?_
  refine pw_ist3 (tk tkX8_reach 5 rfl) rfl (by decide) ?_
  exact L 8 0 (by omega) _ _
theorem ct_X8_reachW (x : XW) (u r : Nat) {w : Int32} (er : w = nI r) (hu : mS x.2.1 25 = nI u) (hu8 : u ≤ 8) (hr : r < 8) : CT MX8_reach 3 0 [.ref 171, .int w] (hp x) (Det (.inl (some (.int (mkM (rcN (mS x.2.1) u r 8) u)))) (hp x)) := by subst er; exact ct_X8_reach x u r hu hu8 hr
theorem ct_X8_setsOffW (x : XW) (i j : Nat) {v w : Int32} (ev : v = nI i) (ew : w = nI j) (hi : i < 8) (hj : j < 8) : CT MX8_setsOff 1 0 [.ref 171, .int v, .int w] (hp x) (Det (.inl (some (.int (bI (stO (mS x.2.1) i j))))) (hp x)) := by subst ev; subst ew; exact ct_X8_setsOff x i j hi hj
def scanSetOff (a : AM) (r q : Int32) : RS3 := if inR r 0 (aS a 25 - 1) = false then (1, 0, a) else if inR q 0 (aS a 25 - 1) = false then (1, 0, a) else (0, bI (stO (aS a) r.toNatClampNeg q.toNatClampNeg), a)
def sreachOf (a : AM) (r : Int32) : RS3 := if inR r 0 (aS a 25 - 1) = false then (1, 0, a) else (0, mkM (rcN (aS a) (uN (aS a)) r.toNatClampNeg 8) (uN (aS a)), a)
def sreachByTable (a : AM) (r : Int32) : RS3 := sreachOf a r
def scircularRules (a : AM) : RS3 := (0, mkM (fun i => rcN (aS a) (uN (aS a)) i 8 i) (uN (aS a)), a)
set_option maxRecDepth 100000 in
set_option maxHeartbeats 4000000 in
theorem ct_X8_canSetOff (x : XW) (hx : VM x.2.1) (r q : Int32) : CT MX8_canSetOff 3 0 [.ref 171, .int r, .int q] (hp x) (MOQ x (scanSetOff (aOf x.2.1) r q)) := by
  refine ct_of (by decide +kernel) (by decide) rfl (k := 0) (ls := [some (.ref 171), some (.int r), some (.int q)]) rfl (Nat.le_of_ble_eq_true rfl) ?_
  obtain ⟨hu, hu8⟩ := hx.u
  obtain ⟨l99, hl, el⟩ := hx.l
  have hv : VS (uN (mS x.2.1)) (mS x.2.1) := hx.2.2.2.2.2
  refine pw_aload_n (tk tkX8_canSetOff 0 rfl) rfl ?_
  refine pw_aload_n (tk tkX8_canSetOff 1 rfl) rfl ?_
  refine pw_iload_n (tk tkX8_canSetOff 2 rfl) rfl ?_
  refine pw_cV (ct_X8_isRule x _) okX8_isRule (tk tkX8_canSetOff 3 rfl) mkX8_103 imX8_isRule seX8_isRule (hp_ot _ 11) rfl rfl rfl (by decide) (by decide) (Nat.le_of_ble_eq_true rfl) ?_
  refine pw_ifb (tgt := 21) (tk tkX8_canSetOff 4 rfl) (by decide) (fun c6 => ?_) (fun c6 => ?_)
  · refine pw_iconst (v := 1) (tk tkX8_canSetOff 11 rfl) (by decide) ?_
    refine pw_cV (ct_X8_holds x _) okX8_holds (tk tkX8_canSetOff 12 rfl) mkX8_97 imX8_holds seX8_holds (hp_ot _ 11) rfl rfl rfl (by decide) (by decide) (Nat.le_of_ble_eq_true rfl) ?_
    refine pw_ifb (tgt := 41) (tk tkX8_canSetOff 13 rfl) (by decide) (fun c25 => ?_) (fun c25 => absurd c25 (by decide))
    refine pw_iconst (v := 0) (tk tkX8_canSetOff 21 rfl) (by decide) ?_
    refine pw_ireturn (tk tkX8_canSetOff 22 rfl) rfl (by decide) (by first | rfl | exact nar_bI _) ?_
    have e : scanSetOff (aOf x.2.1) r q = (1, 0, aOf x.2.1) := (if_pos c6)
    rw [e]
    exact ⟨_, rfl, rfl, rfl, rfl, rfl, hx, AE.rf _⟩
  · refine pw_aload_n (tk tkX8_canSetOff 5 rfl) rfl ?_
    refine pw_iload_n (tk tkX8_canSetOff 6 rfl) rfl ?_
    refine pw_cV (ct_X8_isRule x _) okX8_isRule (tk tkX8_canSetOff 7 rfl) mkX8_103 imX8_isRule seX8_isRule (hp_ot _ 11) rfl rfl rfl (by decide) (by decide) (Nat.le_of_ble_eq_true rfl) ?_
    refine pw_ifb (tgt := 21) (tk tkX8_canSetOff 8 rfl) (by decide) (fun c14 => ?_) (fun c14 => ?_)
    · refine pw_iconst (v := 1) (tk tkX8_canSetOff 11 rfl) (by decide) ?_
      refine pw_cV (ct_X8_holds x _) okX8_holds (tk tkX8_canSetOff 12 rfl) mkX8_97 imX8_holds seX8_holds (hp_ot _ 11) rfl rfl rfl (by decide) (by decide) (Nat.le_of_ble_eq_true rfl) ?_
      refine pw_ifb (tgt := 41) (tk tkX8_canSetOff 13 rfl) (by decide) (fun c25 => ?_) (fun c25 => absurd c25 (by decide))
      refine pw_iconst (v := 0) (tk tkX8_canSetOff 21 rfl) (by decide) ?_
      refine pw_ireturn (tk tkX8_canSetOff 22 rfl) rfl (by decide) (by first | rfl | exact nar_bI _) ?_
      have e : scanSetOff (aOf x.2.1) r q = (1, 0, aOf x.2.1) := ((if_neg (ne_f c6)).trans (if_pos c14))
      rw [e]
      exact ⟨_, rfl, rfl, rfl, rfl, rfl, hx, AE.rf _⟩
    · refine pw_iconst (v := 0) (tk tkX8_canSetOff 9 rfl) (by decide) ?_
      refine pw_goto (tgt := 22) (tk tkX8_canSetOff 10 rfl) (by decide) ?_
      refine pw_cV (ct_X8_holds x _) okX8_holds (tk tkX8_canSetOff 12 rfl) mkX8_97 imX8_holds seX8_holds (hp_ot _ 11) rfl rfl rfl (by decide) (by decide) (Nat.le_of_ble_eq_true rfl) ?_
      refine pw_ifb (tgt := 41) (tk tkX8_canSetOff 13 rfl) (by decide) (fun c25 => absurd c25 (by decide)) (fun c25 => ?_)
      obtain ⟨r1, hr, er, er2⟩ := inR_lt hu (by omega) c6
      obtain ⟨q1, hq, eq1, eq2⟩ := inR_lt hu (by omega) c14
      refine pw_aload_n (tk tkX8_canSetOff 14 rfl) rfl ?_
      refine pw_iload_n (tk tkX8_canSetOff 15 rfl) rfl ?_
      refine pw_iload_n (tk tkX8_canSetOff 16 rfl) rfl ?_
      refine pw_cV (ct_X8_setsOffW (xThr x 0) r1 q1 er eq1 (by omega) (by omega)) okX8_setsOff (tk tkX8_canSetOff 17 rfl) mkX8_125 imX8_setsOff seX8_setsOff (hp_ot _ 11) rfl rfl rfl (by decide) (by decide) (Nat.le_of_ble_eq_true rfl) ?_
      refine pw_ifb (tgt := 41) (tk tkX8_canSetOff 18 rfl) (by decide) (fun c34 => ?_) (fun c34 => ?_)
      · refine pw_iconst (v := 0) (tk tkX8_canSetOff 21 rfl) (by decide) ?_
        refine pw_ireturn (tk tkX8_canSetOff 22 rfl) rfl (by decide) (by first | rfl | exact nar_bI _) ?_
        have e : scanSetOff (aOf x.2.1) r q = (0, bI (stO (mS x.2.1) r1 q1), aOf x.2.1) := (if_neg (ne_f c6)).trans ((if_neg (ne_f c14)).trans (by rw [er2, eq2]; rfl))
        rw [e, show stO (mS x.2.1) r1 q1 = _ from c34]
        exact ⟨_, rfl, rfl, rfl, rfl, rfl, hx, AE.rf _⟩
      · refine pw_iconst (v := 1) (tk tkX8_canSetOff 19 rfl) (by decide) ?_
        refine pw_goto (tgt := 42) (tk tkX8_canSetOff 20 rfl) (by decide) ?_
        refine pw_ireturn (tk tkX8_canSetOff 22 rfl) rfl (by decide) (by first | rfl | exact nar_bI _) ?_
        have e : scanSetOff (aOf x.2.1) r q = (0, bI (stO (mS x.2.1) r1 q1), aOf x.2.1) := (if_neg (ne_f c6)).trans ((if_neg (ne_f c14)).trans (by rw [er2, eq2]; rfl))
        rw [e, show stO (mS x.2.1) r1 q1 = _ from c34]
        exact ⟨_, rfl, rfl, rfl, rfl, rfl, hx, AE.rf _⟩
set_option maxRecDepth 100000 in
set_option maxHeartbeats 4000000 in
theorem ct_X8_reachOf (x : XW) (hx : VM x.2.1) (r : Int32) : CT MX8_reachOf 4 0 [.ref 171, .int r] (hp x) (MOQ x (sreachOf (aOf x.2.1) r)) := by
  refine ct_of (by decide +kernel) (by decide) rfl (k := 0) (ls := [some (.ref 171), some (.int r)]) rfl (Nat.le_of_ble_eq_true rfl) ?_
  obtain ⟨hu, hu8⟩ := hx.u
  obtain ⟨l99, hl, el⟩ := hx.l
  have hv : VS (uN (mS x.2.1)) (mS x.2.1) := hx.2.2.2.2.2
  refine pw_aload_n (tk tkX8_reachOf 0 rfl) rfl ?_
  refine pw_aload_n (tk tkX8_reachOf 1 rfl) rfl ?_
  refine pw_iload_n (tk tkX8_reachOf 2 rfl) rfl ?_
  refine pw_cV (ct_X8_isRule x _) okX8_isRule (tk tkX8_reachOf 3 rfl) mkX8_103 imX8_isRule seX8_isRule (hp_ot _ 11) rfl rfl rfl (by decide) (by decide) (Nat.le_of_ble_eq_true rfl) ?_
  refine pw_ifb (tgt := 13) (tk tkX8_reachOf 4 rfl) (by decide) (fun c6 => ?_) (fun c6 => ?_)
  · refine pw_iconst (v := 1) (tk tkX8_reachOf 7 rfl) (by decide) ?_
    refine pw_cV (ct_X8_holds x _) okX8_holds (tk tkX8_reachOf 8 rfl) mkX8_97 imX8_holds seX8_holds (hp_ot _ 11) rfl rfl rfl (by decide) (by decide) (Nat.le_of_ble_eq_true rfl) ?_
    refine pw_ifb (tgt := 28) (tk tkX8_reachOf 9 rfl) (by decide) (fun c17 => ?_) (fun c17 => absurd c17 (by decide))
    refine pw_iconst (v := 0) (tk tkX8_reachOf 14 rfl) (by decide) ?_
    refine pw_ireturn (tk tkX8_reachOf 15 rfl) rfl (by decide) rfl ?_
    have e : sreachOf (aOf x.2.1) r = (1, 0, aOf x.2.1) := (if_pos c6)
    rw [e]
    exact ⟨_, rfl, rfl, rfl, rfl, rfl, hx, AE.rf _⟩
  · refine pw_iconst (v := 0) (tk tkX8_reachOf 5 rfl) (by decide) ?_
    refine pw_goto (tgt := 14) (tk tkX8_reachOf 6 rfl) (by decide) ?_
    refine pw_cV (ct_X8_holds x _) okX8_holds (tk tkX8_reachOf 8 rfl) mkX8_97 imX8_holds seX8_holds (hp_ot _ 11) rfl rfl rfl (by decide) (by decide) (Nat.le_of_ble_eq_true rfl) ?_
    refine pw_ifb (tgt := 28) (tk tkX8_reachOf 9 rfl) (by decide) (fun c17 => absurd c17 (by decide)) (fun c17 => ?_)
    obtain ⟨r1, hr, er, er2⟩ := inR_lt hu (by omega) c6
    refine pw_aload_n (tk tkX8_reachOf 10 rfl) rfl ?_
    refine pw_iload_n (tk tkX8_reachOf 11 rfl) rfl ?_
    refine pw_cV (ct_X8_reachW (xThr x 0) _ r1 er hu hu8 (by omega)) okX8_reach (tk tkX8_reachOf 12 rfl) mkX8_133 imX8_reach seX8_reach (hp_ot _ 11) rfl rfl rfl (by decide) (by decide) (Nat.le_of_ble_eq_true rfl) ?_
    refine pw_goto (tgt := 29) (tk tkX8_reachOf 13 rfl) (by decide) ?_
    refine pw_ireturn (tk tkX8_reachOf 15 rfl) rfl (by decide) rfl ?_
    have e : sreachOf (aOf x.2.1) r = (0, mkM (rcN (mS x.2.1) (uN (mS x.2.1)) r1 8) (uN (mS x.2.1)), aOf x.2.1) := (if_neg (ne_f c6)).trans (by rw [er2]; rfl)
    rw [e]
    exact ⟨_, rfl, rfl, rfl, rfl, rfl, hx, AE.rf _⟩
set_option maxRecDepth 100000 in
set_option maxHeartbeats 4000000 in
theorem ct_X8_circularRules (x : XW) (hx : VM x.2.1)  : CT MX8_circularRules 4 0 [.ref 171] (hp x) (MOQ x (scircularRules (aOf x.2.1) )) := by
  refine ct_of (by decide +kernel) (by decide) rfl (k := 2) (ls := [some (.ref 171), none, none]) rfl (Nat.le_of_ble_eq_true rfl) ?_
  obtain ⟨hu, hu8⟩ := hx.u
  obtain ⟨l99, hl, el⟩ := hx.l
  have hv : VS (uN (mS x.2.1)) (mS x.2.1) := hx.2.2.2.2.2
  obtain ⟨u, eu⟩ : ∃ u, u = uN (mS x.2.1) := ⟨_, rfl⟩
  have he : scircularRules (aOf x.2.1) = (0, mkM (fun i => rcN (mS x.2.1) u i 8 i) u, aOf x.2.1) := by rw [eu]; rfl
  rw [← eu] at hu hu8 hv
  have L : ∀ k i, i + k = u → PW MX8_circularRules 4 0 9 [some (.ref 171), some (.int (mkM (fun i => rcN (mS x.2.1) u i 8 i) i)), some (.int (nI i))] [] (hp (xThr x 0)) (MOQ x (scircularRules (aOf x.2.1))) := by
    intro k
    induction k with
    | zero =>
      intro i hi 
      have ei : i = u := by omega
      rw [ei]
      refine pw_iload_n (tk tkX8_circularRules 7 rfl) rfl ?_
      refine pw_aload_n (tk tkX8_circularRules 8 rfl) rfl ?_
      refine g8_s (tk tkX8_circularRules 9 rfl) fkX8_7 ?_
      refine pw_bipush (v := 25) (tk tkX8_circularRules 10 rfl) (by decide) ?_
      refine al_s_e (e := 25) (tk tkX8_circularRules 11 rfl) (by first | rfl | simp only [lit_nI, nI_add, pk_mul]) (by first | decide | omega) ?_
      rw [show mS (xThr x 0).2.1 25 = nI u from hu]
      refine pw_icmp_ge (tgt := 38) (tk tkX8_circularRules 12 rfl) (by decide) (fun c17 => ?_) (fun c17 => absurd (Int32.le_refl _) c17)
      refine pw_iload_n (tk tkX8_circularRules 25 rfl) rfl ?_
      refine pw_ireturn (tk tkX8_circularRules 26 rfl) rfl (by decide) rfl ?_
      rw [he]
      exact ⟨_, rfl, rfl, rfl, rfl, rfl, hx, AE.rf _⟩
    | succ k ih =>
      intro i hi 
      refine pw_iload_n (tk tkX8_circularRules 7 rfl) rfl ?_
      refine pw_aload_n (tk tkX8_circularRules 8 rfl) rfl ?_
      refine g8_s (tk tkX8_circularRules 9 rfl) fkX8_7 ?_
      refine pw_bipush (v := 25) (tk tkX8_circularRules 10 rfl) (by decide) ?_
      refine al_s_e (e := 25) (tk tkX8_circularRules 11 rfl) (by first | rfl | simp only [lit_nI, nI_add, pk_mul]) (by first | decide | omega) ?_
      rw [show mS (xThr x 0).2.1 25 = nI u from hu]
      refine pw_icmp_ge (tgt := 38) (tk tkX8_circularRules 12 rfl) (by decide) (fun c17 => absurd c17 (nI_ge (by omega) (by omega))) (fun c17 => ?_)
      refine pw_iload_n (tk tkX8_circularRules 13 rfl) rfl ?_
      refine pw_aload_n (tk tkX8_circularRules 14 rfl) rfl ?_
      refine pw_iload_n (tk tkX8_circularRules 15 rfl) rfl ?_
      refine pw_cV (ct_X8_reach (xThr x 0) u i hu hu8 (by omega)) okX8_reach (tk tkX8_circularRules 16 rfl) mkX8_133 imX8_reach seX8_reach (hp_ot _ 11) rfl rfl rfl (by decide) (by decide) (Nat.le_of_ble_eq_true rfl) ?_
      refine pw_iconst (v := 1) (tk tkX8_circularRules 17 rfl) (by decide) ?_
      refine pw_iload_n (tk tkX8_circularRules 18 rfl) rfl ?_
      refine pw_ishl (tk tkX8_circularRules 19 rfl) ?_
      refine pw_iand (tk tkX8_circularRules 20 rfl) ?_
      rw [mk_and _ hu8 (show i < u by omega)]
      refine pw_ior (tk tkX8_circularRules 21 rfl) ?_
      refine pw_ist1 (tk tkX8_circularRules 22 rfl) rfl (by decide) ?_
      refine pw_inc2 (tk tkX8_circularRules 23 rfl) rfl (by decide) (nI_1 i) ?_
      refine pw_goto (tgt := 9) (tk tkX8_circularRules 24 rfl) (by decide) ?_
      exact ih (i + 1) (by omega)
  refine pw_aload_n (tk tkX8_circularRules 0 rfl) rfl ?_
  refine pw_iconst (v := 0) (tk tkX8_circularRules 1 rfl) (by decide) ?_
  refine p8_thrown (tk tkX8_circularRules 2 rfl) fkX8_28 ?_
  refine pw_iconst (v := 0) (tk tkX8_circularRules 3 rfl) (by decide) ?_
  refine pw_ist1 (tk tkX8_circularRules 4 rfl) rfl (by decide) ?_
  refine pw_iconst (v := 0) (tk tkX8_circularRules 5 rfl) (by decide) ?_
  refine pw_ist2 (tk tkX8_circularRules 6 rfl) rfl (by decide) ?_
  exact L u 0 (by omega)
