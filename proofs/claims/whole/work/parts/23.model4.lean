def ro (s : Nat → Int32) (i : Nat) : Nat := (rN s i 4).toNatClampNeg
def co (s : Nat → Int32) (i : Nat) : Nat := (rN s i 5).toNatClampNeg
theorem ro_e {u : Nat} {s : Nat → Int32} (h : VS u s) {i : Nat} (hi : i < u) : rN s i 4 = nI (ro s i) ∧ ro s i < 6 := by
  obtain ⟨r, h6, e⟩ := (h.2.2.2.2.2 i hi).2.1
  unfold ro; rw [e, nI_clamp (by omega)]; exact ⟨rfl, h6⟩
theorem co_e {u : Nat} {s : Nat → Int32} (h : VS u s) {i : Nat} (hi : i < u) : rN s i 5 = nI (co s i) ∧ co s i < 3 := by
  obtain ⟨r, h6, e⟩ := (h.2.2.2.2.2 i hi).2.2.1
  unfold co; rw [e, nI_clamp (by omega)]; exact ⟨rfl, h6⟩
def acX (x : XW) (u i d : Nat) : Bool × XW :=
  let x1 := uM1 x (lgS (mS x.2.1) i (nI d))
  let s1 := mS x1.2.1
  if rN (mS x.2.1) i 3 = 0 ∨ s1 (ro (mS x.2.1) i) = 0 then (true, x1)
  else if rN (mS x.2.1) i 3 = 3 then (decide (bgC s1 u (mF x.2.1 12) 2 (ro (mS x.2.1) i) 0 0 (nI (d + 1)) = 0), bgX x1 u 2 (ro (mS x.2.1) i) 0 0 (d + 1))
  else if inR (s1 (6 + 3 * ro (mS x.2.1) i + co (mS x.2.1) i) + rN (mS x.2.1) i 6) 0 999 = false then (false, uM7 x1 (upd (mF x1.2.1) 13 2))
  else if s1 (6 + 3 * ro (mS x.2.1) i + co (mS x.2.1) i) + rN (mS x.2.1) i 6 = s1 (6 + 3 * ro (mS x.2.1) i + co (mS x.2.1) i) then (true, x1)
  else (decide (bgC s1 u (mF x.2.1 12) 1 (ro (mS x.2.1) i) (co (mS x.2.1) i) (s1 (6 + 3 * ro (mS x.2.1) i + co (mS x.2.1) i) + rN (mS x.2.1) i 6) (nI (d + 1)) = 0), bgX x1 u 1 (ro (mS x.2.1) i) (co (mS x.2.1) i) (s1 (6 + 3 * ro (mS x.2.1) i + co (mS x.2.1) i) + rN (mS x.2.1) i 6) (d + 1))
set_option maxRecDepth 100000 in
set_option maxHeartbeats 4000000 in
theorem ct_X8_acts (x : XW) (u i d : Nat) (hv : VS u (mS x.2.1)) (hi : i < u) (hd : mF x.2.1 10 = nI d) (h5 : d ≤ 5) : CT MX8_acts 3 0 [.ref 171, .int (nI i)] (hp x) (Det (.inl (some (.int (bI (acX x u i d).1)))) (hp (acX x u i d).2)) := by
  refine ct_of (by decide +kernel) (by decide) rfl (k := 4) (ls := [some (.ref 171), some (.int (nI i)), none, none, none, none]) rfl (Nat.le_of_ble_eq_true rfl) ?_
  have hu8 : u ≤ 8 := hv.1
  obtain ⟨er, hr⟩ := ro_e hv hi
  obtain ⟨ec, hc⟩ := co_e hv hi
  have hv1 : VS u (lgS (mS x.2.1) i (nI d)) := lgS_VS hv (nI d) hi
  have e3 : lgS (mS x.2.1) i (nI d) (26 + 9 * i + 5) = rN (mS x.2.1) i 5 := lgS_nt _ _ _ (by omega) (by omega)
  have e6 : lgS (mS x.2.1) i (nI d) (26 + 9 * i + 6) = rN (mS x.2.1) i 6 := lgS_nt _ _ _ (by omega) (by omega)
  have elg := (ct_X8_logs x u i hv hi)
  rw [hd] at elg
  refine pw_aload_n (tk tkX8_acts 0 rfl) rfl ?_
  refine pw_iload_n (tk tkX8_acts 1 rfl) rfl ?_
  refine pw_iconst (v := 3) (tk tkX8_acts 2 rfl) (by decide) ?_
  refine pw_cV (ct_X8_at x i 3 (by omega)) okX8_at (tk tkX8_acts 3 rfl) mkX8_45 imX8_at seX8_at (hp_ot _ 11) rfl rfl rfl (by decide) (by decide) (Nat.le_of_ble_eq_true rfl) ?_
  refine pw_ist2 (tk tkX8_acts 4 rfl) rfl (by decide) ?_
  refine pw_aload_n (tk tkX8_acts 5 rfl) rfl ?_
  refine pw_iload_n (tk tkX8_acts 6 rfl) rfl ?_
  refine pw_iconst (v := 4) (tk tkX8_acts 7 rfl) (by decide) ?_
  refine pw_cV (ct_X8_at x i 4 (by omega)) okX8_at (tk tkX8_acts 8 rfl) mkX8_45 imX8_at seX8_at (hp_ot _ 11) rfl rfl rfl (by decide) (by decide) (Nat.le_of_ble_eq_true rfl) ?_
  rw [show mS x.2.1 (26 + 9 * i + 4) = nI (ro (mS x.2.1) i) from er]
  refine pw_ist3 (tk tkX8_acts 9 rfl) rfl (by decide) ?_
  refine pw_aload_n (tk tkX8_acts 10 rfl) rfl ?_
  refine pw_iload_n (tk tkX8_acts 11 rfl) rfl ?_
  refine pw_cV0 elg okX8_logs (tk tkX8_acts 12 rfl) mkX8_68 imX8_logs seX8_logs (hp_ot _ 11) rfl rfl rfl (by decide) (by decide) (Nat.le_of_ble_eq_true rfl) ?_
  refine pw_iload_n (tk tkX8_acts 13 rfl) rfl ?_
  refine pw_if_eq (tgt := 34) (tk tkX8_acts 14 rfl) (by decide) (fun c20 => ?_) (fun c20 => ?_)
  · have e : acX x u i d = (true, (uM1 x (lgS (mS x.2.1) i (nI d)))) := (if_pos (.inl c20))
    rw [e]
    refine pw_iconst (v := 1) (tk tkX8_acts 22 rfl) (by decide) ?_
    exact pw_ireturn (tk tkX8_acts 23 rfl) rfl (by decide) (by first | rfl | exact nar_bI _) ⟨rfl, rfl⟩
  · refine pw_aload_n (tk tkX8_acts 15 rfl) rfl ?_
    refine g8_s (tk tkX8_acts 16 rfl) fkX8_7 ?_
    refine pw_iconst (v := 0) (tk tkX8_acts 17 rfl) (by decide) ?_
    refine pw_iload_n (tk tkX8_acts 18 rfl) rfl ?_
    refine pw_iadd (tk tkX8_acts 19 rfl) ?_
    refine al_s_e (e := ro (mS x.2.1) i) (tk tkX8_acts 20 rfl) (Int32.zero_add _) (by first | decide | omega) ?_
    refine pw_if_ne (tgt := 36) (tk tkX8_acts 21 rfl) (by decide) (fun c31 => ?_) (fun c31 => ?_)
    · refine pw_iload_n (tk tkX8_acts 24 rfl) rfl ?_
      refine pw_iconst (v := 3) (tk tkX8_acts 25 rfl) (by decide) ?_
      refine pw_icmp_ne (tgt := 56) (tk tkX8_acts 26 rfl) (by decide) (fun c38 => ?_) (fun c38 => ?_)
      · refine pw_aload_n (tk tkX8_acts 38 rfl) rfl ?_
        refine pw_iload_n (tk tkX8_acts 39 rfl) rfl ?_
        refine pw_iconst (v := 5) (tk tkX8_acts 40 rfl) (by decide) ?_
        refine pw_cV (ct_X8_at (uM1 x (lgS (mS x.2.1) i (nI d))) i 5 (by omega)) okX8_at (tk tkX8_acts 41 rfl) mkX8_45 imX8_at seX8_at (hp_ot _ 11) rfl rfl rfl (by decide) (by decide) (Nat.le_of_ble_eq_true rfl) ?_
        rw [show mS (uM1 x (lgS (mS x.2.1) i (nI d))).2.1 (26 + 9 * i + 5) = nI (co (mS x.2.1) i) from e3.trans ec]
        refine pw_ist4 (tk tkX8_acts 42 rfl) rfl (by decide) ?_
        refine pw_aload_n (tk tkX8_acts 43 rfl) rfl ?_
        refine g8_s (tk tkX8_acts 44 rfl) fkX8_7 ?_
        refine pw_iload_n (tk tkX8_acts 45 rfl) rfl ?_
        refine pw_iload (tk tkX8_acts 46 rfl) rfl ?_
        refine pw_cS (ct_X8_of _ (ro (mS x.2.1) i) (co (mS x.2.1) i)) okX8_of (tk tkX8_acts 47 rfl) mkX8_49 stX8_of rfl rfl (by decide) (by decide) (Nat.le_of_ble_eq_true rfl) ?_
        refine al_s_e (e := 6 + 3 * ro (mS x.2.1) i + co (mS x.2.1) i) (tk tkX8_acts 48 rfl) (by first | rfl | simp only [lit_nI, nI_add, pk_mul]) (by first | decide | omega) ?_
        refine pw_aload_n (tk tkX8_acts 49 rfl) rfl ?_
        refine pw_iload_n (tk tkX8_acts 50 rfl) rfl ?_
        refine pw_bipush (v := 6) (tk tkX8_acts 51 rfl) (by decide) ?_
        refine pw_cV (ct_X8_at (uM1 x (lgS (mS x.2.1) i (nI d))) i 6 (by omega)) okX8_at (tk tkX8_acts 52 rfl) mkX8_45 imX8_at seX8_at (hp_ot _ 11) rfl rfl rfl (by decide) (by decide) (Nat.le_of_ble_eq_true rfl) ?_
        rw [show mS (uM1 x (lgS (mS x.2.1) i (nI d))).2.1 (26 + 9 * i + 6) = rN (mS x.2.1) i 6 from e6]
        refine pw_iadd (tk tkX8_acts 53 rfl) ?_
        refine pw_ist5 (tk tkX8_acts 54 rfl) rfl (by decide) ?_
        refine pw_iload (tk tkX8_acts 55 rfl) rfl ?_
        refine pw_cS (ct_X8_isValue _ _) okX8_isValue (tk tkX8_acts 56 rfl) mkX8_76 stX8_isValue rfl rfl (by decide) (by decide) (Nat.le_of_ble_eq_true rfl) ?_
        refine pw_ifnb (tgt := 100) (tk tkX8_acts 57 rfl) (by decide) (fun c90 => ?_) (fun c90 => ?_)
        · refine pw_iload (tk tkX8_acts 63 rfl) rfl ?_
          refine pw_aload_n (tk tkX8_acts 64 rfl) rfl ?_
          refine g8_s (tk tkX8_acts 65 rfl) fkX8_7 ?_
          refine pw_iload_n (tk tkX8_acts 66 rfl) rfl ?_
          refine pw_iload (tk tkX8_acts 67 rfl) rfl ?_
          refine pw_cS (ct_X8_of _ (ro (mS x.2.1) i) (co (mS x.2.1) i)) okX8_of (tk tkX8_acts 68 rfl) mkX8_49 stX8_of rfl rfl (by decide) (by decide) (Nat.le_of_ble_eq_true rfl) ?_
          refine al_s_e (e := 6 + 3 * ro (mS x.2.1) i + co (mS x.2.1) i) (tk tkX8_acts 69 rfl) (by first | rfl | simp only [lit_nI, nI_add, pk_mul]) (by first | decide | omega) ?_
          refine pw_icmp_eq (tgt := 135) (tk tkX8_acts 70 rfl) (by decide) (fun c113 => ?_) (fun c113 => ?_)
          · have e : acX x u i d = (true, (uM1 x (lgS (mS x.2.1) i (nI d)))) := (if_neg (fun q => q.elim c20 c31)).trans ((if_neg c38).trans ((if_neg (fun q => Bool.noConfusion (c90.symm.trans q))).trans ((if_pos c113))))
            rw [e]
            refine pw_iconst (v := 1) (tk tkX8_acts 82 rfl) (by decide) ?_
            refine pw_goto (tgt := 140) (tk tkX8_acts 83 rfl) (by decide) ?_
            exact pw_ireturn (tk tkX8_acts 85 rfl) rfl (by decide) (by first | rfl | exact nar_bI _) ⟨rfl, rfl⟩
          · refine pw_aload_n (tk tkX8_acts 71 rfl) rfl ?_
            refine pw_iconst (v := 1) (tk tkX8_acts 72 rfl) (by decide) ?_
            refine pw_iload_n (tk tkX8_acts 73 rfl) rfl ?_
            refine pw_iload (tk tkX8_acts 74 rfl) rfl ?_
            refine pw_iload (tk tkX8_acts 75 rfl) rfl ?_
            refine pw_aload_n (tk tkX8_acts 76 rfl) rfl ?_
            refine g8_depth (tk tkX8_acts 77 rfl) fkX8_62 ?_
            refine pw_iconst (v := 1) (tk tkX8_acts 78 rfl) (by decide) ?_
            refine pw_iadd (tk tkX8_acts 79 rfl) ?_
            rw [show mF (uM1 x (lgS (mS x.2.1) i (nI d))).2.1 10 = nI d from hd, nI_1]
            refine pw_cV (ct_X8_begins (uM1 x (lgS (mS x.2.1) i (nI d))) u hv1 1 (ro (mS x.2.1) i) (co (mS x.2.1) i) (lgS (mS x.2.1) i (nI d) (6 + 3 * ro (mS x.2.1) i + co (mS x.2.1) i) + rN (mS x.2.1) i 6) (d + 1) hr hc (by omega)) okX8_begins (tk tkX8_acts 80 rfl) mkX8_72 imX8_begins seX8_begins (hp_ot _ 11) rfl rfl rfl (by decide) (by decide) (Nat.le_of_ble_eq_true rfl) ?_
            refine pw_ifb (tgt := 139) (tk tkX8_acts 81 rfl) (by decide) (fun c132 => ?_) (fun c132 => ?_)
            · have e : acX x u i d = (decide (bgC (lgS (mS x.2.1) i (nI d)) u (mF x.2.1 12) 1 (ro (mS x.2.1) i) (co (mS x.2.1) i) (lgS (mS x.2.1) i (nI d) (6 + 3 * ro (mS x.2.1) i + co (mS x.2.1) i) + rN (mS x.2.1) i 6) (nI (d + 1)) = 0), bgX (uM1 x (lgS (mS x.2.1) i (nI d))) u 1 (ro (mS x.2.1) i) (co (mS x.2.1) i) (lgS (mS x.2.1) i (nI d) (6 + 3 * ro (mS x.2.1) i + co (mS x.2.1) i) + rN (mS x.2.1) i 6) (d + 1)) := (if_neg (fun q => q.elim c20 c31)).trans ((if_neg c38).trans ((if_neg (fun q => Bool.noConfusion (c90.symm.trans q))).trans ((if_neg c113))))
              rw [e]
              refine pw_iconst (v := 0) (tk tkX8_acts 84 rfl) (by decide) ?_
              exact pw_ireturn (tk tkX8_acts 85 rfl) rfl (by decide) (by first | rfl | exact nar_bI _) ⟨by dsimp only; exact congrArg (fun b => Sum.inl (some (Value.int (bI b)))) c132.symm, rfl⟩
            · have e : acX x u i d = (decide (bgC (lgS (mS x.2.1) i (nI d)) u (mF x.2.1 12) 1 (ro (mS x.2.1) i) (co (mS x.2.1) i) (lgS (mS x.2.1) i (nI d) (6 + 3 * ro (mS x.2.1) i + co (mS x.2.1) i) + rN (mS x.2.1) i 6) (nI (d + 1)) = 0), bgX (uM1 x (lgS (mS x.2.1) i (nI d))) u 1 (ro (mS x.2.1) i) (co (mS x.2.1) i) (lgS (mS x.2.1) i (nI d) (6 + 3 * ro (mS x.2.1) i + co (mS x.2.1) i) + rN (mS x.2.1) i 6) (d + 1)) := (if_neg (fun q => q.elim c20 c31)).trans ((if_neg c38).trans ((if_neg (fun q => Bool.noConfusion (c90.symm.trans q))).trans ((if_neg c113))))
              rw [e]
              refine pw_iconst (v := 1) (tk tkX8_acts 82 rfl) (by decide) ?_
              refine pw_goto (tgt := 140) (tk tkX8_acts 83 rfl) (by decide) ?_
              exact pw_ireturn (tk tkX8_acts 85 rfl) rfl (by decide) (by first | rfl | exact nar_bI _) ⟨by dsimp only; exact congrArg (fun b => Sum.inl (some (Value.int (bI b)))) c132.symm, rfl⟩
        · refine pw_aload_n (tk tkX8_acts 58 rfl) rfl ?_
          refine pw_iconst (v := 2) (tk tkX8_acts 59 rfl) (by decide) ?_
          refine p8_refused (tk tkX8_acts 60 rfl) fkX8_59 ?_
          refine pw_iconst (v := 0) (tk tkX8_acts 61 rfl) (by decide) ?_
          refine pw_ireturn (tk tkX8_acts 62 rfl) rfl (by decide) (by first | rfl | exact nar_bI _) ?_
          have e : acX x u i d = (false, uM7 (uM1 x (lgS (mS x.2.1) i (nI d))) (upd (mF x.2.1) 13 2)) := (if_neg (fun q => q.elim c20 c31)).trans ((if_neg c38).trans ((if_pos c90)))
          rw [e]
          exact ⟨rfl, rfl⟩
      · refine pw_aload_n (tk tkX8_acts 27 rfl) rfl ?_
        refine pw_iconst (v := 2) (tk tkX8_acts 28 rfl) (by decide) ?_
        refine pw_iload_n (tk tkX8_acts 29 rfl) rfl ?_
        refine pw_iconst (v := 0) (tk tkX8_acts 30 rfl) (by decide) ?_
        refine pw_iconst (v := 0) (tk tkX8_acts 31 rfl) (by decide) ?_
        refine pw_aload_n (tk tkX8_acts 32 rfl) rfl ?_
        refine g8_depth (tk tkX8_acts 33 rfl) fkX8_62 ?_
        refine pw_iconst (v := 1) (tk tkX8_acts 34 rfl) (by decide) ?_
        refine pw_iadd (tk tkX8_acts 35 rfl) ?_
        rw [show mF (uM1 x (lgS (mS x.2.1) i (nI d))).2.1 10 = nI d from hd, nI_1]
        refine pw_cV (ct_X8_begins (uM1 x (lgS (mS x.2.1) i (nI d))) u hv1 2 (ro (mS x.2.1) i) 0 0 (d + 1) hr (by decide) (by omega)) okX8_begins (tk tkX8_acts 36 rfl) mkX8_72 imX8_begins seX8_begins (hp_ot _ 11) rfl rfl rfl (by decide) (by decide) (Nat.le_of_ble_eq_true rfl) ?_
        refine pw_ireturn (tk tkX8_acts 37 rfl) rfl (by decide) (nar_bI _) ?_
        have e : acX x u i d = (decide (bgC (lgS (mS x.2.1) i (nI d)) u (mF x.2.1 12) 2 (ro (mS x.2.1) i) 0 0 (nI (d + 1)) = 0), bgX (uM1 x (lgS (mS x.2.1) i (nI d))) u 2 (ro (mS x.2.1) i) 0 0 (d + 1)) := (if_neg (fun q => q.elim c20 c31)).trans ((if_pos c38))
        rw [e]
        exact ⟨rfl, rfl⟩
    · have e : acX x u i d = (true, (uM1 x (lgS (mS x.2.1) i (nI d)))) := (if_pos (.inr c31))
      rw [e]
      refine pw_iconst (v := 1) (tk tkX8_acts 22 rfl) (by decide) ?_
      exact pw_ireturn (tk tkX8_acts 23 rfl) rfl (by decide) (by first | rfl | exact nar_bI _) ⟨rfl, rfl⟩
