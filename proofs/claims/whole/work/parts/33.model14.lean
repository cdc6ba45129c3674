def shR (r n : Nat) (s : Nat → Int32) : Nat → Int32 := fun j => if 26 + 9 * r ≤ j ∧ j < 26 + 9 * r + n then s (j + 9) else s j
theorem shR_0 (r : Nat) (s : Nat → Int32) : shR r 0 s = s := by funext j; unfold shR; rw [if_neg (by omega)]
theorem shR_s (r n : Nat) (s : Nat → Int32) : upd (shR r n s) (26 + 9 * r + n) (shR r n s (26 + 9 * r + n + 9)) = shR r (n + 1) s := by
  have e1 : shR r n s (26 + 9 * r + n + 9) = s (26 + 9 * r + n + 9) := if_neg (by omega)
  rw [e1]
  funext j
  unfold shR upd
  by_cases e : j = 26 + 9 * r + n
  · subst e; rw [if_pos rfl, if_pos (by omega)]
  · rw [if_neg e]
    dsimp only
    by_cases e2 : 26 + 9 * r ≤ j ∧ j < 26 + 9 * r + n
    · rw [if_pos e2, if_pos (by omega)]
    · rw [if_neg e2, if_neg (by omega)]
def drV (t : Nat → Int32) (r k : Nat) : Int32 := if t (100 + k) ≤ nI r then t (100 + k) else t (100 + k) - 1
def drL (s : Nat → Int32) (r : Nat) : Nat → (Nat → Int32) × Nat
  | 0 => (s, 0)
  | k + 1 => (upd (upd (drL s r k).1 (100 + (drL s r k).2) (drV (drL s r k).1 r k)) (116 + (drL s r k).2) (upd (drL s r k).1 (100 + (drL s r k).2) (drV (drL s r k).1 r k) (116 + k)), (drL s r k).2 + (if (drL s r k).1 (100 + k) = nI r then 0 else 1))
theorem drL_le (s : Nat → Int32) (r : Nat) : ∀ k, (drL s r k).2 ≤ k
  | 0 => Nat.le_refl _
  | k + 1 => by
    have := drL_le s r k
    show (drL s r k).2 + (if _ then 0 else 1) ≤ k + 1
    split <;> omega
theorem drL_nt (s : Nat → Int32) (r : Nat) {j : Nat} (h : j < 100) : ∀ k, (drL s r k).1 j = s j
  | 0 => rfl
  | k + 1 => by
    show upd (upd _ _ _) _ _ j = s j
    rw [upd_nt _ _ (by omega), upd_nt _ _ (by omega), drL_nt s r h k]
def drB (s : Nat → Int32) (u r : Nat) : Nat → Int32 := shR r (9 * (u - 1 - r)) (upd s 25 (nI (u - 1)))
def drS (s : Nat → Int32) (u r l : Nat) : Nat → Int32 := upd (drL (drB s u r) r l).1 99 (nI (drL (drB s u r) r l).2)
theorem drB_hi (s : Nat → Int32) {u r : Nat} (hr : r < u) (hu : u ≤ 8) {j : Nat} (h : j ≠ 25) (h2 : j < 26 ∨ 98 ≤ j) : drB s u r j = s j := by
  unfold drB shR; rw [if_neg (by omega), upd_nt _ _ h]
theorem drB_ru (s : Nat → Int32) {u r : Nat} (hr : r < u) {i k : Nat} (hi : i < u - 1) (hk : k < 9) : rN (drB s u r) i k = rN s (if i < r then i else i + 1) k := by
  unfold rN drB shR
  by_cases q : i < r
  · rw [if_neg (by omega), upd_nt _ _ (by omega), if_pos q]
  · rw [if_pos (by omega), upd_nt _ _ (by omega), if_neg q, show 26 + 9 * i + k + 9 = 26 + 9 * (i + 1) + k by omega]
theorem drS_VS {s : Nat → Int32} {u r l : Nat} (h : VS u s) (hr : r < u) (hl : l ≤ 16) : VS (uN (drS s u r l)) (drS s u r l) := by
  have hu8 := h.1
  have g : ∀ j, j < 99 → drS s u r l j = drB s u r j := fun j hj => by unfold drS; rw [upd_nt _ _ (by omega), drL_nt _ _ (by omega)]
  have e25 : drS s u r l 25 = nI (u - 1) := by rw [g 25 (by omega)]; unfold drB shR; rw [if_neg (by omega), upd_at]
  have eu : uN (drS s u r l) = u - 1 := by unfold uN; rw [e25, nI_clamp (by omega)]
  rw [eu]
  obtain ⟨b1, b2, b3, b4, b5, b6⟩ := h
  refine ⟨by omega, e25, (by rw [g 24 (by omega), drB_hi s hr hu8 (by omega) (by omega)]; exact b3), ⟨_, Nat.le_trans (drL_le _ _ _) hl, upd_at _ _ _⟩, fun j hj => by rw [g j (by omega), drB_hi s hr hu8 (by omega) (by omega)]; exact b5 j hj, fun i hi => ?_⟩
  have g2 : ∀ w, w < 9 → rN (drS s u r l) i w = rN s (if i < r then i else i + 1) w := fun w hw => (g _ (by omega)).trans (drB_ru s hr hi hw)
  rw [g2 1 (by omega), g2 4 (by omega), g2 5 (by omega), g2 7 (by omega), g2 3 (by omega)]
  exact b6 _ (by split <;> omega)
def sdropRule (a : AM) (r : Int32) : RS3 := if inR r 0 (aS a 25 - 1) = false then (1, 0, a) else (0, rN (aS a) r.toNatClampNeg 8, (drS (aS a) (uN (aS a)) r.toNatClampNeg (aS a 99).toNatClampNeg, recH a (aS a), a.2.2))
set_option maxRecDepth 100000 in
set_option maxHeartbeats 4000000 in
theorem ct_X8_dropRule (x : XW) (hx : VM x.2.1) (r : Int32) : CT MX8_dropRule 3 0 [.ref 171, .int r] (hp x) (MOQ x (sdropRule (aOf x.2.1) r)) := by
  refine ct_of (by decide +kernel) (by decide) rfl (k := 4) (ls := [some (.ref 171), some (.int r), none, none, none, none]) rfl (Nat.le_of_ble_eq_true rfl) ?_
  obtain ⟨hu, hu8⟩ := hx.u
  obtain ⟨l99, hl, el⟩ := hx.l
  have hv : VS (uN (mS x.2.1)) (mS x.2.1) := hx.2.2.2.2.2
  obtain ⟨u, eu⟩ : ∃ u, u = uN (mS x.2.1) := ⟨_, rfl⟩
  rw [← eu] at hu hu8 hv
  have main : ∀ r1, r1 < u → sdropRule (aOf x.2.1) (nI r1) = (0, rN (mS x.2.1) r1 8, (drS (mS x.2.1) u r1 l99, recH (aOf x.2.1) (mS x.2.1), (aOf x.2.1).2.2)) → PW MX8_dropRule 3 0 26 [some (.ref 171), some (.int (nI r1)), none, none, none, none] [] (hp (uM1 (xRec (xThr x 0) (aK (aOf x.2.1))) (mS x.2.1))) (MOQ x (sdropRule (aOf x.2.1) (nI r1))) := by
    intro r1 hr he
    have e99 : ∀ k, (drL (drB (mS x.2.1) u r1) r1 k).1 99 = nI l99 := fun k => by rw [drL_nt _ _ (by omega), drB_hi _ hr hu8 (by omega) (by omega)]; exact el
    have L2 : ∀ k i, i + k = l99 → ∀ (y : XW) (a5 : Option Value) (hy : y = uM1 (xRec (xThr x 0) (aK (aOf x.2.1))) (drL (drB (mS x.2.1) u r1) r1 i).1), PW MX8_dropRule 3 0 96 [some (.ref 171), some (.int (nI r1)), some (.int (rN (mS x.2.1) r1 8)), some (.int (nI (drL (drB (mS x.2.1) u r1) r1 i).2)), some (.int (nI i)), a5] [] (hp y) (MOQ x (sdropRule (aOf x.2.1) (nI r1))) := by
      intro k
      induction k with
      | zero =>
        intro i hi y a5 hy
        have ei : i = l99 := by omega
        rw [ei]
        refine pw_iload (tk tkX8_dropRule 59 rfl) rfl ?_
        refine pw_aload_n (tk tkX8_dropRule 60 rfl) rfl ?_
        refine g8_s (tk tkX8_dropRule 61 rfl) fkX8_7 ?_
        refine pw_bipush (v := 99) (tk tkX8_dropRule 62 rfl) (by decide) ?_
        refine al_s_e (e := 99) (tk tkX8_dropRule 63 rfl) (by first | rfl | simp only [lit_nI, nI_add, pk_mul]) (by first | decide | omega) ?_
        rw [show mS y.2.1 99 = nI l99 from by rw [hy]; exact e99 _]
        refine pw_icmp_ge (tgt := 183) (tk tkX8_dropRule 64 rfl) (by decide) (fun c105 => ?_) (fun c105 => absurd (Int32.le_refl _) c105)
        rw [ei] at hy
        subst hy
        refine pw_aload_n (tk tkX8_dropRule 109 rfl) rfl ?_
        refine g8_s (tk tkX8_dropRule 110 rfl) fkX8_7 ?_
        refine pw_bipush (v := 99) (tk tkX8_dropRule 111 rfl) (by decide) ?_
        refine pw_iload_n (tk tkX8_dropRule 112 rfl) rfl ?_
        refine as_s_e (e := 99) (tk tkX8_dropRule 113 rfl) (by first | rfl | simp only [lit_nI, nI_add, pk_mul]) (by first | decide | omega) ?_
        refine pw_iload_n (tk tkX8_dropRule 114 rfl) rfl ?_
        refine pw_ireturn (tk tkX8_dropRule 115 rfl) rfl (by decide) rfl ?_
        exact MOQ.rc hx (drS (mS x.2.1) u r1 l99) _ (drS_VS hv hr hl) he
      | succ k ih =>
        intro i hi y a5 hy
        have hlf : (drL (drB (mS x.2.1) u r1) r1 i).2 ≤ i := drL_le _ _ _
        subst hy
        refine pw_iload (tk tkX8_dropRule 59 rfl) rfl ?_
        refine pw_aload_n (tk tkX8_dropRule 60 rfl) rfl ?_
        refine g8_s (tk tkX8_dropRule 61 rfl) fkX8_7 ?_
        refine pw_bipush (v := 99) (tk tkX8_dropRule 62 rfl) (by decide) ?_
        refine al_s_e (e := 99) (tk tkX8_dropRule 63 rfl) (by first | rfl | simp only [lit_nI, nI_add, pk_mul]) (by first | decide | omega) ?_
        rw [show mS (uM1 (xRec (xThr x 0) (aK (aOf x.2.1))) (drL (drB (mS x.2.1) u r1) r1 i).1).2.1 99 = nI l99 from e99 _]
        refine pw_icmp_ge (tgt := 183) (tk tkX8_dropRule 64 rfl) (by decide) (fun c105 => absurd c105 (nI_ge (by omega) (by omega))) (fun c105 => ?_)
        refine pw_aload_n (tk tkX8_dropRule 65 rfl) rfl ?_
        refine g8_s (tk tkX8_dropRule 66 rfl) fkX8_7 ?_
        refine pw_bipush (v := 100) (tk tkX8_dropRule 67 rfl) (by decide) ?_
        refine pw_iload (tk tkX8_dropRule 68 rfl) rfl ?_
        refine pw_iadd (tk tkX8_dropRule 69 rfl) ?_
        refine al_s_e (e := 100 + i) (tk tkX8_dropRule 70 rfl) (by simp only [lit_nI, nI_add]) (by first | decide | omega) ?_
        refine pw_ist5 (tk tkX8_dropRule 71 rfl) rfl (by decide) ?_
        refine pw_aload_n (tk tkX8_dropRule 72 rfl) rfl ?_
        refine g8_s (tk tkX8_dropRule 73 rfl) fkX8_7 ?_
        refine pw_bipush (v := 100) (tk tkX8_dropRule 74 rfl) (by decide) ?_
        refine pw_iload_n (tk tkX8_dropRule 75 rfl) rfl ?_
        refine pw_iadd (tk tkX8_dropRule 76 rfl) ?_
        refine pw_iload (tk tkX8_dropRule 77 rfl) rfl ?_
        refine pw_iload_n (tk tkX8_dropRule 78 rfl) rfl ?_
        refine pw_icmp_le (tgt := 141) (tk tkX8_dropRule 79 rfl) (by decide) (fun c131 => ?_) (fun c131 => ?_)
        · refine pw_iload (tk tkX8_dropRule 84 rfl) rfl ?_
          refine as_s_e (e := 100 + (drL (drB (mS x.2.1) u r1) r1 i).2) (tk tkX8_dropRule 85 rfl) (by simp only [lit_nI, nI_add]) (by omega) ?_
          refine pw_aload_n (tk tkX8_dropRule 86 rfl) rfl ?_
          refine g8_s (tk tkX8_dropRule 87 rfl) fkX8_7 ?_
          refine pw_bipush (v := 116) (tk tkX8_dropRule 88 rfl) (by decide) ?_
          refine pw_iload_n (tk tkX8_dropRule 89 rfl) rfl ?_
          refine pw_iadd (tk tkX8_dropRule 90 rfl) ?_
          refine pw_aload_n (tk tkX8_dropRule 91 rfl) rfl ?_
          refine g8_s (tk tkX8_dropRule 92 rfl) fkX8_7 ?_
          refine pw_bipush (v := 116) (tk tkX8_dropRule 93 rfl) (by decide) ?_
          refine pw_iload (tk tkX8_dropRule 94 rfl) rfl ?_
          refine pw_iadd (tk tkX8_dropRule 95 rfl) ?_
          refine al_s_e (e := 116 + i) (tk tkX8_dropRule 96 rfl) (by simp only [lit_nI, nI_add]) (by first | decide | omega) ?_
          refine as_s_e (e := 116 + (drL (drB (mS x.2.1) u r1) r1 i).2) (tk tkX8_dropRule 97 rfl) (by simp only [lit_nI, nI_add]) (by omega) ?_
          refine pw_iload_n (tk tkX8_dropRule 98 rfl) rfl ?_
          refine pw_iload (tk tkX8_dropRule 99 rfl) rfl ?_
          refine pw_iload_n (tk tkX8_dropRule 100 rfl) rfl ?_
          refine pw_icmp_ne (tgt := 174) (tk tkX8_dropRule 101 rfl) (by decide) (fun c167 => ?_) (fun c167 => ?_)
          · refine pw_iconst (v := 1) (tk tkX8_dropRule 104 rfl) (by decide) ?_
            refine pw_iadd (tk tkX8_dropRule 105 rfl) ?_
            refine pw_ist3 (tk tkX8_dropRule 106 rfl) rfl (by decide) ?_
            refine pw_inc4 (tk tkX8_dropRule 107 rfl) rfl (by decide) (nI_1 i) ?_
            refine pw_goto (tgt := 96) (tk tkX8_dropRule 108 rfl) (by decide) ?_
            have ev : drV (drL (drB (mS x.2.1) u r1) r1 i).1 r1 i = (drL (drB (mS x.2.1) u r1) r1 i).1 (100 + i) := if_pos c131
            have ew : (drL (drB (mS x.2.1) u r1) r1 (i + 1)).2 = (drL (drB (mS x.2.1) u r1) r1 i).2 + 1 := congrArg ((drL (drB (mS x.2.1) u r1) r1 i).2 + ·) (if_neg c167)
            rw [show nI (drL (drB (mS x.2.1) u r1) r1 i).2 + 1 = nI (drL (drB (mS x.2.1) u r1) r1 (i + 1)).2 from by rw [ew]; exact nI_1 _]
            refine ih (i + 1) (by omega) _ _ ?_
            show uM1 (xRec (xThr x 0) (aK (aOf x.2.1))) (upd (upd (drL (drB (mS x.2.1) u r1) r1 i).1 (100 + (drL (drB (mS x.2.1) u r1) r1 i).2) ((drL (drB (mS x.2.1) u r1) r1 i).1 (100 + i))) (116 + (drL (drB (mS x.2.1) u r1) r1 i).2) (upd (drL (drB (mS x.2.1) u r1) r1 i).1 (100 + (drL (drB (mS x.2.1) u r1) r1 i).2) ((drL (drB (mS x.2.1) u r1) r1 i).1 (100 + i)) (116 + i))) = _
            rw [← ev]
            rfl
          · refine pw_iconst (v := 0) (tk tkX8_dropRule 102 rfl) (by decide) ?_
            refine pw_goto (tgt := 175) (tk tkX8_dropRule 103 rfl) (by decide) ?_
            refine pw_iadd (tk tkX8_dropRule 105 rfl) ?_
            refine pw_ist3 (tk tkX8_dropRule 106 rfl) rfl (by decide) ?_
            refine pw_inc4 (tk tkX8_dropRule 107 rfl) rfl (by decide) (nI_1 i) ?_
            refine pw_goto (tgt := 96) (tk tkX8_dropRule 108 rfl) (by decide) ?_
            have ev : drV (drL (drB (mS x.2.1) u r1) r1 i).1 r1 i = (drL (drB (mS x.2.1) u r1) r1 i).1 (100 + i) := if_pos c131
            have ew : (drL (drB (mS x.2.1) u r1) r1 (i + 1)).2 = (drL (drB (mS x.2.1) u r1) r1 i).2 + 0 := congrArg ((drL (drB (mS x.2.1) u r1) r1 i).2 + ·) (if_pos c167)
            rw [show nI (drL (drB (mS x.2.1) u r1) r1 i).2 + 0 = nI (drL (drB (mS x.2.1) u r1) r1 (i + 1)).2 from by rw [ew]; exact Int32.add_zero _]
            refine ih (i + 1) (by omega) _ _ ?_
            show uM1 (xRec (xThr x 0) (aK (aOf x.2.1))) (upd (upd (drL (drB (mS x.2.1) u r1) r1 i).1 (100 + (drL (drB (mS x.2.1) u r1) r1 i).2) ((drL (drB (mS x.2.1) u r1) r1 i).1 (100 + i))) (116 + (drL (drB (mS x.2.1) u r1) r1 i).2) (upd (drL (drB (mS x.2.1) u r1) r1 i).1 (100 + (drL (drB (mS x.2.1) u r1) r1 i).2) ((drL (drB (mS x.2.1) u r1) r1 i).1 (100 + i)) (116 + i))) = _
            rw [← ev]
            rfl
        · refine pw_iload (tk tkX8_dropRule 80 rfl) rfl ?_
          refine pw_iconst (v := 1) (tk tkX8_dropRule 81 rfl) (by decide) ?_
          refine pw_isub (tk tkX8_dropRule 82 rfl) ?_
          refine pw_goto (tgt := 143) (tk tkX8_dropRule 83 rfl) (by decide) ?_
          refine as_s_e (e := 100 + (drL (drB (mS x.2.1) u r1) r1 i).2) (tk tkX8_dropRule 85 rfl) (by simp only [lit_nI, nI_add]) (by omega) ?_
          refine pw_aload_n (tk tkX8_dropRule 86 rfl) rfl ?_
          refine g8_s (tk tkX8_dropRule 87 rfl) fkX8_7 ?_
          refine pw_bipush (v := 116) (tk tkX8_dropRule 88 rfl) (by decide) ?_
          refine pw_iload_n (tk tkX8_dropRule 89 rfl) rfl ?_
          refine pw_iadd (tk tkX8_dropRule 90 rfl) ?_
          refine pw_aload_n (tk tkX8_dropRule 91 rfl) rfl ?_
          refine g8_s (tk tkX8_dropRule 92 rfl) fkX8_7 ?_
          refine pw_bipush (v := 116) (tk tkX8_dropRule 93 rfl) (by decide) ?_
          refine pw_iload (tk tkX8_dropRule 94 rfl) rfl ?_
          refine pw_iadd (tk tkX8_dropRule 95 rfl) ?_
          refine al_s_e (e := 116 + i) (tk tkX8_dropRule 96 rfl) (by simp only [lit_nI, nI_add]) (by first | decide | omega) ?_
          refine as_s_e (e := 116 + (drL (drB (mS x.2.1) u r1) r1 i).2) (tk tkX8_dropRule 97 rfl) (by simp only [lit_nI, nI_add]) (by omega) ?_
          refine pw_iload_n (tk tkX8_dropRule 98 rfl) rfl ?_
          refine pw_iload (tk tkX8_dropRule 99 rfl) rfl ?_
          refine pw_iload_n (tk tkX8_dropRule 100 rfl) rfl ?_
          refine pw_icmp_ne (tgt := 174) (tk tkX8_dropRule 101 rfl) (by decide) (fun c167 => ?_) (fun c167 => ?_)
          · refine pw_iconst (v := 1) (tk tkX8_dropRule 104 rfl) (by decide) ?_
            refine pw_iadd (tk tkX8_dropRule 105 rfl) ?_
            refine pw_ist3 (tk tkX8_dropRule 106 rfl) rfl (by decide) ?_
            refine pw_inc4 (tk tkX8_dropRule 107 rfl) rfl (by decide) (nI_1 i) ?_
            refine pw_goto (tgt := 96) (tk tkX8_dropRule 108 rfl) (by decide) ?_
            have ev : drV (drL (drB (mS x.2.1) u r1) r1 i).1 r1 i = (drL (drB (mS x.2.1) u r1) r1 i).1 (100 + i) - 1 := if_neg c131
            have ew : (drL (drB (mS x.2.1) u r1) r1 (i + 1)).2 = (drL (drB (mS x.2.1) u r1) r1 i).2 + 1 := congrArg ((drL (drB (mS x.2.1) u r1) r1 i).2 + ·) (if_neg c167)
            rw [show nI (drL (drB (mS x.2.1) u r1) r1 i).2 + 1 = nI (drL (drB (mS x.2.1) u r1) r1 (i + 1)).2 from by rw [ew]; exact nI_1 _]
            refine ih (i + 1) (by omega) _ _ ?_
            show uM1 (xRec (xThr x 0) (aK (aOf x.2.1))) (upd (upd (drL (drB (mS x.2.1) u r1) r1 i).1 (100 + (drL (drB (mS x.2.1) u r1) r1 i).2) ((drL (drB (mS x.2.1) u r1) r1 i).1 (100 + i) - 1)) (116 + (drL (drB (mS x.2.1) u r1) r1 i).2) (upd (drL (drB (mS x.2.1) u r1) r1 i).1 (100 + (drL (drB (mS x.2.1) u r1) r1 i).2) ((drL (drB (mS x.2.1) u r1) r1 i).1 (100 + i) - 1) (116 + i))) = _
            rw [← ev]
            rfl
          · refine pw_iconst (v := 0) (tk tkX8_dropRule 102 rfl) (by decide) ?_
            refine pw_goto (tgt := 175) (tk tkX8_dropRule 103 rfl) (by decide) ?_
            refine pw_iadd (tk tkX8_dropRule 105 rfl) ?_
            refine pw_ist3 (tk tkX8_dropRule 106 rfl) rfl (by decide) ?_
            refine pw_inc4 (tk tkX8_dropRule 107 rfl) rfl (by decide) (nI_1 i) ?_
            refine pw_goto (tgt := 96) (tk tkX8_dropRule 108 rfl) (by decide) ?_
            have ev : drV (drL (drB (mS x.2.1) u r1) r1 i).1 r1 i = (drL (drB (mS x.2.1) u r1) r1 i).1 (100 + i) - 1 := if_neg c131
            have ew : (drL (drB (mS x.2.1) u r1) r1 (i + 1)).2 = (drL (drB (mS x.2.1) u r1) r1 i).2 + 0 := congrArg ((drL (drB (mS x.2.1) u r1) r1 i).2 + ·) (if_pos c167)
            rw [show nI (drL (drB (mS x.2.1) u r1) r1 i).2 + 0 = nI (drL (drB (mS x.2.1) u r1) r1 (i + 1)).2 from by rw [ew]; exact Int32.add_zero _]
            refine ih (i + 1) (by omega) _ _ ?_
            show uM1 (xRec (xThr x 0) (aK (aOf x.2.1))) (upd (upd (drL (drB (mS x.2.1) u r1) r1 i).1 (100 + (drL (drB (mS x.2.1) u r1) r1 i).2) ((drL (drB (mS x.2.1) u r1) r1 i).1 (100 + i) - 1)) (116 + (drL (drB (mS x.2.1) u r1) r1 i).2) (upd (drL (drB (mS x.2.1) u r1) r1 i).1 (100 + (drL (drB (mS x.2.1) u r1) r1 i).2) ((drL (drB (mS x.2.1) u r1) r1 i).1 (100 + i) - 1) (116 + i))) = _
            rw [← ev]
            rfl
    have L1 : ∀ k i, i + k = 9 * (u - 1 - r1) → ∀ (y : XW) (hy : y = uM1 (xRec (xThr x 0) (aK (aOf x.2.1))) (shR r1 i (upd (mS x.2.1) 25 (nI (u - 1))))), PW MX8_dropRule 3 0 53 [some (.ref 171), some (.int (nI r1)), some (.int (rN (mS x.2.1) r1 8)), some (.int (nI (26 + 9 * r1 + i))), none, none] [] (hp y) (MOQ x (sdropRule (aOf x.2.1) (nI r1))) := by
      intro k
      induction k with
      | zero =>
        intro i hi y hy
        have ei : i = 9 * (u - 1 - r1) := by omega
        rw [ei]
        refine pw_iload_n (tk tkX8_dropRule 33 rfl) rfl ?_
        refine pw_bipush (v := 26) (tk tkX8_dropRule 34 rfl) (by decide) ?_
        refine pw_bipush (v := 9) (tk tkX8_dropRule 35 rfl) (by decide) ?_
        refine pw_aload_n (tk tkX8_dropRule 36 rfl) rfl ?_
        refine g8_s (tk tkX8_dropRule 37 rfl) fkX8_7 ?_
        refine pw_bipush (v := 25) (tk tkX8_dropRule 38 rfl) (by decide) ?_
        refine al_s_e (e := 25) (tk tkX8_dropRule 39 rfl) (by first | rfl | simp only [lit_nI, nI_add, pk_mul]) (by first | decide | omega) ?_
        refine pw_imul (tk tkX8_dropRule 40 rfl) ?_
        refine pw_iadd (tk tkX8_dropRule 41 rfl) ?_
        rw [show mS y.2.1 25 = nI (u - 1) from by rw [hy]; show shR r1 _ _ 25 = _; unfold shR; rw [if_neg (by omega), upd_at], show (26 : Int32) + 9 * nI (u - 1) = nI (26 + 9 * (u - 1)) from by simp only [lit_nI, nI_add, pk_mul]]
        refine pw_icmp_ge (tgt := 91) (tk tkX8_dropRule 42 rfl) (by decide) (fun c67 => ?_) (fun c67 => absurd (by rw [show 26 + 9 * r1 + 9 * (u - 1 - r1) = 26 + 9 * (u - 1) by omega]; exact Int32.le_refl _) c67)
        refine pw_iconst (v := 0) (tk tkX8_dropRule 55 rfl) (by decide) ?_
        refine pw_ist3 (tk tkX8_dropRule 56 rfl) rfl (by decide) ?_
        refine pw_iconst (v := 0) (tk tkX8_dropRule 57 rfl) (by decide) ?_
        refine pw_ist4 (tk tkX8_dropRule 58 rfl) rfl (by decide) ?_
        exact L2 l99 0 (by omega) _ _ (by rw [hy, ei]; rfl)
      | succ k ih =>
        intro i hi y hy
        refine pw_iload_n (tk tkX8_dropRule 33 rfl) rfl ?_
        refine pw_bipush (v := 26) (tk tkX8_dropRule 34 rfl) (by decide) ?_
        refine pw_bipush (v := 9) (tk tkX8_dropRule 35 rfl) (by decide) ?_
        refine pw_aload_n (tk tkX8_dropRule 36 rfl) rfl ?_
        refine g8_s (tk tkX8_dropRule 37 rfl) fkX8_7 ?_
        refine pw_bipush (v := 25) (tk tkX8_dropRule 38 rfl) (by decide) ?_
        refine al_s_e (e := 25) (tk tkX8_dropRule 39 rfl) (by first | rfl | simp only [lit_nI, nI_add, pk_mul]) (by first | decide | omega) ?_
        refine pw_imul (tk tkX8_dropRule 40 rfl) ?_
        refine pw_iadd (tk tkX8_dropRule 41 rfl) ?_
        rw [show mS y.2.1 25 = nI (u - 1) from by rw [hy]; show shR r1 _ _ 25 = _; unfold shR; rw [if_neg (by omega), upd_at], show (26 : Int32) + 9 * nI (u - 1) = nI (26 + 9 * (u - 1)) from by simp only [lit_nI, nI_add, pk_mul]]
        refine pw_icmp_ge (tgt := 91) (tk tkX8_dropRule 42 rfl) (by decide) (fun c67 => absurd c67 (nI_ge (by omega) (by omega))) (fun c67 => ?_)
        refine pw_aload_n (tk tkX8_dropRule 43 rfl) rfl ?_
        refine g8_s (tk tkX8_dropRule 44 rfl) fkX8_7 ?_
        refine pw_iload_n (tk tkX8_dropRule 45 rfl) rfl ?_
        refine pw_aload_n (tk tkX8_dropRule 46 rfl) rfl ?_
        refine g8_s (tk tkX8_dropRule 47 rfl) fkX8_7 ?_
        refine pw_iload_n (tk tkX8_dropRule 48 rfl) rfl ?_
        refine pw_bipush (v := 9) (tk tkX8_dropRule 49 rfl) (by decide) ?_
        refine pw_iadd (tk tkX8_dropRule 50 rfl) ?_
        refine al_s_e (e := 26 + 9 * r1 + i + 9) (tk tkX8_dropRule 51 rfl) (by simp only [lit_nI, nI_add]) (by first | decide | omega) ?_
        refine as_s_e (e := 26 + 9 * r1 + i) (tk tkX8_dropRule 52 rfl) rfl (by first | decide | omega) ?_
        refine pw_inc3 (tk tkX8_dropRule 53 rfl) rfl (by decide) (nI_1 _) ?_
        refine pw_goto (tgt := 53) (tk tkX8_dropRule 54 rfl) (by decide) ?_
        refine ih (i + 1) (by omega) _ ?_
        rw [hy]
        show uM1 (xRec (xThr x 0) (aK (aOf x.2.1))) (upd (shR r1 i (upd (mS x.2.1) 25 (nI (u - 1)))) (26 + 9 * r1 + i) (shR r1 i (upd (mS x.2.1) 25 (nI (u - 1))) (26 + 9 * r1 + i + 9))) = _
        rw [shR_s]
    refine pw_aload_n (tk tkX8_dropRule 14 rfl) rfl ?_
    refine pw_iload_n (tk tkX8_dropRule 15 rfl) rfl ?_
    refine pw_bipush (v := 8) (tk tkX8_dropRule 16 rfl) (by decide) ?_
    refine pw_cV (ct_X8_at (uM1 (xRec (xThr x 0) (aK (aOf x.2.1))) (mS x.2.1)) r1 8 (by omega)) okX8_at (tk tkX8_dropRule 17 rfl) mkX8_45 imX8_at seX8_at (hp_ot _ 11) rfl rfl rfl (by decide) (by decide) (Nat.le_of_ble_eq_true rfl) ?_
    refine pw_ist2 (tk tkX8_dropRule 18 rfl) rfl (by decide) ?_
    refine pw_aload_n (tk tkX8_dropRule 19 rfl) rfl ?_
    refine g8_s (tk tkX8_dropRule 20 rfl) fkX8_7 ?_
    refine pw_bipush (v := 25) (tk tkX8_dropRule 21 rfl) (by decide) ?_
    refine pw_dup2 (tk tkX8_dropRule 22 rfl) rfl rfl ?_
    refine al_s_e (e := 25) (tk tkX8_dropRule 23 rfl) (by first | rfl | simp only [lit_nI, nI_add, pk_mul]) (by first | decide | omega) ?_
    refine pw_iconst (v := 1) (tk tkX8_dropRule 24 rfl) (by decide) ?_
    refine pw_isub (tk tkX8_dropRule 25 rfl) ?_
    rw [show mS (uM1 (xRec (xThr x 0) (aK (aOf x.2.1))) (mS x.2.1)).2.1 25 = nI u from hu, show nI u - 1 = nI (u - 1) from pk_sub (a := u) (b := 1) (by omega)]
    refine as_s_e (e := 25) (tk tkX8_dropRule 26 rfl) (by first | rfl | simp only [lit_nI, nI_add, pk_mul]) (by first | decide | omega) ?_
    refine pw_bipush (v := 26) (tk tkX8_dropRule 27 rfl) (by decide) ?_
    refine pw_bipush (v := 9) (tk tkX8_dropRule 28 rfl) (by decide) ?_
    refine pw_iload_n (tk tkX8_dropRule 29 rfl) rfl ?_
    refine pw_imul (tk tkX8_dropRule 30 rfl) ?_
    refine pw_iadd (tk tkX8_dropRule 31 rfl) ?_
    rw [show (26 : Int32) + 9 * nI r1 = nI (26 + 9 * r1 + 0) from by simp only [lit_nI, nI_add, pk_mul]; rfl]
    refine pw_ist3 (tk tkX8_dropRule 32 rfl) rfl (by decide) ?_
    exact L1 (9 * (u - 1 - r1)) 0 (by omega) _ (by rw [shR_0]; rfl)
  refine pw_aload_n (tk tkX8_dropRule 0 rfl) rfl ?_
  refine pw_aload_n (tk tkX8_dropRule 1 rfl) rfl ?_
  refine pw_iload_n (tk tkX8_dropRule 2 rfl) rfl ?_
  refine pw_cV (ct_X8_isRule x _) okX8_isRule (tk tkX8_dropRule 3 rfl) mkX8_103 imX8_isRule seX8_isRule (hp_ot _ 11) rfl rfl rfl (by decide) (by decide) (Nat.le_of_ble_eq_true rfl) ?_
  refine pw_ifb (tgt := 13) (tk tkX8_dropRule 4 rfl) (by decide) (fun c6 => ?_) (fun c6 => ?_)
  · refine pw_iconst (v := 1) (tk tkX8_dropRule 7 rfl) (by decide) ?_
    refine pw_cV (ct_X8_holds x _) okX8_holds (tk tkX8_dropRule 8 rfl) mkX8_97 imX8_holds seX8_holds (hp_ot _ 11) rfl rfl rfl (by decide) (by decide) (Nat.le_of_ble_eq_true rfl) ?_
    refine pw_ifnb (tgt := 22) (tk tkX8_dropRule 9 rfl) (by decide) (fun c17 => absurd c17 (by decide)) (fun c17 => ?_)
    refine pw_iconst (v := 0) (tk tkX8_dropRule 10 rfl) (by decide) ?_
    refine pw_ireturn (tk tkX8_dropRule 11 rfl) rfl (by decide) rfl ?_
    have e : sdropRule (aOf x.2.1) r = (1, 0, aOf x.2.1) := (if_pos c6)
    rw [e]
    exact ⟨_, rfl, rfl, rfl, rfl, rfl, hx, AE.rf _⟩
  · refine pw_iconst (v := 0) (tk tkX8_dropRule 5 rfl) (by decide) ?_
    refine pw_goto (tgt := 14) (tk tkX8_dropRule 6 rfl) (by decide) ?_
    refine pw_cV (ct_X8_holds x _) okX8_holds (tk tkX8_dropRule 8 rfl) mkX8_97 imX8_holds seX8_holds (hp_ot _ 11) rfl rfl rfl (by decide) (by decide) (Nat.le_of_ble_eq_true rfl) ?_
    refine pw_ifnb (tgt := 22) (tk tkX8_dropRule 9 rfl) (by decide) (fun c17 => ?_) (fun c17 => absurd c17 (by decide))
    refine pw_aload_n (tk tkX8_dropRule 12 rfl) rfl ?_
    refine pw_cV0 (ct_X8_record (xThr x 0) (aK (aOf x.2.1)) hx.1 hx.2.1) okX8_record (tk tkX8_dropRule 13 rfl) mkX8_100 imX8_record seX8_record (hp_ot _ 11) rfl rfl rfl (by decide) (by decide) (Nat.le_of_ble_eq_true rfl) ?_
    rw [xRec_eq x]
    obtain ⟨r1, hr, er, er2⟩ := inR_lt hu (by omega) c6
    have hs : sdropRule (aOf x.2.1) r = (0, rN (mS x.2.1) r1 8, (drS (mS x.2.1) u r1 l99, recH (aOf x.2.1) (mS x.2.1), (aOf x.2.1).2.2)) := (if_neg (ne_f c6)).trans (by rw [er2, ← show u = uN (aS (aOf x.2.1)) from eu, show aS (aOf x.2.1) 99 = nI l99 from el, nI_clamp (by omega)]; rfl)
    subst er
    exact main r1 hr hs
