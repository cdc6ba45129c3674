theorem adv_ge (b : Bool) (sp : Nat) : sp ≤ adv b sp := by unfold adv; split <;> omega
theorem numP_ge (T : Nat → Int32) (n : Nat) : ∀ (f : Nat) (v : Int32) (sp : Nat), sp ≤ (numP T n f v sp).2
  | 0, _, _ => Nat.le_refl _
  | f + 1, v, sp => by
    unfold numP
    split
    · exact Nat.le_refl _
    · split
      · exact Nat.le_refl _
      · split
        · exact Nat.le_trans (Nat.le_succ _) (numP_ge T n f _ _)
        · exact Nat.le_refl _
theorem nuP_ge (T : Nat → Int32) (n sp : Nat) (wr : Bool) : sp ≤ (nuP T n sp wr).2.1 := by
  unfold nuP
  dsimp only
  split
  · exact Nat.le_trans (Nat.le_succ _) (numP_ge T n n _ _)
  · exact Nat.le_refl _
theorem rdI_ok (T : Nat → Int32) (n : Nat) (line : Int32) (s2 : Nat) (w2 : Bool) (h : s2 ≤ n) : (rdI T n line s2 w2).2.1 ≤ n ∧ s2 ≤ (rdI T n line s2 w2).2.1 :=
  ⟨nuP_le (adv_le (nuP_le (adv_le (nuP_le (adv_le h))))), Nat.le_trans (adv_ge _ _) (Nat.le_trans (nuP_ge _ _ _ _) (Nat.le_trans (adv_ge _ _) (Nat.le_trans (nuP_ge _ _ _ _) (Nat.le_trans (adv_ge _ _) (nuP_ge _ _ _ _)))))⟩
theorem rdU_ok (T : Nat → Int32) (n : Nat) (line : Int32) (s2 : Nat) (w2 : Bool) (h : s2 ≤ n) : (rdU T n line s2 w2).2.1 ≤ n ∧ s2 ≤ (rdU T n line s2 w2).2.1 :=
  ⟨nuP_le (adv_le (adv_le (adv_le h))), Nat.le_trans (adv_ge _ _) (Nat.le_trans (adv_ge _ _) (Nat.le_trans (adv_ge _ _) (nuP_ge _ _ _ _)))⟩
theorem rdP_ok (T : Nat → Int32) {n sp : Nat} (h : sp ≤ n) : (rdP T n sp).2.1 ≤ n ∧ ((rdP T n sp).1 = false → sp < (rdP T n sp).2.1 ∧ ((rdP T n sp).2.2.1 = 105 ∨ (rdP T n sp).2.2.1 = 117 ∨ (rdP T n sp).2.2.1 = 114)) := by
  unfold rdP
  split
  · exact ⟨h, fun q => Bool.noConfusion q⟩
  · next q0 =>
    have hlt : sp + 1 ≤ n := by have : sp ≠ n := fun e => q0 (by rw [e]); omega
    have a1 := adv_le (T := T) (n := n) (lo := 48) (hi := 57) (wr := false) hlt
    have a2 := adv_ge (tkB T n 48 57 (sp + 1) false) (sp + 1)
    dsimp only
    split
    · have := rdI_ok T n (dgV T (tkB T n 48 57 (sp + 1) false) (sp + 1)) _ (false || !(tkB T n 48 57 (sp + 1) false)) a1
      exact ⟨this.1, fun _ => ⟨by omega, .inl rfl⟩⟩
    · split
      · have := rdU_ok T n (dgV T (tkB T n 48 57 (sp + 1) false) (sp + 1)) _ (false || !(tkB T n 48 57 (sp + 1) false)) a1
        exact ⟨this.1, fun _ => ⟨by omega, .inr (.inl rfl)⟩⟩
      · split
        · exact ⟨a1, fun _ => ⟨by show sp < adv _ _; omega, .inr (.inr rfl)⟩⟩
        · exact ⟨h, fun q => Bool.noConfusion q⟩
abbrev GT : Type := Bool × Nat × (Nat → Int32) × Int32
def rdD (u : Nat) (s : Nat → Int32) (R : RDT) : TT := doT u s R.2.2.1 R.2.2.2.1 R.2.2.2.2.1 R.2.2.2.2.2.1 R.2.2.2.2.2.2
theorem doT_117 (u : Nat) (s : Nat → Int32) (ln a b c c2 : Int32) : doT u s 117 ln a b c = doT u s 117 ln a b c2 := by
  unfold doT
  rw [if_neg (show ¬ (117 : Int32) = 105 by decide), if_neg (show ¬ (117 : Int32) = 105 by decide)]
theorem doT_114 (u : Nat) (s : Nat → Int32) (ln a b c a2 b2 c2 : Int32) : doT u s 114 ln a b c = doT u s 114 ln a2 b2 c2 := by
  unfold doT
  rw [if_neg (show ¬ (114 : Int32) = 105 by decide), if_neg (show ¬ (114 : Int32) = 105 by decide), if_pos (show (114 : Int32) = 114 from rfl), if_pos (show (114 : Int32) = 114 from rfl)]
/-- what comes behind a command -/
def goN (go : Nat → Bool → (Nat → Int32) → Int32 → GT) (T : Nat → Int32) (n : Nat) (R : RDT) (g2 : Bool) (s2 : Nat → Int32) (dn2 : Int32) : GT :=
  if (!R.1 && decide (R.2.1 < n)) = true then (if tkB T n 59 59 R.2.1 false = true then go (R.2.1 + 1) g2 s2 dn2 else (true, R.2.1, s2, dn2)) else (R.1, R.2.1, s2, dn2)
def goP (u : Nat) (T : Nat → Int32) (n : Nat) : Nat → Nat → Bool → (Nat → Int32) → Int32 → GT
  | 0, sp, _, s, dn => (true, sp, s, dn)
  | f + 1, sp, g, s, dn =>
    if (g && !(rdP T n sp).1) = true then
      (if decide ((rdD u s (rdP T n sp)).2.2.2 = 0) = true then goN (goP u T n f) T n (rdP T n sp) true (fin (rdD u s (rdP T n sp)) s) (dn + 1) else goN (goP u T n f) T n (rdP T n sp) false (fin (rdD u s (rdP T n sp)) s) (dn + 0))
    else goN (goP u T n f) T n (rdP T n sp) false s (dn + 0)
def GD (x y : XW) : Prop := y.1 = x.1 ∧ y.2.2 = x.2.2 ∧ mHi y.2.1 = mHi x.2.1 ∧ mSl y.2.1 = mSl x.2.1 ∧ mTx y.2.1 = mTx x.2.1 ∧ ∀ k, k < 10 → mF y.2.1 k = mF x.2.1 k
theorem GD.tr {x y z : XW} (h : GD x y) (g : GD y z) : GD x z := ⟨g.1.trans h.1, g.2.1.trans h.2.1, g.2.2.1.trans h.2.2.1, g.2.2.2.1.trans h.2.2.2.1, g.2.2.2.2.1.trans h.2.2.2.2.1, fun k hk => (g.2.2.2.2.2 k hk).trans (h.2.2.2.2.2 k hk)⟩
theorem FT.gd {x y : XW} (h : FT x y) : GD x y := ⟨h.1, h.2.1, h.2.2.2.2.1, h.2.2.2.2.2.1, h.2.2.2.2.2.2.1, fun k hk => h.2.2.2.2.2.2.2.2 k (by omega)⟩
theorem FD.gd {x y : XW} (h : FD x y) : GD x y := ⟨h.1, h.2.1, h.2.2.1, h.2.2.2.1, h.2.2.2.2.1, fun k hk => h.2.2.2.2.2 k (by omega) (by omega) (by omega) (by omega)⟩
theorem GD.sf {x y : XW} (h : GD x y) (k : Nat) (v : Int32) (hk : 10 ≤ k) : GD x (sF y k v) := ⟨h.1, h.2.1, h.2.2.1, h.2.2.2.1, h.2.2.2.2.1, fun j hj => (upd_nt _ _ (by omega)).trans (h.2.2.2.2.2 j hj)⟩
def gtQ (x : XW) (b : Bool) (R : GT) : Out → Hp → Prop := fun o h2 => o = .inl none ∧ ∃ y, h2 = hp y ∧ GD x y ∧ mF y.2.1 14 = nI R.2.1 ∧ mF y.2.1 15 = bI R.1 ∧ mF y.2.1 21 = R.2.2.2 ∧ E132 (mS y.2.1) R.2.2.1 ∧ (b = false → mS y.2.1 = mS x.2.1)
set_option maxRecDepth 100000 in
set_option maxHeartbeats 4000000 in
theorem ct_X8_goesThrough (x : XW) (u n : Nat) (b : Bool) (hv : VS u (mS x.2.1)) (h8 : mF x.2.1 8 = nI n) (hn : n ≤ 80) : CT MX8_goesThrough 8 0 [.ref 171, .int (bI b)] (hp x) (gtQ x b (goP u (mTx x.2.1) n (n + 1) 0 b (mS x.2.1) 0)) := by
  refine ct_of (by decide +kernel) (by decide) rfl (k := 3) (ls := [some (.ref 171), some (.int (bI b)), none, none, none]) rfl (Nat.le_of_ble_eq_true rfl) ?_
  have EX : ∀ (y : XW) (R : GT) (l2 l4 : Option Value), GD x y → mF y.2.1 14 = nI R.2.1 → mF y.2.1 15 = bI R.1 → mF y.2.1 21 = R.2.2.2 → E132 (mS y.2.1) R.2.2.1 → (b = false → mS y.2.1 = mS x.2.1) → PW MX8_goesThrough 8 0 19 [some (.ref 171), some (.int (bI b)), l2, some (.int 0), l4] [] (hp y) (gtQ x b R) := by
    intro y R l2 l4 a b1 c d e e2
    refine pw_iload_n (tk tkX8_goesThrough 13 rfl) rfl ?_
    refine pw_if_eq (tgt := 123) (tk tkX8_goesThrough 14 rfl) (by decide) (fun c20 => ?_) (fun c20 => absurd rfl c20)
    exact pw_return (tk tkX8_goesThrough 66 rfl) rfl (by decide) ⟨rfl, y, rfl, a, b1, c, d, e, e2⟩
  have LP : ∀ f sp g s dn (y : XW) (l4 : Option Value), n < f + sp → sp ≤ n → GD x y → (g = true → mS y.2.1 = s) → E132 (mS y.2.1) s → VS u s → mF y.2.1 14 = nI sp → mF y.2.1 15 = bI false → mF y.2.1 21 = dn → (b = false → g = false) → (b = false → mS y.2.1 = mS x.2.1) → PW MX8_goesThrough 8 0 19 [some (.ref 171), some (.int (bI b)), some (.int (bI g)), some (.int 1), l4] [] (hp y) (gtQ x b (goP u (mTx x.2.1) n f sp g s dn)) := by
    intro f
    induction f with
    | zero => intro sp g s dn y l4 hf hs; omega
    | succ f ih =>
      intro sp g s dn y l4 hf hs hg hgs he hvs h14 h15 h21 hb2 hx2
      obtain ⟨rle, rlt⟩ := rdP_ok (mTx x.2.1) hs
      obtain ⟨R, hR⟩ : ∃ R, R = rdP (mTx x.2.1) n sp := ⟨_, rfl⟩
      rw [← hR] at rle rlt
      have J50 : ∀ (z : XW) (g2 : Bool) (s2 : Nat → Int32) (l2 : Option Value) (G : GT), GD x z → mF z.2.1 14 = nI R.2.1 → mF z.2.1 15 = bI R.1 → mF z.2.1 21 = dn → (g2 = true → mS z.2.1 = s2) → E132 (mS z.2.1) s2 → VS u s2 → G = goN (goP u (mTx x.2.1) n f) (mTx x.2.1) n R g2 s2 (dn + bI g2) → (b = false → g2 = false) → (b = false → mS z.2.1 = mS x.2.1) → PW MX8_goesThrough 8 0 50 [some (.ref 171), some (.int (bI b)), l2, some (.int 1), l4] [.int (bI g2)] (hp z) (gtQ x b G) := by
        intro z g2 s2 l2 G k1 k14 k15 k21 kg ke kv kG kb kx
        have k8 : mF z.2.1 8 = nI n := (k1.2.2.2.2.2 8 (by omega)).trans h8
        have kT : mTx z.2.1 = (mTx x.2.1) := k1.2.2.2.2.1
        have J69 : PW MX8_goesThrough 8 0 69 [some (.ref 171), some (.int (bI b)), some (.int (bI g2)), some (.int 1), l4] [] (hp (sF z 21 (dn + bI g2))) (gtQ x b G) := by
          refine pw_aload_n (tk tkX8_goesThrough 39 rfl) rfl ?_
          refine g8_isWrong (tk tkX8_goesThrough 40 rfl) fkX8_144 ?_
          rw [show mF (sF z 21 (dn + bI g2)).2.1 15 = bI R.1 from k15]
          refine pw_ifnb (tgt := 91) (tk tkX8_goesThrough 41 rfl) (by decide) (fun c73 => ?_) (fun c73 => ?_)
          · refine pw_iconst (v := 0) (tk tkX8_goesThrough 49 rfl) (by decide) ?_
            refine pw_ist3 (tk tkX8_goesThrough 50 rfl) rfl (by decide) ?_
            refine pw_iload_n (tk tkX8_goesThrough 51 rfl) rfl ?_
            refine pw_if_eq (tgt := 19) (tk tkX8_goesThrough 52 rfl) (by decide) (fun c94 => ?_) (fun c94 => c94 (by decide) |>.elim)
            have eG : goN (goP u (mTx x.2.1) n f) (mTx x.2.1) n R g2 s2 (dn + bI g2) = (R.1, R.2.1, s2, dn + bI g2) := if_neg (by rw [c73, Bool.not_true, Bool.false_and]; decide)
            rw [kG, eG]
            exact EX _ _ _ _ (k1.sf 21 _ (by omega)) k14 k15 rfl ke kx
          · refine pw_aload_n (tk tkX8_goesThrough 42 rfl) rfl ?_
            refine g8_spot (tk tkX8_goesThrough 43 rfl) fkX8_148 ?_
            refine pw_aload_n (tk tkX8_goesThrough 44 rfl) rfl ?_
            refine g8_length (tk tkX8_goesThrough 45 rfl) fkX8_141 ?_
            rw [show mF (sF z 21 (dn + bI g2)).2.1 14 = nI R.2.1 from k14, show mF (sF z 21 (dn + bI g2)).2.1 8 = nI n from k8]
            refine pw_icmp_ge (tgt := 91) (tk tkX8_goesThrough 46 rfl) (by decide) (fun c84 => ?_) (fun c84 => ?_)
            · refine pw_iconst (v := 0) (tk tkX8_goesThrough 49 rfl) (by decide) ?_
              refine pw_ist3 (tk tkX8_goesThrough 50 rfl) rfl (by decide) ?_
              refine pw_iload_n (tk tkX8_goesThrough 51 rfl) rfl ?_
              refine pw_if_eq (tgt := 19) (tk tkX8_goesThrough 52 rfl) (by decide) (fun c94 => ?_) (fun c94 => c94 (by decide) |>.elim)
              have eG : goN (goP u (mTx x.2.1) n f) (mTx x.2.1) n R g2 s2 (dn + bI g2) = (R.1, R.2.1, s2, dn + bI g2) := if_neg (by rw [decide_eq_false (Nat.not_lt.mpr ((nI_leI (by omega) (by omega)).mp c84)), Bool.and_false]; decide)
              rw [kG, eG]
              exact EX _ _ _ _ (k1.sf 21 _ (by omega)) k14 k15 rfl ke kx
            · refine pw_iconst (v := 1) (tk tkX8_goesThrough 47 rfl) (by decide) ?_
              refine pw_goto (tgt := 92) (tk tkX8_goesThrough 48 rfl) (by decide) ?_
              refine pw_ist3 (tk tkX8_goesThrough 50 rfl) rfl (by decide) ?_
              refine pw_iload_n (tk tkX8_goesThrough 51 rfl) rfl ?_
              refine pw_if_eq (tgt := 19) (tk tkX8_goesThrough 52 rfl) (by decide) (fun c94 => absurd c94 (by decide)) (fun c94 => ?_)
              refine pw_aload_n (tk tkX8_goesThrough 53 rfl) rfl ?_
              refine pw_bipush (v := 59) (tk tkX8_goesThrough 54 rfl) (by decide) ?_
              refine pw_bipush (v := 59) (tk tkX8_goesThrough 55 rfl) (by decide) ?_
              have hlt : R.2.1 < n := Nat.lt_of_not_le (fun q => c84 (nI_le q (by omega)))
              have ect := ct_X8_takes (sF z 21 (dn + bI g2)) n R.2.1 false 59 59 k14 (by rw [← c73]; exact k15) k8 hn rle
              rw [show mTx (sF z 21 (dn + bI g2)).2.1 = (mTx x.2.1) from kT] at ect
              obtain ⟨tb, etb⟩ : ∃ tb, tb = tkB (mTx x.2.1) n 59 59 R.2.1 false := ⟨_, rfl⟩
              rw [← etb] at ect
              refine pw_cV ect okX8_takes (tk tkX8_goesThrough 56 rfl) mkX8_151 imX8_takes seX8_takes (hp_ot _ 11) rfl rfl rfl (by decide) (by decide) (Nat.le_of_ble_eq_true rfl) ?_
              refine pw_ist4 (tk tkX8_goesThrough 57 rfl) rfl (by decide) ?_
              refine pw_aload_n (tk tkX8_goesThrough 58 rfl) rfl ?_
              refine g8_isWrong (tk tkX8_goesThrough 59 rfl) fkX8_144 ?_
              rw [show mF (pW (sF z 21 (dn + bI g2)) (adv tb R.2.1) (false || !tb)).2.1 15 = bI (false || !tb) from rfl]
              refine pw_ifnb (tgt := 118) (tk tkX8_goesThrough 60 rfl) (by decide) (fun c111 => ?_) (fun c111 => ?_)
              · refine pw_iconst (v := 0) (tk tkX8_goesThrough 63 rfl) (by decide) ?_
                refine pw_ist3 (tk tkX8_goesThrough 64 rfl) rfl (by decide) ?_
                refine pw_goto (tgt := 19) (tk tkX8_goesThrough 65 rfl) (by decide) ?_
                cases tb with
                | true => exact Bool.noConfusion c111
                | false =>
                  have eG : goN (goP u (mTx x.2.1) n f) (mTx x.2.1) n R g2 s2 (dn + bI g2) = (true, R.2.1, s2, dn + bI g2) := (if_pos (by rw [c73, decide_eq_true hlt]; rfl)).trans (if_neg (by rw [← etb]; decide))
                  rw [kG, eG]
                  exact EX _ _ _ _ ⟨k1.1, k1.2.1, k1.2.2.1, k1.2.2.2.1, k1.2.2.2.2.1, fun k hk => (upd_nt _ _ (by omega)).trans ((upd_nt _ _ (by omega)).trans ((upd_nt _ _ (by omega)).trans (k1.2.2.2.2.2 k hk)))⟩ rfl rfl rfl ke kx
              · refine pw_iconst (v := 1) (tk tkX8_goesThrough 61 rfl) (by decide) ?_
                refine pw_goto (tgt := 119) (tk tkX8_goesThrough 62 rfl) (by decide) ?_
                refine pw_ist3 (tk tkX8_goesThrough 64 rfl) rfl (by decide) ?_
                refine pw_goto (tgt := 19) (tk tkX8_goesThrough 65 rfl) (by decide) ?_
                cases tb with
                | false => exact Bool.noConfusion c111
                | true =>
                  have eG : goN (goP u (mTx x.2.1) n f) (mTx x.2.1) n R g2 s2 (dn + bI g2) = goP u (mTx x.2.1) n f (R.2.1 + 1) g2 s2 (dn + bI g2) := (if_pos (by rw [c73, decide_eq_true hlt]; rfl)).trans (if_pos etb.symm)
                  rw [kG, eG]
                  have hsp := (rlt c73).1
                  exact ih (R.2.1 + 1) g2 s2 _ _ _ (by omega) hlt ⟨k1.1, k1.2.1, k1.2.2.1, k1.2.2.2.1, k1.2.2.2.2.1, fun k hk => (upd_nt _ _ (by omega)).trans ((upd_nt _ _ (by omega)).trans ((upd_nt _ _ (by omega)).trans (k1.2.2.2.2.2 k hk)))⟩ kg ke kv rfl rfl rfl kb kx
        refine pw_ist2 (tk tkX8_goesThrough 28 rfl) rfl (by decide) ?_
        refine pw_aload_n (tk tkX8_goesThrough 29 rfl) rfl ?_
        refine pw_dup (tk tkX8_goesThrough 30 rfl) rfl ?_
        refine g8_done (tk tkX8_goesThrough 31 rfl) fkX8_172 ?_
        refine pw_iload_n (tk tkX8_goesThrough 32 rfl) rfl ?_
        refine pw_ifb (tgt := 64) (tk tkX8_goesThrough 33 rfl) (by decide) (fun c57 => ?_) (fun c57 => ?_)
        · refine pw_iconst (v := 0) (tk tkX8_goesThrough 36 rfl) (by decide) ?_
          refine pw_iadd (tk tkX8_goesThrough 37 rfl) ?_
          rw [k21]
          refine p8_done (tk tkX8_goesThrough 38 rfl) fkX8_172 ?_
          subst c57
          exact J69
        · refine pw_iconst (v := 1) (tk tkX8_goesThrough 34 rfl) (by decide) ?_
          refine pw_goto (tgt := 65) (tk tkX8_goesThrough 35 rfl) (by decide) ?_
          refine pw_iadd (tk tkX8_goesThrough 37 rfl) ?_
          rw [k21]
          refine p8_done (tk tkX8_goesThrough 38 rfl) fkX8_172 ?_
          subst c57
          exact J69
      have gR : goP u (mTx x.2.1) n (f + 1) sp g s dn = if (g && !R.1) = true then (if decide ((rdD u s R).2.2.2 = 0) = true then goN (goP u (mTx x.2.1) n f) (mTx x.2.1) n R true (fin (rdD u s R) s) (dn + 1) else goN (goP u (mTx x.2.1) n f) (mTx x.2.1) n R false (fin (rdD u s R) s) (dn + 0)) else goN (goP u (mTx x.2.1) n f) (mTx x.2.1) n R false s (dn + 0) := by rw [hR]; rfl
      have e8 : mF y.2.1 8 = nI n := (hg.2.2.2.2.2 8 (by omega)).trans h8
      have erd := ct_X8_readCommand y n sp h14 h15 e8 hn hs
      rw [show mTx y.2.1 = (mTx x.2.1) from hg.2.2.2.2.1, ← hR] at erd
      refine pw_iload_n (tk tkX8_goesThrough 13 rfl) rfl ?_
      refine pw_if_eq (tgt := 123) (tk tkX8_goesThrough 14 rfl) (by decide) (fun c20 => absurd c20 (by decide)) (fun c20 => ?_)
      refine pw_aload_n (tk tkX8_goesThrough 15 rfl) rfl ?_
      refine pw_callV erd okX8_readCommand (tk tkX8_goesThrough 16 rfl) mkX8_175 imX8_readCommand seX8_readCommand (hp_ot _ 11) rfl rfl rfl (by decide) (by decide) (Nat.le_of_ble_eq_true rfl) (fun r h2 q => ?_) (fun E h2 q => by cases q.1)
      obtain ⟨ho, z, rfl, ft, z14, z15, zr, zi, zu⟩ := q
      cases ho
      refine pw_iload_n (tk tkX8_goesThrough 17 rfl) rfl ?_
      refine pw_ifb (tgt := 49) (tk tkX8_goesThrough 18 rfl) (by decide) (fun c28 => ?_) (fun c28 => ?_)
      · refine pw_iconst (v := 0) (tk tkX8_goesThrough 27 rfl) (by decide) ?_
        exact J50 z false s _ _ (hg.tr ft.gd) z14 z15 ((ft.2.2.2.2.2.2.2.2 21 (by omega)).trans h21) (fun q => Bool.noConfusion q) (by rw [ft.2.2.1]; exact he) hvs (gR.trans (if_neg (by rw [c28, Bool.false_and]; decide))) (fun _ => rfl) (fun q => ft.2.2.1.trans (hx2 q))
      · refine pw_aload_n (tk tkX8_goesThrough 19 rfl) rfl ?_
        refine g8_isWrong (tk tkX8_goesThrough 20 rfl) fkX8_144 ?_
        rw [z15]
        refine pw_ifnb (tgt := 49) (tk tkX8_goesThrough 21 rfl) (by decide) (fun c35 => ?_) (fun c35 => ?_)
        · refine pw_iconst (v := 0) (tk tkX8_goesThrough 27 rfl) (by decide) ?_
          exact J50 z false s _ _ (hg.tr ft.gd) z14 z15 ((ft.2.2.2.2.2.2.2.2 21 (by omega)).trans h21) (fun q => Bool.noConfusion q) (by rw [ft.2.2.1]; exact he) hvs (gR.trans (if_neg (by rw [c35, Bool.not_true, Bool.and_false]; decide))) (fun _ => rfl) (fun q => ft.2.2.1.trans (hx2 q))
        · refine pw_aload_n (tk tkX8_goesThrough 22 rfl) rfl ?_
          refine pw_callV (ct_X8_does z u (by rw [ft.2.2.1, hgs c28]; exact hvs)) okX8_does (tk tkX8_goesThrough 23 rfl) mkX8_178 imX8_does seX8_does (hp_ot _ 11) rfl rfl rfl (by decide) (by decide) (Nat.le_of_ble_eq_true rfl) (fun r h2 q => ?_) (fun E h2 q => by obtain ⟨y2, e1, e2, e3, ho⟩ := q; cases ho)
          obtain ⟨y2, rfl, fd, es, ho⟩ := q
          cases ho
          have ems : mS z.2.1 = s := ft.2.2.1.trans (hgs c28)
          have eD : doT u (mS z.2.1) (mF z.2.1 16) (mF z.2.1 17) (mF z.2.1 18) (mF z.2.1 19) (mF z.2.1 20) = rdD u s R := by
            rw [ems, (zr c35).1, (zr c35).2]
            unfold rdD
            rcases (rlt c35).2 with w | w | w
            · obtain ⟨w1, w2, w3⟩ := zi c35 w
              rw [w1, w2, w3]
            · obtain ⟨w1, w2⟩ := zu c35 w
              rw [w1, w2, w]; exact doT_117 _ _ _ _ _ _ _
            · rw [w]; exact doT_114 _ _ _ _ _ _ _ _ _
          rw [eD, ems] at es
          rw [eD]
          have f14 : mF y2.2.1 14 = nI R.2.1 := (fd.2.2.2.2.2 14 (by omega) (by omega) (by omega) (by omega)).trans z14
          have f15 : mF y2.2.1 15 = bI R.1 := (fd.2.2.2.2.2 15 (by omega) (by omega) (by omega) (by omega)).trans z15
          have f21 : mF y2.2.1 21 = dn := (fd.2.2.2.2.2 21 (by omega) (by omega) (by omega) (by omega)).trans ((ft.2.2.2.2.2.2.2.2 21 (by omega)).trans h21)
          have fv : VS u (fin (rdD u s R) s) := fin_VS hvs (doT_VS hvs _ _ _ _ _)
          have c2 : (g && !R.1) = true := by rw [c28, c35]; rfl
          refine pw_ifb (tgt := 49) (tk tkX8_goesThrough 24 rfl) (by decide) (fun c42 => ?_) (fun c42 => ?_)
          · refine pw_iconst (v := 0) (tk tkX8_goesThrough 27 rfl) (by decide) ?_
            exact J50 y2 false (fin (rdD u s R) s) _ _ ((hg.tr ft.gd).tr fd.gd) f14 f15 f21 (fun q => Bool.noConfusion q) es.1 fv (gR.trans ((if_pos c2).trans (if_neg (by rw [c42]; decide)))) (fun _ => rfl) (fun q => Bool.noConfusion ((hb2 q).symm.trans c28))
          · refine pw_iconst (v := 1) (tk tkX8_goesThrough 25 rfl) (by decide) ?_
            refine pw_goto (tgt := 50) (tk tkX8_goesThrough 26 rfl) (by decide) ?_
            exact J50 y2 true (fin (rdD u s R) s) _ _ ((hg.tr ft.gd).tr fd.gd) f14 f15 f21 (fun _ => es.2 (of_decide_eq_true c42)) es.1 fv (gR.trans ((if_pos c2).trans (if_pos c42))) (fun q => Bool.noConfusion ((hb2 q).symm.trans c28)) (fun q => Bool.noConfusion ((hb2 q).symm.trans c28))
  refine pw_aload_n (tk tkX8_goesThrough 0 rfl) rfl ?_
  refine pw_iconst (v := 0) (tk tkX8_goesThrough 1 rfl) (by decide) ?_
  refine p8_spot (tk tkX8_goesThrough 2 rfl) fkX8_148 ?_
  refine pw_aload_n (tk tkX8_goesThrough 3 rfl) rfl ?_
  refine pw_iconst (v := 0) (tk tkX8_goesThrough 4 rfl) (by decide) ?_
  refine p8_isWrong (tk tkX8_goesThrough 5 rfl) fkX8_144 ⟨rfl, rfl⟩ ?_
  refine pw_aload_n (tk tkX8_goesThrough 6 rfl) rfl ?_
  refine pw_iconst (v := 0) (tk tkX8_goesThrough 7 rfl) (by decide) ?_
  refine p8_done (tk tkX8_goesThrough 8 rfl) fkX8_172 ?_
  refine pw_iload_n (tk tkX8_goesThrough 9 rfl) rfl ?_
  refine pw_ist2 (tk tkX8_goesThrough 10 rfl) rfl (by decide) ?_
  refine pw_iconst (v := 1) (tk tkX8_goesThrough 11 rfl) (by decide) ?_
  refine pw_ist3 (tk tkX8_goesThrough 12 rfl) rfl (by decide) ?_
  exact LP (n + 1) 0 b (mS x.2.1) 0 (sF (sF (sF x 14 0) 15 0) 21 0) _ (by omega) (by omega) (⟨rfl, rfl, rfl, rfl, rfl, fun k hk => (upd_nt _ _ (by omega)).trans ((upd_nt _ _ (by omega)).trans (upd_nt _ _ (by omega)))⟩) (fun _ => rfl) (fun _ _ => rfl) hv rfl rfl rfl (fun q => q) (fun _ => rfl)
