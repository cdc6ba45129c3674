theorem l_of {x : Int64} {m : Nat} (h : x.toBitVec.toNat = m) : x = lN m := by
  refine Int64.toBitVec_inj.mp (BitVec.eq_of_toNat_eq ?_)
  rw [h]
  show m = (BitVec.ofNat 64 m).toNat
  rw [BitVec.toNat_ofNat, Nat.mod_eq_of_lt (by rw [← h]; exact x.toBitVec.isLt)]
theorem ush_n (x : Int64) (S : UInt64) {k : Nat} (hS : S.toBitVec.toNat % 64 = k) : (x.toUInt64 >>> S).toInt64.toBitVec.toNat = x.toBitVec.toNat / 2 ^ k := by
  show (x.toBitVec >>> (S.toBitVec % 64)).toNat = _
  rw [BitVec.ushiftRight_eq', BitVec.toNat_ushiftRight, BitVec.toNat_umod, Nat.shiftRight_eq_div_pow]
  rw [show S.toBitVec.toNat % (64 : BitVec 64).toNat = k from hS]
theorem and255 (z : Int64) : (z &&& 255).toBitVec.toNat = z.toBitVec.toNat % 256 := by
  rw [Int64.toBitVec_and, BitVec.toNat_and]
  exact Nat.and_two_pow_sub_one_eq_mod _ 8
theorem c255 : ∀ i : Fin 64, (255#64).getLsbD i.val = decide (i.val < 8) := by decide +kernel
theorem ssh_n (x s : Int64) {k : Nat} (hS : (s.toBitVec.smod 64).toNat = k) (hk : k ≤ 56) : ((x >>> s) &&& 255).toBitVec.toNat = x.toBitVec.toNat / 2 ^ k % 256 := by
  have e : ((x >>> s) &&& 255).toBitVec = (x.toBitVec >>> k) &&& 255#64 := by
    rw [Int64.toBitVec_and, Int64.toBitVec_shiftRight]
    show x.toBitVec.sshiftRight (s.toBitVec.smod 64).toNat &&& 255#64 = _
    rw [hS]
    refine BitVec.eq_of_getLsbD_eq fun i hi => ?_
    rw [BitVec.getLsbD_and, BitVec.getLsbD_and, BitVec.getLsbD_sshiftRight, BitVec.getLsbD_ushiftRight, c255 ⟨i, hi⟩]
    by_cases h : i < 8
    · rw [if_pos (by omega), decide_eq_false (show ¬ 64 ≤ i by omega)]; rfl
    · rw [decide_eq_false h, Bool.and_false, Bool.and_false]
  rw [e, BitVec.toNat_and, BitVec.toNat_ushiftRight, Nat.shiftRight_eq_div_pow]
  exact Nat.and_two_pow_sub_one_eq_mod _ 8
/-- the byte k -/
def cb (v k : Nat) : Nat := v / 256 ^ k % 256
theorem cb_lt (v k : Nat) : cb v k < 256 := Nat.mod_lt _ (by decide)
theorem p256 (k : Nat) : 2 ^ (8 * k) = 256 ^ k := by rw [Nat.pow_mul]
theorem sh_a : ∀ k : Fin 8, ((nI k.val * 8).toInt64.toUInt64 &&& Int64.toUInt64 63).toBitVec.toNat % 64 = 8 * k.val := by decide +kernel
theorem sh_b : ∀ k : Fin 8, (((8 * nI k.val).toInt64 &&& 63).toBitVec.smod 64).toNat = 8 * k.val := by decide +kernel
theorem code_a (x : Int64) {k : Nat} (hk : k < 8) : ((x.toUInt64 >>> ((nI k * 8).toInt64.toUInt64 &&& Int64.toUInt64 63)).toInt64 &&& 255).toInt32 = nI (cb x.toBitVec.toNat k) := by
  have e : ((x.toUInt64 >>> ((nI k * 8).toInt64.toUInt64 &&& Int64.toUInt64 63)).toInt64 &&& 255) = lN (cb x.toBitVec.toNat k) := l_of (by rw [and255, ush_n x _ (sh_a ⟨k, hk⟩), p256]; rfl)
  rw [e, lN_i]
theorem code_b (x : Int64) {k : Nat} (hk : k < 8) : ((x >>> ((8 * nI k).toInt64 &&& 63)) &&& 255).toInt32 = nI (cb x.toBitVec.toNat k) := by
  have e : ((x >>> ((8 * nI k).toInt64 &&& 63)) &&& 255) = lN (cb x.toBitVec.toNat k) := l_of (by rw [ssh_n x _ (sh_b ⟨k, hk⟩) (by show 8 * k ≤ 56; omega), p256]; rfl)
  rw [e, lN_i]
theorem code_0 (x : Int64) : (x &&& 255).toInt32 = nI (x.toBitVec.toNat % 256) := by rw [l_of (and255 x), lN_i]
theorem ush_8 (x : Int64) : (x.toUInt64 >>> ((8 : Int32).toInt64.toUInt64 &&& Int64.toUInt64 63)).toInt64.toBitVec.toNat = x.toBitVec.toNat / 256 := ush_n (k := 8) x ((8 : Int32).toInt64.toUInt64 &&& Int64.toUInt64 63) (by decide)
theorem lz (x : Int64) : lg_cmp x 0 = 0 ↔ x.toBitVec.toNat = 0 := by
  rw [lg_cmp_eq]
  constructor
  · intro h; rw [h]; rfl
  · intro h; exact (l_of h).trans rfl
def mnF : Nat → Nat → Nat
  | 0, _ => 0
  | f + 1, v => if v = 0 then 0 else mnF f (v / 256) + 1
def gdF : Nat → Nat → Bool
  | 0, _ => true
  | f + 1, v => if v = 0 then true else (decide (33 ≤ v % 256 ∧ v % 256 ≤ 126) && gdF f (v / 256))
theorem mnF_0 : ∀ f, mnF f 0 = 0
  | 0 => rfl
  | _ + 1 => rfl
theorem gdF_0 : ∀ f, gdF f 0 = true
  | 0 => rfl
  | _ + 1 => rfl
theorem mnF_le : ∀ f v, mnF f v ≤ f
  | 0, _ => Nat.le_refl _
  | f + 1, v => by have := mnF_le f (v / 256); unfold mnF; split <;> omega
theorem in_dec {b : Nat} (h : b < 256) : inR (nI b) 33 126 = decide (33 ≤ b ∧ b ≤ 126) := by
  unfold inR
  have e1 : (nI b < 33) ↔ b < 33 := nI_ltI (b := 33) (by omega) (by decide)
  have e2 : ((126 : Int32) < nI b) ↔ 126 < b := nI_ltI (a := 126) (by decide) (by omega)
  by_cases h1 : b < 33
  · rw [decide_eq_false (show ¬ ¬ nI b < 33 from fun q => q (e1.mpr h1)), decide_eq_false (show ¬ (33 ≤ b ∧ b ≤ 126) by omega)]; rfl
  · by_cases h2 : 126 < b
    · rw [decide_eq_false (show ¬ ¬ (126 : Int32) < nI b from fun q => q (e2.mpr h2)), Bool.and_false, decide_eq_false (show ¬ (33 ≤ b ∧ b ≤ 126) by omega)]
    · rw [decide_eq_true (show ¬ nI b < 33 from fun q => h1 (e1.mp q)), decide_eq_true (show ¬ (126 : Int32) < nI b from fun q => h2 (e2.mp q)), decide_eq_true (show 33 ≤ b ∧ b ≤ 126 by omega)]; rfl
def apT (T : Nat → Int32) (n M v t : Nat) : Nat → Int32 := fun i => if n ≤ i ∧ i < n + t then nI (cb v (M - 1 - (i - n))) else T i
theorem apT_0 (T : Nat → Int32) (n M v : Nat) : apT T n M v 0 = T := by funext i; unfold apT; rw [if_neg (by omega)]
theorem apT_s (T : Nat → Int32) (n M v t : Nat) : upd (apT T n M v t) (n + t) (nI (cb v (M - 1 - t))) = apT T n M v (t + 1) := by
  funext i
  unfold upd apT
  by_cases h : i = n + t
  · rw [if_pos h, if_pos (by omega), show i - n = t by omega]
  · rw [if_neg h]
    by_cases g : n ≤ i ∧ i < n + t
    · rw [if_pos g, if_pos (by omega)]
    · rw [if_neg g, if_neg (by omega)]
def sappendText (a : AM) (x : Int64) : RS3 := if mnF 8 x.toBitVec.toNat = 0 then (1, 0, a) else if gdF 8 x.toBitVec.toNat = false then (1, 0, a) else if 80 < aN a + mnF 8 x.toBitVec.toNat then (2, 0, a) else (0, nI (aN a + mnF 8 x.toBitVec.toNat), (aS a, a.2.1, a.2.2.1, (aN a + mnF 8 x.toBitVec.toNat, apT (aT a) (aN a) (mnF 8 x.toBitVec.toNat) x.toBitVec.toNat (mnF 8 x.toBitVec.toNat))))
/-- all but the text and thrown -/
def FAp (x y : XW) : Prop := y.1 = x.1 ∧ y.2.2 = x.2.2 ∧ mS y.2.1 = mS x.2.1 ∧ mHi y.2.1 = mHi x.2.1 ∧ mSl y.2.1 = mSl x.2.1 ∧ mF y.2.1 0 = 0 ∧ mF y.2.1 4 = mF x.2.1 4 ∧ mF y.2.1 6 = mF x.2.1 6
theorem FAp.go {x y : XW} (h : FAp x y) (f : Nat → Int32) (v : Int32) : FAp x (uM7 (uM5 y f) (upd (mF y.2.1) 8 v)) := h
set_option maxRecDepth 100000 in
set_option maxHeartbeats 4000000 in
theorem ct_X8_appendText (x : XW) (hx : VM x.2.1) (c : Int64) : CT MX8_appendText 3 0 [.ref 171, .long c] (hp x) (MOQ x (sappendText (aOf x.2.1) c)) := by
  refine ct_of (by decide +kernel) (by decide) rfl (k := 4) (ls := [some (.ref 171), some (.long c), none, none, none, none, none]) rfl (Nat.le_of_ble_eq_true rfl) ?_
  obtain ⟨hu, hu8⟩ := hx.u
  obtain ⟨l99, hl, el⟩ := hx.l
  have hv : VS (uN (mS x.2.1)) (mS x.2.1) := hx.2.2.2.2.2
  obtain ⟨v, ev⟩ : ∃ v, v = c.toBitVec.toNat := ⟨_, rfl⟩
  obtain ⟨M, eM⟩ : ∃ M, M = mnF 8 v := ⟨_, rfl⟩
  obtain ⟨G, eG⟩ : ∃ G, G = gdF 8 v := ⟨_, rfl⟩
  obtain ⟨n, en⟩ : ∃ n, n = aN (aOf x.2.1) := ⟨_, rfl⟩
  have h8 : mF x.2.1 8 = nI n := by rw [en]; exact hx.2.2.1
  have hn80 : n ≤ 80 := by rw [en]; exact hx.2.2.2.1
  have hM8 : M ≤ 8 := by rw [eM]; exact mnF_le 8 v
  have eS : sappendText (aOf x.2.1) c = if M = 0 then (1, 0, aOf x.2.1) else if G = false then (1, 0, aOf x.2.1) else if 80 < n + M then (2, 0, aOf x.2.1) else (0, nI (n + M), (mS x.2.1, (aOf x.2.1).2.1, (aOf x.2.1).2.2.1, (n + M, apT (mTx x.2.1) n M v M))) := by
    rw [eM, eG, ev, en]; rfl
  rw [eS]
  have E : ¬ M = 0 → ¬ G = false → ¬ 80 < n + M → ∀ (y : XW) (b6 : Option Value), FAp x y → mF y.2.1 8 = nI (n + M) → mTx y.2.1 = apT (mTx x.2.1) n M v M → PW MX8_appendText 3 0 100 [some (.ref 171), some (.long c), none, some (.int (nI M)), some (.int (bI G)), some (.int (-1)), b6] [] (hp y) (MOQ x (if M = 0 then (1, 0, aOf x.2.1) else if G = false then (1, 0, aOf x.2.1) else if 80 < n + M then (2, 0, aOf x.2.1) else (0, nI (n + M), (mS x.2.1, (aOf x.2.1).2.1, (aOf x.2.1).2.2.1, (n + M, apT (mTx x.2.1) n M v M))) : RS3)) := by
    intro m0 g0 l0 y b6 fy y8 yT
    rw [if_neg m0, if_neg g0, if_neg l0]
    refine pw_iload (tk tkX8_appendText 54 rfl) rfl ?_
    refine pw_if_lt (tgt := 142) (tk tkX8_appendText 55 rfl) (by decide) (fun c102 => ?_) (fun c102 => absurd (show (-1 : Int32) < 0 by decide) c102)
    refine pw_aload_n (tk tkX8_appendText 77 rfl) rfl ?_
    refine g8_length (tk tkX8_appendText 78 rfl) fkX8_141 ?_
    refine pw_ireturn (tk tkX8_appendText 79 rfl) rfl (by decide) rfl ?_
    obtain ⟨f1, f2, f3, f4, f5, f6, f7, f9⟩ := fy
    have e8 : aN (aOf y.2.1) = n + M := by show (mF y.2.1 8).toNatClampNeg = _; rw [y8, nI_clamp (by omega)]
    have e4 : aK (aOf y.2.1) = aK (aOf x.2.1) := congrArg Int32.toNatClampNeg f7
    refine ⟨y, rfl, f1, f2, f6, by rw [y8], ⟨by rw [f7, e4]; exact hx.1, by rw [e4]; exact hx.2.1, by rw [y8, e8], by rw [e8]; omega, by rw [f9]; exact hx.2.2.2.2.1, by rw [f3]; exact hv⟩, (fun j _ => congrFun f3.symm j), e4.symm, ?_, ?_, ?_, e8.symm, ?_⟩
    · intro i hi j hj; show mHi x.2.1 _ = mHi y.2.1 _; rw [f4]
    · intro i hi; show decide ((mF x.2.1 6 >>> (nI i &&& 31)) &&& 1 = 1) = decide ((mF y.2.1 6 >>> (nI i &&& 31)) &&& 1 = 1); rw [f9]
    · intro i hi hb j hj; show mSl x.2.1 _ = mSl y.2.1 _; rw [f5]
    · intro i hi; show apT (mTx x.2.1) n M v M i = mTx y.2.1 i; rw [yT]
  have L2 : ¬ M = 0 → ¬ G = false → ¬ 80 < n + M → ∀ (k t : Nat) (y : XW) (b6 : Option Value), t + (k + 1) = M → FAp x y → mF y.2.1 8 = nI (n + t) → mTx y.2.1 = apT (mTx x.2.1) n M v t → PW MX8_appendText 3 0 100 [some (.ref 171), some (.long c), none, some (.int (nI M)), some (.int (bI G)), some (.int (nI k)), b6] [] (hp y) (MOQ x (if M = 0 then (1, 0, aOf x.2.1) else if G = false then (1, 0, aOf x.2.1) else if 80 < n + M then (2, 0, aOf x.2.1) else (0, nI (n + M), (mS x.2.1, (aOf x.2.1).2.1, (aOf x.2.1).2.2.1, (n + M, apT (mTx x.2.1) n M v M))) : RS3)) := by
    intro m0 g0 l0 k
    induction k with
    | zero =>
      intro t y b6 ht fy y8 yT
      refine pw_iload (tk tkX8_appendText 54 rfl) rfl ?_
      refine pw_if_lt (tgt := 142) (tk tkX8_appendText 55 rfl) (by decide) (fun c102 => absurd c102 (nI_pos (by omega))) (fun c102 => ?_)
      refine pw_aload_n (tk tkX8_appendText 56 rfl) rfl ?_
      refine g8_text (tk tkX8_appendText 57 rfl) fkX8_22 ?_
      refine pw_aload_n (tk tkX8_appendText 58 rfl) rfl ?_
      refine g8_length (tk tkX8_appendText 59 rfl) fkX8_141 ?_
      refine pw_lload_n (tk tkX8_appendText 60 rfl) rfl ?_
      refine pw_bipush (v := 8) (tk tkX8_appendText 61 rfl) (by decide) ?_
      refine pw_iload (tk tkX8_appendText 62 rfl) rfl ?_
      refine pw_imul (tk tkX8_appendText 63 rfl) ?_
      refine pw_lshr (tk tkX8_appendText 64 rfl) rfl ?_
      refine pw_ldc2 (tk tkX8_appendText 65 rfl) lkX8_139 ?_
      refine pw_land (tk tkX8_appendText 66 rfl) ?_
      refine pw_l2i (tk tkX8_appendText 67 rfl) (code_b c (by omega)) ?_
      rw [show c.toBitVec.toNat = v from ev.symm]
      refine as_mtext_e (e := n + t) (tk tkX8_appendText 68 rfl) y8 (by first | decide | omega) ?_
      refine pw_aload_n (tk tkX8_appendText 69 rfl) rfl ?_
      refine pw_dup (tk tkX8_appendText 70 rfl) rfl ?_
      refine g8_length (tk tkX8_appendText 71 rfl) fkX8_141 ?_
      refine pw_iconst (v := 1) (tk tkX8_appendText 72 rfl) (by decide) ?_
      refine pw_iadd (tk tkX8_appendText 73 rfl) ?_
      rw [show ∀ f, mF (uM5 y f).2.1 8 = nI (n + t) from fun _ => y8, nI_1]
      refine p8_length (tk tkX8_appendText 74 rfl) fkX8_141 ?_
      refine pw_inc5 (tk tkX8_appendText 75 rfl) rfl (by decide) (show nI 0 + (-1) = -1 by decide) ?_
      refine pw_goto (tgt := 100) (tk tkX8_appendText 76 rfl) (by decide) ?_
      exact E m0 g0 l0 _ _ (fy.go _ _) (by rw [show M = t + 1 by omega]; rfl) (show upd (mTx y.2.1) (n + t) (nI (cb v 0)) = _ from by rw [yT, show 0 = M - 1 - t by omega, apT_s]; rw [show t + 1 = M by omega])
    | succ k ih =>
      intro t y b6 ht fy y8 yT
      refine pw_iload (tk tkX8_appendText 54 rfl) rfl ?_
      refine pw_if_lt (tgt := 142) (tk tkX8_appendText 55 rfl) (by decide) (fun c102 => absurd c102 (nI_pos (by omega))) (fun c102 => ?_)
      refine pw_aload_n (tk tkX8_appendText 56 rfl) rfl ?_
      refine g8_text (tk tkX8_appendText 57 rfl) fkX8_22 ?_
      refine pw_aload_n (tk tkX8_appendText 58 rfl) rfl ?_
      refine g8_length (tk tkX8_appendText 59 rfl) fkX8_141 ?_
      refine pw_lload_n (tk tkX8_appendText 60 rfl) rfl ?_
      refine pw_bipush (v := 8) (tk tkX8_appendText 61 rfl) (by decide) ?_
      refine pw_iload (tk tkX8_appendText 62 rfl) rfl ?_
      refine pw_imul (tk tkX8_appendText 63 rfl) ?_
      refine pw_lshr (tk tkX8_appendText 64 rfl) rfl ?_
      refine pw_ldc2 (tk tkX8_appendText 65 rfl) lkX8_139 ?_
      refine pw_land (tk tkX8_appendText 66 rfl) ?_
      refine pw_l2i (tk tkX8_appendText 67 rfl) (code_b c (by omega)) ?_
      rw [show c.toBitVec.toNat = v from ev.symm]
      refine as_mtext_e (e := n + t) (tk tkX8_appendText 68 rfl) y8 (by first | decide | omega) ?_
      refine pw_aload_n (tk tkX8_appendText 69 rfl) rfl ?_
      refine pw_dup (tk tkX8_appendText 70 rfl) rfl ?_
      refine g8_length (tk tkX8_appendText 71 rfl) fkX8_141 ?_
      refine pw_iconst (v := 1) (tk tkX8_appendText 72 rfl) (by decide) ?_
      refine pw_iadd (tk tkX8_appendText 73 rfl) ?_
      rw [show ∀ f, mF (uM5 y f).2.1 8 = nI (n + t) from fun _ => y8, nI_1]
      refine p8_length (tk tkX8_appendText 74 rfl) fkX8_141 ?_
      refine pw_inc5 (tk tkX8_appendText 75 rfl) rfl (by decide) (pk_m1 _) ?_
      refine pw_goto (tgt := 100) (tk tkX8_appendText 76 rfl) (by decide) ?_
      exact ih (t + 1) _ _ (by omega) (fy.go _ _) rfl (show upd (mTx y.2.1) (n + t) (nI (cb v (k + 1))) = _ from by rw [yT, show k + 1 = M - 1 - t by omega, apT_s])
  have J57 : ∀ (l5 l6 : Option Value), PW MX8_appendText 3 0 57 [some (.ref 171), some (.long c), none, some (.int (nI M)), some (.int (bI G)), l5, l6] [] (hp x) (MOQ x (if M = 0 then (1, 0, aOf x.2.1) else if G = false then (1, 0, aOf x.2.1) else if 80 < n + M then (2, 0, aOf x.2.1) else (0, nI (n + M), (mS x.2.1, (aOf x.2.1).2.1, (aOf x.2.1).2.2.1, (n + M, apT (mTx x.2.1) n M v M))) : RS3)) := by
    intro l5 l6
    refine pw_aload_n (tk tkX8_appendText 30 rfl) rfl ?_
    refine pw_iload_n (tk tkX8_appendText 31 rfl) rfl ?_
    refine pw_if_eq (tgt := 67) (tk tkX8_appendText 32 rfl) (by decide) (fun c59 => ?_) (fun c59 => ?_)
    · refine pw_iconst (v := 1) (tk tkX8_appendText 35 rfl) (by decide) ?_
      refine pw_goto (tgt := 87) (tk tkX8_appendText 36 rfl) (by decide) ?_
      refine pw_cV (ct_X8_holds x _) okX8_holds (tk tkX8_appendText 46 rfl) mkX8_97 imX8_holds seX8_holds (hp_ot _ 11) rfl rfl rfl (by decide) (by decide) (Nat.le_of_ble_eq_true rfl) ?_
      refine pw_ifnb (tgt := 95) (tk tkX8_appendText 47 rfl) (by decide) (fun c90 => absurd c90 (by decide)) (fun c90 => ?_)
      refine pw_iconst (v := 0) (tk tkX8_appendText 48 rfl) (by decide) ?_
      refine pw_ireturn (tk tkX8_appendText 49 rfl) rfl (by decide) rfl ?_
      rw [if_pos ((nI_eq (b := 0) (by omega) (by decide)).mp c59)]
      exact ⟨_, rfl, rfl, rfl, rfl, rfl, hx, AE.rf _⟩
    · refine pw_iload (tk tkX8_appendText 33 rfl) rfl ?_
      refine pw_ifnb (tgt := 71) (tk tkX8_appendText 34 rfl) (by decide) (fun c64 => ?_) (fun c64 => ?_)
      · refine pw_aload_n (tk tkX8_appendText 37 rfl) rfl ?_
        refine g8_length (tk tkX8_appendText 38 rfl) fkX8_141 ?_
        refine pw_iload_n (tk tkX8_appendText 39 rfl) rfl ?_
        rw [h8]
        refine pw_iadd (tk tkX8_appendText 40 rfl) ?_
        refine pw_bipush (v := 80) (tk tkX8_appendText 41 rfl) (by decide) ?_
        rw [nI_add]
        refine pw_icmp_le (tgt := 86) (tk tkX8_appendText 42 rfl) (by decide) (fun c79 => ?_) (fun c79 => ?_)
        · refine pw_iconst (v := 0) (tk tkX8_appendText 45 rfl) (by decide) ?_
          refine pw_cV (ct_X8_holds x _) okX8_holds (tk tkX8_appendText 46 rfl) mkX8_97 imX8_holds seX8_holds (hp_ot _ 11) rfl rfl rfl (by decide) (by decide) (Nat.le_of_ble_eq_true rfl) ?_
          refine pw_ifnb (tgt := 95) (tk tkX8_appendText 47 rfl) (by decide) (fun c90 => ?_) (fun c90 => absurd c90 (by decide))
          refine pw_iload_n (tk tkX8_appendText 50 rfl) rfl ?_
          refine pw_iconst (v := 1) (tk tkX8_appendText 51 rfl) (by decide) ?_
          refine pw_isub (tk tkX8_appendText 52 rfl) ?_
          rw [show nI M - 1 = nI (M - 1) from pk_sub (b := 1) (by have : ¬ M = 0 := fun q => c59 (by rw [q]; rfl); omega)]
          refine pw_ist5 (tk tkX8_appendText 53 rfl) rfl (by decide) ?_
          have m0 : ¬ M = 0 := fun q => c59 (by rw [q]; rfl)
          have l0 : n + M ≤ 80 := (nI_leI (b := 80) (by omega) (by decide)).mp c79
          exact L2 m0 (ne_f c64) (by omega) (M - 1) 0 (xThr x 0) _ (by omega) ⟨rfl, rfl, rfl, rfl, rfl, rfl, rfl, rfl⟩ h8 (by rw [apT_0]; rfl)
        · refine pw_iconst (v := 2) (tk tkX8_appendText 43 rfl) (by decide) ?_
          refine pw_goto (tgt := 87) (tk tkX8_appendText 44 rfl) (by decide) ?_
          refine pw_cV (ct_X8_holds x _) okX8_holds (tk tkX8_appendText 46 rfl) mkX8_97 imX8_holds seX8_holds (hp_ot _ 11) rfl rfl rfl (by decide) (by decide) (Nat.le_of_ble_eq_true rfl) ?_
          refine pw_ifnb (tgt := 95) (tk tkX8_appendText 47 rfl) (by decide) (fun c90 => absurd c90 (by decide)) (fun c90 => ?_)
          refine pw_iconst (v := 0) (tk tkX8_appendText 48 rfl) (by decide) ?_
          refine pw_ireturn (tk tkX8_appendText 49 rfl) rfl (by decide) rfl ?_
          rw [if_neg (fun q => c59 (by rw [q]; rfl)), if_neg (ne_f c64), if_pos (by have : ¬ n + M ≤ 80 := fun q => c79 (nI_le (b := 80) q (by decide)); omega)]
          exact ⟨_, rfl, rfl, rfl, rfl, rfl, hx, AE.rf _⟩
      · refine pw_iconst (v := 1) (tk tkX8_appendText 35 rfl) (by decide) ?_
        refine pw_goto (tgt := 87) (tk tkX8_appendText 36 rfl) (by decide) ?_
        refine pw_cV (ct_X8_holds x _) okX8_holds (tk tkX8_appendText 46 rfl) mkX8_97 imX8_holds seX8_holds (hp_ot _ 11) rfl rfl rfl (by decide) (by decide) (Nat.le_of_ble_eq_true rfl) ?_
        refine pw_ifnb (tgt := 95) (tk tkX8_appendText 47 rfl) (by decide) (fun c90 => absurd c90 (by decide)) (fun c90 => ?_)
        refine pw_iconst (v := 0) (tk tkX8_appendText 48 rfl) (by decide) ?_
        refine pw_ireturn (tk tkX8_appendText 49 rfl) rfl (by decide) rfl ?_
        rw [if_neg (fun q => c59 (by rw [q]; rfl)), if_pos c64]
        exact ⟨_, rfl, rfl, rfl, rfl, rfl, hx, AE.rf _⟩
  have L1 : ∀ (f j : Nat) (g : Bool) (l : Int64), l.toBitVec.toNat < 256 ^ f → j + mnF f l.toBitVec.toNat = M → (g && gdF f l.toBitVec.toNat) = G → PW MX8_appendText 3 0 8 [some (.ref 171), some (.long c), none, some (.int (nI j)), some (.int (bI g)), some (.long l), none] [] (hp x) (MOQ x (if M = 0 then (1, 0, aOf x.2.1) else if G = false then (1, 0, aOf x.2.1) else if 80 < n + M then (2, 0, aOf x.2.1) else (0, nI (n + M), (mS x.2.1, (aOf x.2.1).2.1, (aOf x.2.1).2.2.1, (n + M, apT (mTx x.2.1) n M v M))) : RS3)) := by
    intro f
    induction f with
    | zero =>
      intro j g l hl hm hg
      have l0 : l.toBitVec.toNat = 0 := by rw [Nat.pow_zero] at hl; omega
      obtain rfl : j = M := hm
      obtain rfl : g = G := by rw [← hg]; exact (Bool.and_true g).symm
      refine pw_lload (tk tkX8_appendText 6 rfl) rfl ?_
      refine pw_lconst (v := 0) (tk tkX8_appendText 7 rfl) (by decide) ?_
      refine pw_lcmp (tk tkX8_appendText 8 rfl) ?_
      refine pw_if_eq (tgt := 57) (tk tkX8_appendText 9 rfl) (by decide) (fun c12 => ?_) (fun c12 => absurd ((lz l).mpr l0) c12)
      exact J57 _ _
    | succ f ih =>
      intro j g l hl hm hg
      have J42 : ¬ l.toBitVec.toNat = 0 → ∀ w, w = bI (g && decide (33 ≤ l.toBitVec.toNat % 256 ∧ l.toBitVec.toNat % 256 ≤ 126)) → PW MX8_appendText 3 0 42 [some (.ref 171), some (.long c), none, some (.int (nI j)), some (.int (bI g)), some (.long l), none] [.int w] (hp x) (MOQ x (if M = 0 then (1, 0, aOf x.2.1) else if G = false then (1, 0, aOf x.2.1) else if 80 < n + M then (2, 0, aOf x.2.1) else (0, nI (n + M), (mS x.2.1, (aOf x.2.1).2.1, (aOf x.2.1).2.2.1, (n + M, apT (mTx x.2.1) n M v M))) : RS3)) := by
        intro l0 w hw
        subst hw
        refine pw_ist4 (tk tkX8_appendText 23 rfl) rfl (by decide) ?_
        refine pw_inc3 (tk tkX8_appendText 24 rfl) rfl (by decide) (nI_1 j) ?_
        refine pw_lload (tk tkX8_appendText 25 rfl) rfl ?_
        refine pw_bipush (v := 8) (tk tkX8_appendText 26 rfl) (by decide) ?_
        refine pw_lushr (tk tkX8_appendText 27 rfl) rfl ?_
        refine pw_lst5 (tk tkX8_appendText 28 rfl) rfl (by decide) ?_
        refine pw_goto (tgt := 8) (tk tkX8_appendText 29 rfl) (by decide) ?_
        refine ih (j + 1) _ _ ?_ ?_ ?_
        · rw [ush_8]; exact Nat.div_lt_of_lt_mul (by rw [Nat.pow_succ] at hl; omega)
        · rw [ush_8, ← hm]; show _ = j + (if _ then _ else _); rw [if_neg l0]; omega
        · rw [ush_8, ← hg, Bool.and_assoc]; congr 1; exact (if_neg l0).symm
      refine pw_lload (tk tkX8_appendText 6 rfl) rfl ?_
      refine pw_lconst (v := 0) (tk tkX8_appendText 7 rfl) (by decide) ?_
      refine pw_lcmp (tk tkX8_appendText 8 rfl) ?_
      refine pw_if_eq (tgt := 57) (tk tkX8_appendText 9 rfl) (by decide) (fun c12 => ?_) (fun c12 => ?_)
      · have l0 := (lz l).mp c12
        have e1 : j = M := by rw [← hm, l0, mnF_0]; omega
        have e2 : g = G := by rw [← hg, l0, gdF_0, Bool.and_true]
        rw [e1, e2]
        exact J57 _ _
      · refine pw_iload (tk tkX8_appendText 10 rfl) rfl ?_
        refine pw_ifb (tgt := 41) (tk tkX8_appendText 11 rfl) (by decide) (fun c17 => ?_) (fun c17 => ?_)
        · refine pw_iconst (v := 0) (tk tkX8_appendText 22 rfl) (by decide) ?_
          exact J42 (fun q => c12 ((lz l).mpr q)) _ (by rw [c17]; rfl)
        · refine pw_lload (tk tkX8_appendText 12 rfl) rfl ?_
          refine pw_ldc2 (tk tkX8_appendText 13 rfl) lkX8_139 ?_
          refine pw_land (tk tkX8_appendText 14 rfl) ?_
          refine pw_l2i (tk tkX8_appendText 15 rfl) (code_0 l) ?_
          refine pw_bipush (v := 33) (tk tkX8_appendText 16 rfl) (by decide) ?_
          refine pw_bipush (v := 126) (tk tkX8_appendText 17 rfl) (by decide) ?_
          refine pw_cS (ct_X8_in _ _ _ _) okX8_in (tk tkX8_appendText 18 rfl) mkX8_32 stX8_in rfl rfl (by decide) (by decide) (Nat.le_of_ble_eq_true rfl) ?_
          rw [in_dec (Nat.mod_lt _ (by decide))]
          refine pw_ifb (tgt := 41) (tk tkX8_appendText 19 rfl) (by decide) (fun c34 => ?_) (fun c34 => ?_)
          · refine pw_iconst (v := 0) (tk tkX8_appendText 22 rfl) (by decide) ?_
            exact J42 (fun q => c12 ((lz l).mpr q)) _ (by rw [c17, c34]; rfl)
          · refine pw_iconst (v := 1) (tk tkX8_appendText 20 rfl) (by decide) ?_
            refine pw_goto (tgt := 42) (tk tkX8_appendText 21 rfl) (by decide) ?_
            exact J42 (fun q => c12 ((lz l).mpr q)) _ (by rw [c17, c34]; rfl)
  refine pw_iconst (v := 0) (tk tkX8_appendText 0 rfl) (by decide) ?_
  refine pw_ist3 (tk tkX8_appendText 1 rfl) rfl (by decide) ?_
  refine pw_iconst (v := 1) (tk tkX8_appendText 2 rfl) (by decide) ?_
  refine pw_ist4 (tk tkX8_appendText 3 rfl) rfl (by decide) ?_
  refine pw_lload_n (tk tkX8_appendText 4 rfl) rfl ?_
  refine pw_lst5 (tk tkX8_appendText 5 rfl) rfl (by decide) ?_
  exact L1 8 0 true c (Nat.lt_of_lt_of_le c.toBitVec.isLt (by decide)) (by rw [eM, ev]; omega) (by rw [eG, ev]; rfl)
