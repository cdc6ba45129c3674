def sF (x : XW) (k : Nat) (v : Int32) : XW := uM7 x (upd (mF x.2.1) k v)
/-- all but the reader's fields -/
def FT (x y : XW) : Prop := y.1 = x.1 ∧ y.2.2 = x.2.2 ∧ mS y.2.1 = mS x.2.1 ∧ mA y.2.1 = mA x.2.1 ∧ mHi y.2.1 = mHi x.2.1 ∧ mSl y.2.1 = mSl x.2.1 ∧ mTx y.2.1 = mTx x.2.1 ∧ mWa y.2.1 = mWa x.2.1 ∧ ∀ k, k < 14 ∨ 20 < k → mF y.2.1 k = mF x.2.1 k
theorem FT.rf (x : XW) : FT x x := ⟨rfl, rfl, rfl, rfl, rfl, rfl, rfl, rfl, fun _ _ => rfl⟩
theorem FT.sf {x y : XW} (h : FT x y) (k : Nat) (v : Int32) (hk : 14 ≤ k ∧ k ≤ 20) : FT x (sF y k v) := by
  obtain ⟨a1, a2, a3, a4, a5, a6, a7, a8, a9⟩ := h
  exact ⟨a1, a2, a3, a4, a5, a6, a7, a8, fun j hj => (upd_nt _ _ (by omega)).trans (a9 j hj)⟩
theorem FT.pw {x y : XW} (h : FT x y) (s : Nat) (w : Bool) : FT x (pW y s w) := by
  obtain ⟨a1, a2, a3, a4, a5, a6, a7, a8, a9⟩ := h
  exact ⟨a1, a2, a3, a4, a5, a6, a7, a8, fun j hj => (upd_nt _ _ (by omega)).trans ((upd_nt _ _ (by omega)).trans (a9 j hj))⟩
/-- a command read from sp on: is there a fault, the place behind, the letter, the numbers -/
abbrev RDT : Type := Bool × Nat × Int32 × Int32 × Int32 × Int32 × Int32
def dgV (T : Nat → Int32) (b : Bool) (sp : Nat) : Int32 := (if b = true then T sp else 48) - 48
def rdI (T : Nat → Int32) (n : Nat) (line : Int32) (s2 : Nat) (w2 : Bool) : RDT :=
  let b2 := tkB T n 61 61 s2 w2
  let n1 := nuP T n (adv b2 s2) (w2 || !b2)
  let b3 := tkB T n 44 44 n1.2.1 n1.2.2
  let n2 := nuP T n (adv b3 n1.2.1) (n1.2.2 || !b3)
  let b4 := tkB T n 44 44 n2.2.1 n2.2.2
  let n3 := nuP T n (adv b4 n2.2.1) (n2.2.2 || !b4)
  (n3.2.2, n3.2.1, 105, line, n1.1, n2.1, n3.1)
def rdU (T : Nat → Int32) (n : Nat) (line : Int32) (s2 : Nat) (w2 : Bool) : RDT :=
  let b2 := tkB T n 46 46 s2 w2
  let b3 := tkB T n 48 57 (adv b2 s2) (w2 || !b2)
  let b4 := tkB T n 61 61 (adv b3 (adv b2 s2)) ((w2 || !b2) || !b3)
  let n1 := nuP T n (adv b4 (adv b3 (adv b2 s2))) (((w2 || !b2) || !b3) || !b4)
  (n1.2.2, n1.2.1, 117, line, dgV T b3 (adv b2 s2), n1.1, 0)
def rdP (T : Nat → Int32) (n sp : Nat) : RDT :=
  if nI sp = nI n then (true, sp, 0, 0, 0, 0, 0)
  else
    let b1 := tkB T n 48 57 (sp + 1) false
    if T sp = 105 then rdI T n (dgV T b1 (sp + 1)) (adv b1 (sp + 1)) (false || !b1)
    else if T sp = 117 then rdU T n (dgV T b1 (sp + 1)) (adv b1 (sp + 1)) (false || !b1)
    else if T sp = 114 then (false || !b1, adv b1 (sp + 1), 114, dgV T b1 (sp + 1), 0, 0, 0)
    else (true, sp, 0, 0, 0, 0, 0)
def rdQ (x : XW) (R : RDT) : Out → Hp → Prop := fun o h2 => o = .inl none ∧ ∃ y, h2 = hp y ∧ FT x y ∧ mF y.2.1 14 = nI R.2.1 ∧ mF y.2.1 15 = bI R.1 ∧ (R.1 = false → mF y.2.1 16 = R.2.2.1 ∧ mF y.2.1 17 = R.2.2.2.1) ∧ (R.1 = false → R.2.2.1 = 105 → mF y.2.1 18 = R.2.2.2.2.1 ∧ mF y.2.1 19 = R.2.2.2.2.2.1 ∧ mF y.2.1 20 = R.2.2.2.2.2.2) ∧ (R.1 = false → R.2.2.1 = 117 → mF y.2.1 18 = R.2.2.2.2.1 ∧ mF y.2.1 19 = R.2.2.2.2.2.1)
set_option maxRecDepth 100000 in
set_option maxHeartbeats 4000000 in
theorem ct_X8_readCommand (x : XW) (n sp : Nat) (h14 : mF x.2.1 14 = nI sp) (h15 : mF x.2.1 15 = bI false) (h8 : mF x.2.1 8 = nI n) (hn : n ≤ 80) (hs : sp ≤ n) : CT MX8_readCommand 3 0 [.ref 171] (hp x) (rdQ x (rdP (mTx x.2.1) n sp)) := by
  refine ct_of (by decide +kernel) (by decide) rfl (k := 1) (ls := [some (.ref 171), none]) rfl (Nat.le_of_ble_eq_true rfl) ?_
  have J106 : ∀ (y : XW) (T : Nat → Int32) (line : Int32) (s2 : Nat) (w2 : Bool) (a1 : Option Value), T = mTx y.2.1 → FT x y → s2 ≤ n → mF y.2.1 14 = nI s2 → mF y.2.1 15 = bI w2 → mF y.2.1 16 = 105 → mF y.2.1 17 = line → PW MX8_readCommand 3 0 106 [some (.ref 171), a1] [] (hp y) (rdQ x (rdI T n line s2 w2)) := by
    intro y T line s2 w2 a1 hT hf hs2 g14 g15 g16 g17
    subst hT
    have g8 : mF y.2.1 8 = nI n := (hf.2.2.2.2.2.2.2.2 8 (by omega)).trans h8
    refine pw_aload_n (tk tkX8_readCommand 55 rfl) rfl ?_
    refine pw_bipush (v := 61) (tk tkX8_readCommand 56 rfl) (by decide) ?_
    refine pw_bipush (v := 61) (tk tkX8_readCommand 57 rfl) (by decide) ?_
    obtain ⟨b0, eb0⟩ : ∃ b, b = tkB (mTx y.2.1) n 61 61 s2 w2 := ⟨_, rfl⟩
    have q0 : CT MX8_takes 1 0 [.ref 171, .int 61, .int 61] (hp y) (Det (.inl (some (.int (if b0 = true then (mTx y.2.1) s2 else 61)))) (hp (pW y (adv b0 s2) (w2 || !b0)))) := by rw [eb0]; exact ct_X8_takes y n s2 w2 61 61 g14 g15 g8 hn hs2
    obtain ⟨s0_, es0_⟩ : ∃ z, z = adv b0 s2 := ⟨_, rfl⟩
    obtain ⟨w0_, ew0_⟩ : ∃ z, z = (w2 || !b0) := ⟨_, rfl⟩
    have hs0_ : s0_ ≤ n := by rw [es0_, eb0]; exact adv_le hs2
    rw [← es0_, ← ew0_] at q0
    refine pw_cV q0 okX8_takes (tk tkX8_readCommand 58 rfl) mkX8_151 imX8_takes seX8_takes (hp_ot _ 11) rfl rfl rfl (by decide) (by decide) (Nat.le_of_ble_eq_true rfl) ?_
    refine pw_ist1 (tk tkX8_readCommand 59 rfl) rfl (by decide) ?_
    refine pw_aload_n (tk tkX8_readCommand 60 rfl) rfl ?_
    refine pw_aload_n (tk tkX8_readCommand 61 rfl) rfl ?_
    obtain ⟨v1, ev1⟩ : ∃ z, z = (nuP (mTx y.2.1) n s0_ w0_).1 := ⟨_, rfl⟩
    obtain ⟨s1_, es1_⟩ : ∃ z, z = (nuP (mTx y.2.1) n s0_ w0_).2.1 := ⟨_, rfl⟩
    obtain ⟨w1_, ew1_⟩ : ∃ z, z = (nuP (mTx y.2.1) n s0_ w0_).2.2 := ⟨_, rfl⟩
    have q1 : CT MX8_number 2 0 [.ref 171] (hp (pW y s0_ w0_)) (Det (.inl (some (.int v1))) (hp (pW (pW y s0_ w0_) s1_ w1_))) := by rw [ev1, es1_, ew1_]; exact ct_X8_number (pW y s0_ w0_) n s0_ w0_ rfl rfl g8 hn hs0_
    have hs1_ : s1_ ≤ n := by rw [es1_]; exact nuP_le hs0_
    refine pw_cV q1 okX8_number (tk tkX8_readCommand 62 rfl) mkX8_160 imX8_number seX8_number (hp_ot _ 11) rfl rfl rfl (by decide) (by decide) (Nat.le_of_ble_eq_true rfl) ?_
    refine p8_one (tk tkX8_readCommand 63 rfl) fkX8_163 ?_
    refine pw_aload_n (tk tkX8_readCommand 64 rfl) rfl ?_
    refine pw_bipush (v := 44) (tk tkX8_readCommand 65 rfl) (by decide) ?_
    refine pw_bipush (v := 44) (tk tkX8_readCommand 66 rfl) (by decide) ?_
    obtain ⟨b2, eb2⟩ : ∃ b, b = tkB (mTx y.2.1) n 44 44 s1_ w1_ := ⟨_, rfl⟩
    have q2 : CT MX8_takes 1 0 [.ref 171, .int 44, .int 44] (hp (sF (pW (pW y s0_ w0_) s1_ w1_) 18 v1)) (Det (.inl (some (.int (if b2 = true then (mTx y.2.1) s1_ else 44)))) (hp (pW (sF (pW (pW y s0_ w0_) s1_ w1_) 18 v1) (adv b2 s1_) (w1_ || !b2)))) := by rw [eb2]; exact ct_X8_takes (sF (pW (pW y s0_ w0_) s1_ w1_) 18 v1) n s1_ w1_ 44 44 rfl rfl g8 hn hs1_
    obtain ⟨s2_, es2_⟩ : ∃ z, z = adv b2 s1_ := ⟨_, rfl⟩
    obtain ⟨w2_, ew2_⟩ : ∃ z, z = (w1_ || !b2) := ⟨_, rfl⟩
    have hs2_ : s2_ ≤ n := by rw [es2_, eb2]; exact adv_le hs1_
    rw [← es2_, ← ew2_] at q2
    refine pw_cV q2 okX8_takes (tk tkX8_readCommand 67 rfl) mkX8_151 imX8_takes seX8_takes (hp_ot _ 11) rfl rfl rfl (by decide) (by decide) (Nat.le_of_ble_eq_true rfl) ?_
    refine pw_ist1 (tk tkX8_readCommand 68 rfl) rfl (by decide) ?_
    refine pw_aload_n (tk tkX8_readCommand 69 rfl) rfl ?_
    refine pw_aload_n (tk tkX8_readCommand 70 rfl) rfl ?_
    obtain ⟨v3, ev3⟩ : ∃ z, z = (nuP (mTx y.2.1) n s2_ w2_).1 := ⟨_, rfl⟩
    obtain ⟨s3_, es3_⟩ : ∃ z, z = (nuP (mTx y.2.1) n s2_ w2_).2.1 := ⟨_, rfl⟩
    obtain ⟨w3_, ew3_⟩ : ∃ z, z = (nuP (mTx y.2.1) n s2_ w2_).2.2 := ⟨_, rfl⟩
    have q3 : CT MX8_number 2 0 [.ref 171] (hp (pW (sF (pW (pW y s0_ w0_) s1_ w1_) 18 v1) s2_ w2_)) (Det (.inl (some (.int v3))) (hp (pW (pW (sF (pW (pW y s0_ w0_) s1_ w1_) 18 v1) s2_ w2_) s3_ w3_))) := by rw [ev3, es3_, ew3_]; exact ct_X8_number (pW (sF (pW (pW y s0_ w0_) s1_ w1_) 18 v1) s2_ w2_) n s2_ w2_ rfl rfl g8 hn hs2_
    have hs3_ : s3_ ≤ n := by rw [es3_]; exact nuP_le hs2_
    refine pw_cV q3 okX8_number (tk tkX8_readCommand 71 rfl) mkX8_160 imX8_number seX8_number (hp_ot _ 11) rfl rfl rfl (by decide) (by decide) (Nat.le_of_ble_eq_true rfl) ?_
    refine p8_two (tk tkX8_readCommand 72 rfl) fkX8_166 ?_
    refine pw_aload_n (tk tkX8_readCommand 73 rfl) rfl ?_
    refine pw_bipush (v := 44) (tk tkX8_readCommand 74 rfl) (by decide) ?_
    refine pw_bipush (v := 44) (tk tkX8_readCommand 75 rfl) (by decide) ?_
    obtain ⟨b4, eb4⟩ : ∃ b, b = tkB (mTx y.2.1) n 44 44 s3_ w3_ := ⟨_, rfl⟩
    have q4 : CT MX8_takes 1 0 [.ref 171, .int 44, .int 44] (hp (sF (pW (pW (sF (pW (pW y s0_ w0_) s1_ w1_) 18 v1) s2_ w2_) s3_ w3_) 19 v3)) (Det (.inl (some (.int (if b4 = true then (mTx y.2.1) s3_ else 44)))) (hp (pW (sF (pW (pW (sF (pW (pW y s0_ w0_) s1_ w1_) 18 v1) s2_ w2_) s3_ w3_) 19 v3) (adv b4 s3_) (w3_ || !b4)))) := by rw [eb4]; exact ct_X8_takes (sF (pW (pW (sF (pW (pW y s0_ w0_) s1_ w1_) 18 v1) s2_ w2_) s3_ w3_) 19 v3) n s3_ w3_ 44 44 rfl rfl g8 hn hs3_
    obtain ⟨s4_, es4_⟩ : ∃ z, z = adv b4 s3_ := ⟨_, rfl⟩
    obtain ⟨w4_, ew4_⟩ : ∃ z, z = (w3_ || !b4) := ⟨_, rfl⟩
    have hs4_ : s4_ ≤ n := by rw [es4_, eb4]; exact adv_le hs3_
    rw [← es4_, ← ew4_] at q4
    refine pw_cV q4 okX8_takes (tk tkX8_readCommand 76 rfl) mkX8_151 imX8_takes seX8_takes (hp_ot _ 11) rfl rfl rfl (by decide) (by decide) (Nat.le_of_ble_eq_true rfl) ?_
    refine pw_ist1 (tk tkX8_readCommand 77 rfl) rfl (by decide) ?_
    refine pw_aload_n (tk tkX8_readCommand 78 rfl) rfl ?_
    refine pw_aload_n (tk tkX8_readCommand 79 rfl) rfl ?_
    obtain ⟨v5, ev5⟩ : ∃ z, z = (nuP (mTx y.2.1) n s4_ w4_).1 := ⟨_, rfl⟩
    obtain ⟨s5_, es5_⟩ : ∃ z, z = (nuP (mTx y.2.1) n s4_ w4_).2.1 := ⟨_, rfl⟩
    obtain ⟨w5_, ew5_⟩ : ∃ z, z = (nuP (mTx y.2.1) n s4_ w4_).2.2 := ⟨_, rfl⟩
    have q5 : CT MX8_number 2 0 [.ref 171] (hp (pW (sF (pW (pW (sF (pW (pW y s0_ w0_) s1_ w1_) 18 v1) s2_ w2_) s3_ w3_) 19 v3) s4_ w4_)) (Det (.inl (some (.int v5))) (hp (pW (pW (sF (pW (pW (sF (pW (pW y s0_ w0_) s1_ w1_) 18 v1) s2_ w2_) s3_ w3_) 19 v3) s4_ w4_) s5_ w5_))) := by rw [ev5, es5_, ew5_]; exact ct_X8_number (pW (sF (pW (pW (sF (pW (pW y s0_ w0_) s1_ w1_) 18 v1) s2_ w2_) s3_ w3_) 19 v3) s4_ w4_) n s4_ w4_ rfl rfl g8 hn hs4_
    have hs5_ : s5_ ≤ n := by rw [es5_]; exact nuP_le hs4_
    refine pw_cV q5 okX8_number (tk tkX8_readCommand 80 rfl) mkX8_160 imX8_number seX8_number (hp_ot _ 11) rfl rfl rfl (by decide) (by decide) (Nat.le_of_ble_eq_true rfl) ?_
    refine p8_three (tk tkX8_readCommand 81 rfl) fkX8_169 ?_
    refine pw_goto (tgt := 210) (tk tkX8_readCommand 82 rfl) (by decide) ?_
    refine pw_return (tk tkX8_readCommand 109 rfl) rfl (by decide) ?_
    have eR : rdI (mTx y.2.1) n line s2 w2 = (w5_, s5_, 105, line, v1, v3, v5) := by subst ew5_; subst es5_; subst ev5; subst ew4_; subst es4_; subst eb4; subst ew3_; subst es3_; subst ev3; subst ew2_; subst es2_; subst eb2; subst ew1_; subst es1_; subst ev1; subst ew0_; subst es0_; subst eb0; rfl
    rw [eR]
    exact ⟨rfl, _, rfl, (((((((((hf.pw s0_ w0_).pw s1_ w1_).sf 18 _ (by omega)).pw s2_ w2_).pw s3_ w3_).sf 19 _ (by omega)).pw s4_ w4_).pw s5_ w5_).sf 20 _ (by omega)), rfl, rfl, (fun _ => ⟨g16, g17⟩), (fun _ _ => ⟨rfl, rfl, rfl⟩), (fun _ q => absurd q (show ¬ (105 : Int32) = 117 by decide))⟩
  have J169 : ∀ (y : XW) (T : Nat → Int32) (line : Int32) (s2 : Nat) (w2 : Bool) (a1 : Option Value), T = mTx y.2.1 → FT x y → s2 ≤ n → mF y.2.1 14 = nI s2 → mF y.2.1 15 = bI w2 → mF y.2.1 16 = 117 → mF y.2.1 17 = line → PW MX8_readCommand 3 0 169 [some (.ref 171), a1] [] (hp y) (rdQ x (rdU T n line s2 w2)) := by
    intro y T line s2 w2 a1 hT hf hs2 g14 g15 g16 g17
    subst hT
    have g8 : mF y.2.1 8 = nI n := (hf.2.2.2.2.2.2.2.2 8 (by omega)).trans h8
    refine pw_aload_n (tk tkX8_readCommand 87 rfl) rfl ?_
    refine pw_bipush (v := 46) (tk tkX8_readCommand 88 rfl) (by decide) ?_
    refine pw_bipush (v := 46) (tk tkX8_readCommand 89 rfl) (by decide) ?_
    obtain ⟨b0, eb0⟩ : ∃ b, b = tkB (mTx y.2.1) n 46 46 s2 w2 := ⟨_, rfl⟩
    have q0 : CT MX8_takes 1 0 [.ref 171, .int 46, .int 46] (hp y) (Det (.inl (some (.int (if b0 = true then (mTx y.2.1) s2 else 46)))) (hp (pW y (adv b0 s2) (w2 || !b0)))) := by rw [eb0]; exact ct_X8_takes y n s2 w2 46 46 g14 g15 g8 hn hs2
    obtain ⟨s0_, es0_⟩ : ∃ z, z = adv b0 s2 := ⟨_, rfl⟩
    obtain ⟨w0_, ew0_⟩ : ∃ z, z = (w2 || !b0) := ⟨_, rfl⟩
    have hs0_ : s0_ ≤ n := by rw [es0_, eb0]; exact adv_le hs2
    rw [← es0_, ← ew0_] at q0
    refine pw_cV q0 okX8_takes (tk tkX8_readCommand 90 rfl) mkX8_151 imX8_takes seX8_takes (hp_ot _ 11) rfl rfl rfl (by decide) (by decide) (Nat.le_of_ble_eq_true rfl) ?_
    refine pw_ist1 (tk tkX8_readCommand 91 rfl) rfl (by decide) ?_
    refine pw_aload_n (tk tkX8_readCommand 92 rfl) rfl ?_
    refine pw_aload_n (tk tkX8_readCommand 93 rfl) rfl ?_
    refine pw_bipush (v := 48) (tk tkX8_readCommand 94 rfl) (by decide) ?_
    refine pw_bipush (v := 57) (tk tkX8_readCommand 95 rfl) (by decide) ?_
    obtain ⟨b1, eb1⟩ : ∃ b, b = tkB (mTx y.2.1) n 48 57 s0_ w0_ := ⟨_, rfl⟩
    have q1 : CT MX8_takes 1 0 [.ref 171, .int 48, .int 57] (hp (pW y s0_ w0_)) (Det (.inl (some (.int (if b1 = true then (mTx y.2.1) s0_ else 48)))) (hp (pW (pW y s0_ w0_) (adv b1 s0_) (w0_ || !b1)))) := by rw [eb1]; exact ct_X8_takes (pW y s0_ w0_) n s0_ w0_ 48 57 rfl rfl g8 hn hs0_
    obtain ⟨s1_, es1_⟩ : ∃ z, z = adv b1 s0_ := ⟨_, rfl⟩
    obtain ⟨w1_, ew1_⟩ : ∃ z, z = (w0_ || !b1) := ⟨_, rfl⟩
    have hs1_ : s1_ ≤ n := by rw [es1_, eb1]; exact adv_le hs0_
    rw [← es1_, ← ew1_] at q1
    refine pw_cV q1 okX8_takes (tk tkX8_readCommand 96 rfl) mkX8_151 imX8_takes seX8_takes (hp_ot _ 11) rfl rfl rfl (by decide) (by decide) (Nat.le_of_ble_eq_true rfl) ?_
    refine pw_bipush (v := 48) (tk tkX8_readCommand 97 rfl) (by decide) ?_
    refine pw_isub (tk tkX8_readCommand 98 rfl) ?_
    refine p8_one (tk tkX8_readCommand 99 rfl) fkX8_163 ?_
    refine pw_aload_n (tk tkX8_readCommand 100 rfl) rfl ?_
    refine pw_bipush (v := 61) (tk tkX8_readCommand 101 rfl) (by decide) ?_
    refine pw_bipush (v := 61) (tk tkX8_readCommand 102 rfl) (by decide) ?_
    obtain ⟨b2, eb2⟩ : ∃ b, b = tkB (mTx y.2.1) n 61 61 s1_ w1_ := ⟨_, rfl⟩
    have q2 : CT MX8_takes 1 0 [.ref 171, .int 61, .int 61] (hp (sF (pW (pW y s0_ w0_) s1_ w1_) 18 (dgV (mTx y.2.1) b1 s0_))) (Det (.inl (some (.int (if b2 = true then (mTx y.2.1) s1_ else 61)))) (hp (pW (sF (pW (pW y s0_ w0_) s1_ w1_) 18 (dgV (mTx y.2.1) b1 s0_)) (adv b2 s1_) (w1_ || !b2)))) := by rw [eb2]; exact ct_X8_takes (sF (pW (pW y s0_ w0_) s1_ w1_) 18 (dgV (mTx y.2.1) b1 s0_)) n s1_ w1_ 61 61 rfl rfl g8 hn hs1_
    obtain ⟨s2_, es2_⟩ : ∃ z, z = adv b2 s1_ := ⟨_, rfl⟩
    obtain ⟨w2_, ew2_⟩ : ∃ z, z = (w1_ || !b2) := ⟨_, rfl⟩
    have hs2_ : s2_ ≤ n := by rw [es2_, eb2]; exact adv_le hs1_
    rw [← es2_, ← ew2_] at q2
    refine pw_cV q2 okX8_takes (tk tkX8_readCommand 103 rfl) mkX8_151 imX8_takes seX8_takes (hp_ot _ 11) rfl rfl rfl (by decide) (by decide) (Nat.le_of_ble_eq_true rfl) ?_
    refine pw_ist1 (tk tkX8_readCommand 104 rfl) rfl (by decide) ?_
    refine pw_aload_n (tk tkX8_readCommand 105 rfl) rfl ?_
    refine pw_aload_n (tk tkX8_readCommand 106 rfl) rfl ?_
    obtain ⟨v3, ev3⟩ : ∃ z, z = (nuP (mTx y.2.1) n s2_ w2_).1 := ⟨_, rfl⟩
    obtain ⟨s3_, es3_⟩ : ∃ z, z = (nuP (mTx y.2.1) n s2_ w2_).2.1 := ⟨_, rfl⟩
    obtain ⟨w3_, ew3_⟩ : ∃ z, z = (nuP (mTx y.2.1) n s2_ w2_).2.2 := ⟨_, rfl⟩
    have q3 : CT MX8_number 2 0 [.ref 171] (hp (pW (sF (pW (pW y s0_ w0_) s1_ w1_) 18 (dgV (mTx y.2.1) b1 s0_)) s2_ w2_)) (Det (.inl (some (.int v3))) (hp (pW (pW (sF (pW (pW y s0_ w0_) s1_ w1_) 18 (dgV (mTx y.2.1) b1 s0_)) s2_ w2_) s3_ w3_))) := by rw [ev3, es3_, ew3_]; exact ct_X8_number (pW (sF (pW (pW y s0_ w0_) s1_ w1_) 18 (dgV (mTx y.2.1) b1 s0_)) s2_ w2_) n s2_ w2_ rfl rfl g8 hn hs2_
    have hs3_ : s3_ ≤ n := by rw [es3_]; exact nuP_le hs2_
    refine pw_cV q3 okX8_number (tk tkX8_readCommand 107 rfl) mkX8_160 imX8_number seX8_number (hp_ot _ 11) rfl rfl rfl (by decide) (by decide) (Nat.le_of_ble_eq_true rfl) ?_
    refine p8_two (tk tkX8_readCommand 108 rfl) fkX8_166 ?_
    refine pw_return (tk tkX8_readCommand 109 rfl) rfl (by decide) ?_
    have eR : rdU (mTx y.2.1) n line s2 w2 = (w3_, s3_, 117, line, dgV (mTx y.2.1) b1 s0_, v3, 0) := by subst ew3_; subst es3_; subst ev3; subst ew2_; subst es2_; subst eb2; subst ew1_; subst es1_; subst eb1; subst ew0_; subst es0_; subst eb0; rfl
    rw [eR]
    exact ⟨rfl, _, rfl, ((((((hf.pw s0_ w0_).pw s1_ w1_).sf 18 _ (by omega)).pw s2_ w2_).pw s3_ w3_).sf 19 _ (by omega)), rfl, rfl, (fun _ => ⟨g16, g17⟩), (fun _ q => absurd q (show ¬ (117 : Int32) = 105 by decide)), (fun _ _ => ⟨rfl, rfl⟩)⟩
  have J59 : ∀ a1, ¬ nI sp = nI n → sp < n → (mTx x.2.1 sp = 105 ∨ mTx x.2.1 sp = 117 ∨ mTx x.2.1 sp = 114) → PW MX8_readCommand 3 0 59 [some (.ref 171), a1] [] (hp x) (rdQ x (rdP (mTx x.2.1) n sp)) := by
    intro a1 hne hlt hsg
    obtain ⟨b, eb⟩ : ∃ b, b = tkB (mTx x.2.1) n 48 57 (sp + 1) false := ⟨_, rfl⟩
    have q0 : CT MX8_takes 1 0 [.ref 171, .int 48, .int 57] (hp (sF (sF x 16 (mTx x.2.1 sp)) 14 (nI (sp + 1)))) (Det (.inl (some (.int (if b = true then mTx x.2.1 (sp + 1) else 48)))) (hp (pW (sF (sF x 16 (mTx x.2.1 sp)) 14 (nI (sp + 1))) (adv b (sp + 1)) (false || !b)))) := by rw [eb]; exact ct_X8_takes (sF (sF x 16 (mTx x.2.1 sp)) 14 (nI (sp + 1))) n (sp + 1) false 48 57 rfl h15 h8 hn hlt
    have ha : adv b (sp + 1) ≤ n := by rw [eb]; exact adv_le hlt
    have hf4 : FT x (sF (pW (sF (sF x 16 (mTx x.2.1 sp)) 14 (nI (sp + 1))) (adv b (sp + 1)) (false || !b)) 17 (dgV (mTx x.2.1) b (sp + 1))) := ((((FT.rf x).sf 16 _ (by omega)).sf 14 _ (by omega)).pw _ _).sf 17 _ (by omega)
    refine pw_aload_n (tk tkX8_readCommand 30 rfl) rfl ?_
    refine pw_aload_n (tk tkX8_readCommand 31 rfl) rfl ?_
    refine g8_text (tk tkX8_readCommand 32 rfl) fkX8_22 ?_
    refine pw_aload_n (tk tkX8_readCommand 33 rfl) rfl ?_
    refine g8_spot (tk tkX8_readCommand 34 rfl) fkX8_148 ?_
    refine al_mtext_e (e := sp) (tk tkX8_readCommand 35 rfl) h14 (by first | decide | omega) ?_
    refine p8_sign (tk tkX8_readCommand 36 rfl) fkX8_154 ?_
    refine pw_aload_n (tk tkX8_readCommand 37 rfl) rfl ?_
    refine pw_dup (tk tkX8_readCommand 38 rfl) rfl ?_
    refine g8_spot (tk tkX8_readCommand 39 rfl) fkX8_148 ?_
    refine pw_iconst (v := 1) (tk tkX8_readCommand 40 rfl) (by decide) ?_
    refine pw_iadd (tk tkX8_readCommand 41 rfl) ?_
    rw [show mF (uM7 x (upd (mF x.2.1) 16 (mTx x.2.1 sp))).2.1 14 + 1 = nI (sp + 1) from (congrArg (· + 1) h14).trans (nI_1 sp)]
    refine p8_spot (tk tkX8_readCommand 42 rfl) fkX8_148 ?_
    refine pw_aload_n (tk tkX8_readCommand 43 rfl) rfl ?_
    refine pw_aload_n (tk tkX8_readCommand 44 rfl) rfl ?_
    refine pw_bipush (v := 48) (tk tkX8_readCommand 45 rfl) (by decide) ?_
    refine pw_bipush (v := 57) (tk tkX8_readCommand 46 rfl) (by decide) ?_
    refine pw_cV q0 okX8_takes (tk tkX8_readCommand 47 rfl) mkX8_151 imX8_takes seX8_takes (hp_ot _ 11) rfl rfl rfl (by decide) (by decide) (Nat.le_of_ble_eq_true rfl) ?_
    refine pw_bipush (v := 48) (tk tkX8_readCommand 48 rfl) (by decide) ?_
    refine pw_isub (tk tkX8_readCommand 49 rfl) ?_
    refine p8_line (tk tkX8_readCommand 50 rfl) fkX8_157 ?_
    refine pw_aload_n (tk tkX8_readCommand 51 rfl) rfl ?_
    refine g8_sign (tk tkX8_readCommand 52 rfl) fkX8_154 ?_
    refine pw_bipush (v := 105) (tk tkX8_readCommand 53 rfl) (by decide) ?_
    refine pw_icmp_ne (tgt := 160) (tk tkX8_readCommand 54 rfl) (by decide) (fun c103 => ?_) (fun c103 => ?_)
    · refine pw_aload_n (tk tkX8_readCommand 83 rfl) rfl ?_
      refine g8_sign (tk tkX8_readCommand 84 rfl) fkX8_154 ?_
      refine pw_bipush (v := 117) (tk tkX8_readCommand 85 rfl) (by decide) ?_
      refine pw_icmp_ne (tgt := 210) (tk tkX8_readCommand 86 rfl) (by decide) (fun c166 => ?_) (fun c166 => ?_)
      · refine pw_return (tk tkX8_readCommand 109 rfl) rfl (by decide) ?_
        have h114 : mTx x.2.1 sp = 114 := by rcases hsg with q | q | q; exact absurd q c103; exact absurd q c166; exact q
        rw [(show rdP (mTx x.2.1) n sp = (false || !b, adv b (sp + 1), 114, dgV (mTx x.2.1) b (sp + 1), 0, 0, 0) from by rw [eb]; exact (if_neg hne).trans ((if_neg c103).trans ((if_neg c166).trans (if_pos h114))))]
        exact ⟨rfl, (sF (pW (sF (sF x 16 (mTx x.2.1 sp)) 14 (nI (sp + 1))) (adv b (sp + 1)) (false || !b)) 17 (dgV (mTx x.2.1) b (sp + 1))), rfl, hf4, rfl, rfl, (fun _ => ⟨h114, rfl⟩), (fun _ q => absurd q (show ¬ (114 : Int32) = 105 by decide)), (fun _ q => absurd q (show ¬ (114 : Int32) = 117 by decide))⟩
      · rw [(show rdP (mTx x.2.1) n sp = rdU (mTx x.2.1) n (dgV (mTx x.2.1) b (sp + 1)) (adv b (sp + 1)) (false || !b) from by rw [eb]; exact (if_neg hne).trans ((if_neg c103).trans (if_pos c166)))]
        exact J169 (sF (pW (sF (sF x 16 (mTx x.2.1 sp)) 14 (nI (sp + 1))) (adv b (sp + 1)) (false || !b)) 17 (dgV (mTx x.2.1) b (sp + 1))) (mTx x.2.1) _ _ _ _ rfl hf4 ha rfl rfl c166 rfl
    · rw [(show rdP (mTx x.2.1) n sp = rdI (mTx x.2.1) n (dgV (mTx x.2.1) b (sp + 1)) (adv b (sp + 1)) (false || !b) from by rw [eb]; exact (if_neg hne).trans (if_pos c103))]
      exact J106 (sF (pW (sF (sF x 16 (mTx x.2.1 sp)) 14 (nI (sp + 1))) (adv b (sp + 1)) (false || !b)) 17 (dgV (mTx x.2.1) b (sp + 1))) (mTx x.2.1) _ _ _ _ rfl hf4 ha rfl rfl c103 rfl
  refine pw_aload_n (tk tkX8_readCommand 0 rfl) rfl ?_
  refine g8_spot (tk tkX8_readCommand 1 rfl) fkX8_148 ?_
  refine pw_aload_n (tk tkX8_readCommand 2 rfl) rfl ?_
  refine g8_length (tk tkX8_readCommand 3 rfl) fkX8_141 ?_
  rw [h14, h8]
  refine pw_icmp_eq (tgt := 53) (tk tkX8_readCommand 4 rfl) (by decide) (fun c8 => ?_) (fun c8 => ?_)
  · refine pw_aload_n (tk tkX8_readCommand 26 rfl) rfl ?_
    refine pw_iconst (v := 1) (tk tkX8_readCommand 27 rfl) (by decide) ?_
    refine p8_isWrong (tk tkX8_readCommand 28 rfl) fkX8_144 ⟨rfl, rfl⟩ ?_
    refine pw_return (tk tkX8_readCommand 29 rfl) rfl (by decide) ?_
    rw [show rdP (mTx x.2.1) n sp = (true, sp, 0, 0, 0, 0, 0) from if_pos c8]
    exact ⟨rfl, sF x 15 1, rfl, (FT.rf x).sf 15 1 (by omega), h14, rfl, (fun q => Bool.noConfusion q), (fun q => Bool.noConfusion q), (fun q => Bool.noConfusion q)⟩
  · have hlt : sp < n := by have : sp ≠ n := fun q => c8 (by rw [q]); omega
    refine pw_aload_n (tk tkX8_readCommand 5 rfl) rfl ?_
    refine g8_text (tk tkX8_readCommand 6 rfl) fkX8_22 ?_
    refine pw_aload_n (tk tkX8_readCommand 7 rfl) rfl ?_
    refine g8_spot (tk tkX8_readCommand 8 rfl) fkX8_148 ?_
    refine al_mtext_e (e := sp) (tk tkX8_readCommand 9 rfl) h14 (by first | decide | omega) ?_
    refine pw_bipush (v := 105) (tk tkX8_readCommand 10 rfl) (by decide) ?_
    refine pw_icmp_eq (tgt := 59) (tk tkX8_readCommand 11 rfl) (by decide) (fun c22 => ?_) (fun c22 => ?_)
    · exact J59 _ c8 hlt (.inl c22)
    · refine pw_aload_n (tk tkX8_readCommand 12 rfl) rfl ?_
      refine g8_text (tk tkX8_readCommand 13 rfl) fkX8_22 ?_
      refine pw_aload_n (tk tkX8_readCommand 14 rfl) rfl ?_
      refine g8_spot (tk tkX8_readCommand 15 rfl) fkX8_148 ?_
      refine al_mtext_e (e := sp) (tk tkX8_readCommand 16 rfl) h14 (by first | decide | omega) ?_
      refine pw_bipush (v := 117) (tk tkX8_readCommand 17 rfl) (by decide) ?_
      refine pw_icmp_eq (tgt := 59) (tk tkX8_readCommand 18 rfl) (by decide) (fun c36 => ?_) (fun c36 => ?_)
      · exact J59 _ c8 hlt (.inr (.inl c36))
      · refine pw_aload_n (tk tkX8_readCommand 19 rfl) rfl ?_
        refine g8_text (tk tkX8_readCommand 20 rfl) fkX8_22 ?_
        refine pw_aload_n (tk tkX8_readCommand 21 rfl) rfl ?_
        refine g8_spot (tk tkX8_readCommand 22 rfl) fkX8_148 ?_
        refine al_mtext_e (e := sp) (tk tkX8_readCommand 23 rfl) h14 (by first | decide | omega) ?_
        refine pw_bipush (v := 114) (tk tkX8_readCommand 24 rfl) (by decide) ?_
        refine pw_icmp_eq (tgt := 59) (tk tkX8_readCommand 25 rfl) (by decide) (fun c50 => ?_) (fun c50 => ?_)
        · exact J59 _ c8 hlt (.inr (.inr c50))
        · refine pw_aload_n (tk tkX8_readCommand 26 rfl) rfl ?_
          refine pw_iconst (v := 1) (tk tkX8_readCommand 27 rfl) (by decide) ?_
          refine p8_isWrong (tk tkX8_readCommand 28 rfl) fkX8_144 ⟨rfl, rfl⟩ ?_
          refine pw_return (tk tkX8_readCommand 29 rfl) rfl (by decide) ?_
          rw [show rdP (mTx x.2.1) n sp = (true, sp, 0, 0, 0, 0, 0) from (if_neg c8).trans ((if_neg c22).trans ((if_neg c36).trans (if_neg c50)))]
          exact ⟨rfl, sF x 15 1, rfl, (FT.rf x).sf 15 1 (by omega), h14, rfl, (fun q => Bool.noConfusion q), (fun q => Bool.noConfusion q), (fun q => Bool.noConfusion q)⟩
