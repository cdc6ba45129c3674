set_option maxRecDepth 100000 in
set_option maxHeartbeats 4000000 in
theorem ct_X5_init (f : FM) : CT MX5_init 3 15 [.ref 161] (some 17, (ud f 161 (.inr (5, dF5)))) (Det (.inl none) (some 32, (ud (blk 1 (ud f 161 (.inr (5, dF5)))) 161 (.inr (5, (stF dF5 0 (.ref 16))))))) := by
  refine ct_of (by decide +kernel) (by decide) rfl (k := 0) (ls := [some (.ref 161)]) rfl (Nat.le_of_ble_eq_true rfl) ?_
  refine pw_aload_n (tk tkX5_init 0 rfl) rfl ?_
  refine pw_objInit (tk tkX5_init 1 rfl) mkX5_3 okObj coObj (by decide) (Nat.le_of_ble_eq_true rfl) ?_
  refine pw_aload_n (tk tkX5_init 2 rfl) rfl ?_
  refine pF_new (k := 16) (z' := 18) dF4 clX4 (tk tkX5_init 3 rfl) (by omega) (by decide +kernel) rfl ckX5_9 itX4 iiX4 dF4_ok (by decide) (by decide) ?_
  refine pw_dup (tk tkX5_init 4 rfl) rfl ?_
  refine pw_cI0 (ct_X4_init 1 (by decide) _ _ (by decide +kernel)) rfl okX4_init rfl rfl (tk tkX5_init 5 rfl) mkX5_11 imX4_init rfl rfl (by decide) (by decide) (Nat.le_of_ble_eq_true rfl) ?_
  refine pF_putF (k := 0) clX5 (tk tkX5_init 6 rfl) rfl (by decide) fkX5_12 rfl rfl rfl (fun _ => ⟨rfl, rfl⟩) ?_
  exact pw_return (tk tkX5_init 7 rfl) rfl (by decide) ⟨rfl, rfl⟩
set_option maxRecDepth 100000 in
set_option maxHeartbeats 4000000 in
theorem ct_X0_init (f : FM) : CT MX0_init 1 1 [.ref 162] (some 33, (ud f 162 (.inr (0, dF0)))) (Det (.inl none) (some 34, (ud (ud (ud f 162 (.inr (0, dF0))) 163 (.inl (.int, 8, fun _ => .int 0))) 162 (.inr (0, (stF dF0 0 (.ref 163))))))) := by
  refine ct_of (by decide +kernel) (by decide) rfl (k := 0) (ls := [some (.ref 162)]) rfl (Nat.le_of_ble_eq_true rfl) ?_
  refine pw_aload_n (tk tkX0_init 0 rfl) rfl ?_
  refine pw_objInit (tk tkX0_init 1 rfl) mkX0_3 okObj coObj (by decide) (Nat.le_of_ble_eq_true rfl) ?_
  refine pw_aload_n (tk tkX0_init 2 rfl) rfl ?_
  refine pw_bipush (v := 8) (tk tkX0_init 3 rfl) (by decide) ?_
  refine pF_newarray (t0 := 0) (k := 163) (z' := 34) (N := 8) (v0 := .int 0) (tk tkX0_init 4 rfl) rfl rfl ra_int (by omega) (by decide +kernel) rfl ac_int (by decide) (by decide) (by decide) (by decide) (fun _ => rfl) (by decide) ?_
  refine pF_putF (k := 0) clX0 (tk tkX0_init 5 rfl) rfl (by decide) fkX0_9 rfl rfl rfl (fun _ => ⟨rfl, rfl⟩) ?_
  exact pw_return (tk tkX0_init 6 rfl) rfl (by decide) ⟨rfl, rfl⟩
set_option maxRecDepth 100000 in
set_option maxHeartbeats 4000000 in
theorem ct_X6_init (f : FM) : CT MX6_init 1 2 [.ref 164] (some 35, (ud f 164 (.inr (6, dF6)))) (Det (.inl none) (some 37, (ud (ud (ud (ud (ud f 164 (.inr (6, dF6))) 165 (.inl (.char, 80, fun _ => .int 0))) 164 (.inr (6, (stF dF6 0 (.ref 165))))) 166 (.inl (.int, 4, fun _ => .int 0))) 164 (.inr (6, (stF (stF dF6 0 (.ref 165)) 4 (.ref 166))))))) := by
  refine ct_of (by decide +kernel) (by decide) rfl (k := 0) (ls := [some (.ref 164)]) rfl (Nat.le_of_ble_eq_true rfl) ?_
  refine pw_aload_n (tk tkX6_init 0 rfl) rfl ?_
  refine pw_objInit (tk tkX6_init 1 rfl) mkX6_3 okObj coObj (by decide) (Nat.le_of_ble_eq_true rfl) ?_
  refine pw_aload_n (tk tkX6_init 2 rfl) rfl ?_
  refine pw_bipush (v := 80) (tk tkX6_init 3 rfl) (by decide) ?_
  refine pF_newarray (t0 := 2) (k := 165) (z' := 36) (N := 80) (v0 := .int 0) (tk tkX6_init 4 rfl) rfl rfl ra_char (by omega) (by decide +kernel) rfl ac_char (by decide) (by decide) (by decide) (by decide) (fun _ => rfl) (by decide) ?_
  refine pF_putF (k := 0) clX6 (tk tkX6_init 5 rfl) rfl (by decide) fkX6_9 rfl rfl rfl (fun _ => ⟨rfl, rfl⟩) ?_
  refine pw_aload_n (tk tkX6_init 6 rfl) rfl ?_
  refine pw_iconst (v := 4) (tk tkX6_init 7 rfl) (by decide) ?_
  refine pF_newarray (t0 := 0) (k := 166) (z' := 37) (N := 4) (v0 := .int 0) (tk tkX6_init 8 rfl) rfl rfl ra_int (by omega) (by decide +kernel) rfl ac_int (by decide) (by decide) (by decide) (by decide) (fun _ => rfl) (by decide) ?_
  refine pF_putF (k := 4) clX6 (tk tkX6_init 9 rfl) rfl (by decide) fkX6_15 rfl rfl rfl (fun _ => ⟨rfl, rfl⟩) ?_
  exact pw_return (tk tkX6_init 10 rfl) rfl (by decide) ⟨rfl, rfl⟩
set_option maxRecDepth 100000 in
set_option maxHeartbeats 4000000 in
theorem ct_X1_init (f : FM) : CT MX1_init 3 91 [.ref 167] (some 38, (ud f 167 (.inr (1, dF1)))) (Det (.inl none) (some 129, (ud (blk 7 (ud (blk 6 (ud (blk 5 (ud (blk 4 (ud (blk 3 (ud (blk 2 (ud (ud (ud f 167 (.inr (1, dF1))) 168 (.inl (.object "RowTriggers$State", 6, fun _ => .null))) 167 (.inr (1, (stF dF1 0 (.ref 168)))))) 168 (.inl (.object "RowTriggers$State", 6, (stF (fun _ => .null) 0 (.ref 32)))))) 168 (.inl (.object "RowTriggers$State", 6, (stF (stF (fun _ => .null) 0 (.ref 32)) 1 (.ref 48)))))) 168 (.inl (.object "RowTriggers$State", 6, (stF (stF (stF (fun _ => .null) 0 (.ref 32)) 1 (.ref 48)) 2 (.ref 64)))))) 168 (.inl (.object "RowTriggers$State", 6, (stF (stF (stF (stF (fun _ => .null) 0 (.ref 32)) 1 (.ref 48)) 2 (.ref 64)) 3 (.ref 80)))))) 168 (.inl (.object "RowTriggers$State", 6, (stF (stF (stF (stF (stF (fun _ => .null) 0 (.ref 32)) 1 (.ref 48)) 2 (.ref 64)) 3 (.ref 80)) 4 (.ref 96)))))) 168 (.inl (.object "RowTriggers$State", 6, (stF (stF (stF (stF (stF (stF (fun _ => .null) 0 (.ref 32)) 1 (.ref 48)) 2 (.ref 64)) 3 (.ref 80)) 4 (.ref 96)) 5 (.ref 112))))))) := by
  refine ct_of (by decide +kernel) (by decide) rfl (k := 1) (ls := [some (.ref 167), none]) rfl (Nat.le_of_ble_eq_true rfl) ?_
  refine pw_aload_n (tk tkX1_init 0 rfl) rfl ?_
  refine pw_objInit (tk tkX1_init 1 rfl) mkX1_3 okObj coObj (by decide) (Nat.le_of_ble_eq_true rfl) ?_
  refine pw_aload_n (tk tkX1_init 2 rfl) rfl ?_
  refine pw_bipush (v := 6) (tk tkX1_init 3 rfl) (by decide) ?_
  refine pF_anewarray (t0 := 5) (k := 168) (z' := 39) (N := 6) (tk tkX1_init 4 rfl) rfl (by omega) (by decide +kernel) rfl ckX1_9 ov_S (by decide) (by decide) (by decide) (by decide) ?_
  refine pF_putF (k := 0) clX1 (tk tkX1_init 5 rfl) rfl (by decide) fkX1_11 rfl rfl rfl (fun _ => ⟨rfl, rfl⟩) ?_
  refine pw_iconst (v := 0) (tk tkX1_init 6 rfl) (by decide) ?_
  refine pw_ist1 (tk tkX1_init 7 rfl) rfl (by decide) ?_
  refine pw_iload_n (tk tkX1_init 8 rfl) rfl ?_
  refine pw_bipush (v := 6) (tk tkX1_init 9 rfl) (by decide) ?_
  refine pw_icmp_ge (tgt := 40) (tk tkX1_init 10 rfl) (by decide) (fun c => absurd c (by decide)) (fun _ => ?_)
  refine pw_aload_n (tk tkX1_init 11 rfl) rfl ?_
  refine pF_get (k := 0) (v := .ref 168) clX1 (tk tkX1_init 12 rfl) rfl (by decide) fkX1_11 rfl ?_
  refine pw_iload_n (tk tkX1_init 13 rfl) rfl ?_
  refine pF_new (k := 32) (z' := 40) dF4 clX4 (tk tkX1_init 14 rfl) (by omega) (by decide +kernel) rfl ckX1_9 itX4 iiX4 dF4_ok (by decide) (by decide) ?_
  refine pw_dup (tk tkX1_init 15 rfl) rfl ?_
  refine pw_cI0 (ct_X4_init 2 (by decide) _ _ (by decide +kernel)) rfl okX4_init rfl rfl (tk tkX1_init 16 rfl) mkX1_17 imX4_init rfl rfl (by decide) (by decide) (Nat.le_of_ble_eq_true rfl) ?_
  refine pF_aast (t0 := 5) (j := 0) (tk tkX1_init 17 rfl) rfl rfl rfl rfl (by unfold vp_in; decide) (by decide) ?_
  refine pw_inc1 (tk tkX1_init 18 rfl) rfl (by decide) (show (0 : Int32) + Int32.ofInt (1) = 1 from by decide) ?_
  refine pw_goto (tgt := 15) (tk tkX1_init 19 rfl) (by decide) ?_
  refine pw_iload_n (tk tkX1_init 8 rfl) rfl ?_
  refine pw_bipush (v := 6) (tk tkX1_init 9 rfl) (by decide) ?_
  refine pw_icmp_ge (tgt := 40) (tk tkX1_init 10 rfl) (by decide) (fun c => absurd c (by decide)) (fun _ => ?_)
  refine pw_aload_n (tk tkX1_init 11 rfl) rfl ?_
  refine pF_get (k := 0) (v := .ref 168) clX1 (tk tkX1_init 12 rfl) rfl (by decide) fkX1_11 rfl ?_
  refine pw_iload_n (tk tkX1_init 13 rfl) rfl ?_
  refine pF_new (k := 48) (z' := 55) dF4 clX4 (tk tkX1_init 14 rfl) (by omega) (by decide +kernel) rfl ckX1_9 itX4 iiX4 dF4_ok (by decide) (by decide) ?_
  refine pw_dup (tk tkX1_init 15 rfl) rfl ?_
  refine pw_cI0 (ct_X4_init 3 (by decide) _ _ (by decide +kernel)) rfl okX4_init rfl rfl (tk tkX1_init 16 rfl) mkX1_17 imX4_init rfl rfl (by decide) (by decide) (Nat.le_of_ble_eq_true rfl) ?_
  refine pF_aast (t0 := 5) (j := 1) (tk tkX1_init 17 rfl) rfl rfl rfl rfl (by unfold vp_in; decide) (by decide) ?_
  refine pw_inc1 (tk tkX1_init 18 rfl) rfl (by decide) (show (1 : Int32) + Int32.ofInt (1) = 2 from by decide) ?_
  refine pw_goto (tgt := 15) (tk tkX1_init 19 rfl) (by decide) ?_
  refine pw_iload_n (tk tkX1_init 8 rfl) rfl ?_
  refine pw_bipush (v := 6) (tk tkX1_init 9 rfl) (by decide) ?_
  refine pw_icmp_ge (tgt := 40) (tk tkX1_init 10 rfl) (by decide) (fun c => absurd c (by decide)) (fun _ => ?_)
  refine pw_aload_n (tk tkX1_init 11 rfl) rfl ?_
  refine pF_get (k := 0) (v := .ref 168) clX1 (tk tkX1_init 12 rfl) rfl (by decide) fkX1_11 rfl ?_
  refine pw_iload_n (tk tkX1_init 13 rfl) rfl ?_
  refine pF_new (k := 64) (z' := 70) dF4 clX4 (tk tkX1_init 14 rfl) (by omega) (by decide +kernel) rfl ckX1_9 itX4 iiX4 dF4_ok (by decide) (by decide) ?_
  refine pw_dup (tk tkX1_init 15 rfl) rfl ?_
  refine pw_cI0 (ct_X4_init 4 (by decide) _ _ (by decide +kernel)) rfl okX4_init rfl rfl (tk tkX1_init 16 rfl) mkX1_17 imX4_init rfl rfl (by decide) (by decide) (Nat.le_of_ble_eq_true rfl) ?_
  refine pF_aast (t0 := 5) (j := 2) (tk tkX1_init 17 rfl) rfl rfl rfl rfl (by unfold vp_in; decide) (by decide) ?_
  refine pw_inc1 (tk tkX1_init 18 rfl) rfl (by decide) (show (2 : Int32) + Int32.ofInt (1) = 3 from by decide) ?_
  refine pw_goto (tgt := 15) (tk tkX1_init 19 rfl) (by decide) ?_
  refine pw_iload_n (tk tkX1_init 8 rfl) rfl ?_
  refine pw_bipush (v := 6) (tk tkX1_init 9 rfl) (by decide) ?_
  refine pw_icmp_ge (tgt := 40) (tk tkX1_init 10 rfl) (by decide) (fun c => absurd c (by decide)) (fun _ => ?_)
  refine pw_aload_n (tk tkX1_init 11 rfl) rfl ?_
  refine pF_get (k := 0) (v := .ref 168) clX1 (tk tkX1_init 12 rfl) rfl (by decide) fkX1_11 rfl ?_
  refine pw_iload_n (tk tkX1_init 13 rfl) rfl ?_
  refine pF_new (k := 80) (z' := 85) dF4 clX4 (tk tkX1_init 14 rfl) (by omega) (by decide +kernel) rfl ckX1_9 itX4 iiX4 dF4_ok (by decide) (by decide) ?_
  refine pw_dup (tk tkX1_init 15 rfl) rfl ?_
  refine pw_cI0 (ct_X4_init 5 (by decide) _ _ (by decide +kernel)) rfl okX4_init rfl rfl (tk tkX1_init 16 rfl) mkX1_17 imX4_init rfl rfl (by decide) (by decide) (Nat.le_of_ble_eq_true rfl) ?_
  refine pF_aast (t0 := 5) (j := 3) (tk tkX1_init 17 rfl) rfl rfl rfl rfl (by unfold vp_in; decide) (by decide) ?_
  refine pw_inc1 (tk tkX1_init 18 rfl) rfl (by decide) (show (3 : Int32) + Int32.ofInt (1) = 4 from by decide) ?_
  refine pw_goto (tgt := 15) (tk tkX1_init 19 rfl) (by decide) ?_
  refine pw_iload_n (tk tkX1_init 8 rfl) rfl ?_
  refine pw_bipush (v := 6) (tk tkX1_init 9 rfl) (by decide) ?_
  refine pw_icmp_ge (tgt := 40) (tk tkX1_init 10 rfl) (by decide) (fun c => absurd c (by decide)) (fun _ => ?_)
  refine pw_aload_n (tk tkX1_init 11 rfl) rfl ?_
  refine pF_get (k := 0) (v := .ref 168) clX1 (tk tkX1_init 12 rfl) rfl (by decide) fkX1_11 rfl ?_
  refine pw_iload_n (tk tkX1_init 13 rfl) rfl ?_
  refine pF_new (k := 96) (z' := 100) dF4 clX4 (tk tkX1_init 14 rfl) (by omega) (by decide +kernel) rfl ckX1_9 itX4 iiX4 dF4_ok (by decide) (by decide) ?_
  refine pw_dup (tk tkX1_init 15 rfl) rfl ?_
  refine pw_cI0 (ct_X4_init 6 (by decide) _ _ (by decide +kernel)) rfl okX4_init rfl rfl (tk tkX1_init 16 rfl) mkX1_17 imX4_init rfl rfl (by decide) (by decide) (Nat.le_of_ble_eq_true rfl) ?_
  refine pF_aast (t0 := 5) (j := 4) (tk tkX1_init 17 rfl) rfl rfl rfl rfl (by unfold vp_in; decide) (by decide) ?_
  refine pw_inc1 (tk tkX1_init 18 rfl) rfl (by decide) (show (4 : Int32) + Int32.ofInt (1) = 5 from by decide) ?_
  refine pw_goto (tgt := 15) (tk tkX1_init 19 rfl) (by decide) ?_
  refine pw_iload_n (tk tkX1_init 8 rfl) rfl ?_
  refine pw_bipush (v := 6) (tk tkX1_init 9 rfl) (by decide) ?_
  refine pw_icmp_ge (tgt := 40) (tk tkX1_init 10 rfl) (by decide) (fun c => absurd c (by decide)) (fun _ => ?_)
  refine pw_aload_n (tk tkX1_init 11 rfl) rfl ?_
  refine pF_get (k := 0) (v := .ref 168) clX1 (tk tkX1_init 12 rfl) rfl (by decide) fkX1_11 rfl ?_
  refine pw_iload_n (tk tkX1_init 13 rfl) rfl ?_
  refine pF_new (k := 112) (z' := 115) dF4 clX4 (tk tkX1_init 14 rfl) (by omega) (by decide +kernel) rfl ckX1_9 itX4 iiX4 dF4_ok (by decide) (by decide) ?_
  refine pw_dup (tk tkX1_init 15 rfl) rfl ?_
  refine pw_cI0 (ct_X4_init 7 (by decide) _ _ (by decide +kernel)) rfl okX4_init rfl rfl (tk tkX1_init 16 rfl) mkX1_17 imX4_init rfl rfl (by decide) (by decide) (Nat.le_of_ble_eq_true rfl) ?_
  refine pF_aast (t0 := 5) (j := 5) (tk tkX1_init 17 rfl) rfl rfl rfl rfl (by unfold vp_in; decide) (by decide) ?_
  refine pw_inc1 (tk tkX1_init 18 rfl) rfl (by decide) (show (5 : Int32) + Int32.ofInt (1) = 6 from by decide) ?_
  refine pw_goto (tgt := 15) (tk tkX1_init 19 rfl) (by decide) ?_
  refine pw_iload_n (tk tkX1_init 8 rfl) rfl ?_
  refine pw_bipush (v := 6) (tk tkX1_init 9 rfl) (by decide) ?_
  refine pw_icmp_ge (tgt := 40) (tk tkX1_init 10 rfl) (by decide) (fun _ => ?_) (fun c => absurd (show (6 : Int32) ≥ 6 by decide) c)
  exact pw_return (tk tkX1_init 20 rfl) rfl (by decide) ⟨rfl, rfl⟩
/-- the class at the start -/
def w0 : CW := (fun _ => σ0, fun _ => 0, fun _ => 0, fun _ => 0, fun _ => 0, fun _ => 0, fun _ => 0, fun _ => 0)
/-- the world at the start -/
def x0 : XW := (w0, w0, fun _ => 0)
theorem ud_o {f : FM} {a k : Nat} {c : Cel} (h : ¬ k = a) : ud f a c k = f k := if_neg h
theorem blk_o {f : FM} {b k : Nat} (h : ¬ (16 * b ≤ k ∧ k < 16 * b + 15)) : blk b f k = f k := if_neg h
def f7 (f : FM) : FM := fun k => if k < 171 then clw w0 k else f k
theorem f7_weak {g f : FM} (h : ∀ b, b < 10 → ∀ o, o < 15 → ∃ c c', g (16 * b + o) = some c ∧ stc b o σ0 = some c' ∧ cEq c c') (ho : ∀ o, o < 11 → ∃ c c', g (160 + o) = some c ∧ ocw o w0 = some c' ∧ cEq c c') (hf : ∀ k, 171 ≤ k → g k = f k) {k : Nat} {c' : Cel} (hk : f7 f k = some c') : ∃ c, g k = some c ∧ cEq c c' := by
  unfold f7 at hk
  by_cases e : k < 171
  · rw [if_pos e] at hk
    by_cases e2 : k < 160
    · have ek : k = 16 * (k / 16) + k % 16 := by omega
      have hs : clw w0 k = stc (k / 16) (k % 16) σ0 := if_pos e2
      rw [hs] at hk
      by_cases e3 : k % 16 < 15
      · obtain ⟨c, c9, h1, h2, h3⟩ := h (k / 16) (by omega) (k % 16) e3
        have hk2 : stc (k / 16) (k % 16) σ0 = some c' := hk
        rw [h2] at hk2
        cases hk2
        rw [← ek] at h1
        exact ⟨c, h1, h3⟩
      · rw [show k % 16 = 15 by omega] at hk
        cases hk
    · have hs : clw w0 k = ocw (k - 160) w0 := if_neg e2
      rw [hs] at hk
      obtain ⟨c, c9, h1, h2, h3⟩ := ho (k - 160) (by omega)
      rw [show 160 + (k - 160) = k by omega] at h1
      rw [h2] at hk
      cases hk
      exact ⟨c, h1, h3⟩
  · rw [if_neg e] at hk
    exact ⟨c', (hf k (by omega)).trans hk, cEq.rf c'⟩
set_option maxRecDepth 100000 in
set_option maxHeartbeats 4000000 in
theorem ct_X7_init (f : FM) : CT MX7_init 4 160 [.ref 160] (some 1, (ud f 160 (.inr (7, dF7)))) (Det (.inl none) (some 161, f7 f)) := by
  refine ct_of (by decide +kernel) (by decide) rfl (k := 1) (ls := [some (.ref 160), none]) rfl (Nat.le_of_ble_eq_true rfl) ?_
  refine pw_aload_n (tk tkX7_init 0 rfl) rfl ?_
  refine pw_objInit (tk tkX7_init 1 rfl) mkX7_1 okObj coObj (by decide) (Nat.le_of_ble_eq_true rfl) ?_
  refine pw_aload_n (tk tkX7_init 2 rfl) rfl ?_
  refine pF_new (k := 0) (z' := 2) dF4 clX4 (tk tkX7_init 3 rfl) (by omega) (by decide +kernel) rfl ckX7_7 itX4 iiX4 dF4_ok (by decide) (by decide) ?_
  refine pw_dup (tk tkX7_init 4 rfl) rfl ?_
  refine pw_cI0 (ct_X4_init 0 (by decide) _ _ (by decide +kernel)) rfl okX4_init rfl rfl (tk tkX7_init 5 rfl) mkX7_9 imX4_init rfl rfl (by decide) (by decide) (Nat.le_of_ble_eq_true rfl) ?_
  refine pF_putF (k := 0) clX7 (tk tkX7_init 6 rfl) rfl (by decide) fkX7_10 rfl rfl rfl (fun _ => ⟨rfl, rfl⟩) ?_
  refine pw_aload_n (tk tkX7_init 7 rfl) rfl ?_
  refine pF_new (k := 161) (z' := 17) dF5 clX5 (tk tkX7_init 8 rfl) (by omega) (by decide +kernel) rfl ckX7_16 itX5 iiX5 dF5_ok (by decide) (by decide) ?_
  refine pw_dup (tk tkX7_init 9 rfl) rfl ?_
  refine pw_cIN0 (ct_X5_init _) rfl okX5_init rfl rfl (tk tkX7_init 10 rfl) mkX7_18 imX5_init rfl rfl (by decide) (by decide) (Nat.le_of_ble_eq_true rfl) ?_
  refine pF_putF (k := 1) clX7 (tk tkX7_init 11 rfl) rfl (by decide) fkX7_19 rfl rfl rfl (fun _ => ⟨rfl, rfl⟩) ?_
  refine pw_aload_n (tk tkX7_init 12 rfl) rfl ?_
  refine pF_new (k := 162) (z' := 33) dF0 clX0 (tk tkX7_init 13 rfl) (by omega) (by decide +kernel) rfl ckX7_23 itX0 iiX0 dF0_ok (by decide) (by decide) ?_
  refine pw_dup (tk tkX7_init 14 rfl) rfl ?_
  refine pw_cIN0 (ct_X0_init _) rfl okX0_init rfl rfl (tk tkX7_init 15 rfl) mkX7_25 imX0_init rfl rfl (by decide) (by decide) (Nat.le_of_ble_eq_true rfl) ?_
  refine pF_putF (k := 2) clX7 (tk tkX7_init 16 rfl) rfl (by decide) fkX7_26 rfl rfl rfl (fun _ => ⟨rfl, rfl⟩) ?_
  refine pw_aload_n (tk tkX7_init 17 rfl) rfl ?_
  refine pF_new (k := 164) (z' := 35) dF6 clX6 (tk tkX7_init 18 rfl) (by omega) (by decide +kernel) rfl ckX7_30 itX6 iiX6 dF6_ok (by decide) (by decide) ?_
  refine pw_dup (tk tkX7_init 19 rfl) rfl ?_
  refine pw_cIN0 (ct_X6_init _) rfl okX6_init rfl rfl (tk tkX7_init 20 rfl) mkX7_32 imX6_init rfl rfl (by decide) (by decide) (Nat.le_of_ble_eq_true rfl) ?_
  refine pF_putF (k := 3) clX7 (tk tkX7_init 21 rfl) rfl (by decide) fkX7_33 rfl rfl rfl (fun _ => ⟨rfl, rfl⟩) ?_
  refine pw_aload_n (tk tkX7_init 22 rfl) rfl ?_
  refine pF_new (k := 167) (z' := 38) dF1 clX1 (tk tkX7_init 23 rfl) (by omega) (by decide +kernel) rfl ckX7_37 itX1 iiX1 dF1_ok (by decide) (by decide) ?_
  refine pw_dup (tk tkX7_init 24 rfl) rfl ?_
  refine pw_cI0 (ct_X1_init _) rfl okX1_init rfl rfl (tk tkX7_init 25 rfl) mkX7_39 imX1_init rfl rfl (by decide) (by decide) (Nat.le_of_ble_eq_true rfl) ?_
  refine pF_putF (k := 4) clX7 (tk tkX7_init 26 rfl) rfl (by decide) fkX7_40 rfl rfl rfl (fun _ => ⟨rfl, rfl⟩) ?_
  refine pw_aload_n (tk tkX7_init 27 rfl) rfl ?_
  refine pw_iconst (v := 2) (tk tkX7_init 28 rfl) (by decide) ?_
  refine pF_anewarray (t0 := 5) (k := 169) (z' := 130) (N := 2) (tk tkX7_init 29 rfl) rfl (by omega) (by decide +kernel) rfl ckX7_7 ov_S (by decide) (by decide) (by decide) (by decide) ?_
  refine pF_putF (k := 5) clX7 (tk tkX7_init 30 rfl) rfl (by decide) fkX7_44 rfl rfl rfl (fun _ => ⟨rfl, rfl⟩) ?_
  refine pw_aload_n (tk tkX7_init 31 rfl) rfl ?_
  refine pw_iconst (v := 2) (tk tkX7_init 32 rfl) (by decide) ?_
  refine pF_newarray (t0 := 1) (k := 170) (z' := 131) (N := 2) (v0 := .int 0) (tk tkX7_init 33 rfl) rfl rfl ra_boolean (by omega) (by decide +kernel) rfl ac_boolean (by decide) (by decide) (by decide) (by decide) (fun _ => rfl) (by decide) ?_
  refine pF_putF (k := 6) clX7 (tk tkX7_init 34 rfl) rfl (by decide) fkX7_48 rfl rfl rfl (fun _ => ⟨rfl, rfl⟩) ?_
  refine pw_iconst (v := 0) (tk tkX7_init 35 rfl) (by decide) ?_
  refine pw_ist1 (tk tkX7_init 36 rfl) rfl (by decide) ?_
  refine pw_iload_n (tk tkX7_init 37 rfl) rfl ?_
  refine pw_iconst (v := 2) (tk tkX7_init 38 rfl) (by decide) ?_
  refine pw_icmp_ge (tgt := 100) (tk tkX7_init 39 rfl) (by decide) (fun c => absurd c (by decide)) (fun _ => ?_)
  refine pw_aload_n (tk tkX7_init 40 rfl) rfl ?_
  refine pF_get (k := 5) (v := .ref 169) clX7 (tk tkX7_init 41 rfl) rfl (by decide) fkX7_44 rfl ?_
  refine pw_iload_n (tk tkX7_init 42 rfl) rfl ?_
  refine pF_new (k := 128) (z' := 132) dF4 clX4 (tk tkX7_init 43 rfl) (by omega) (by decide +kernel) rfl ckX7_7 itX4 iiX4 dF4_ok (by decide) (by decide) ?_
  refine pw_dup (tk tkX7_init 44 rfl) rfl ?_
  refine pw_cI0 (ct_X4_init 8 (by decide) _ _ (by decide +kernel)) rfl okX4_init rfl rfl (tk tkX7_init 45 rfl) mkX7_9 imX4_init rfl rfl (by decide) (by decide) (Nat.le_of_ble_eq_true rfl) ?_
  refine pF_aast (t0 := 5) (j := 0) (tk tkX7_init 46 rfl) rfl rfl rfl rfl (by unfold vp_in; decide) (by decide) ?_
  refine pw_inc1 (tk tkX7_init 47 rfl) rfl (by decide) (show (0 : Int32) + Int32.ofInt (1) = 1 from by decide) ?_
  refine pw_goto (tgt := 76) (tk tkX7_init 48 rfl) (by decide) ?_
  refine pw_iload_n (tk tkX7_init 37 rfl) rfl ?_
  refine pw_iconst (v := 2) (tk tkX7_init 38 rfl) (by decide) ?_
  refine pw_icmp_ge (tgt := 100) (tk tkX7_init 39 rfl) (by decide) (fun c => absurd c (by decide)) (fun _ => ?_)
  refine pw_aload_n (tk tkX7_init 40 rfl) rfl ?_
  refine pF_get (k := 5) (v := .ref 169) clX7 (tk tkX7_init 41 rfl) rfl (by decide) fkX7_44 rfl ?_
  refine pw_iload_n (tk tkX7_init 42 rfl) rfl ?_
  refine pF_new (k := 144) (z' := 147) dF4 clX4 (tk tkX7_init 43 rfl) (by omega) (by decide +kernel) rfl ckX7_7 itX4 iiX4 dF4_ok (by decide) (by decide) ?_
  refine pw_dup (tk tkX7_init 44 rfl) rfl ?_
  refine pw_cI0 (ct_X4_init 9 (by decide) _ _ (by decide +kernel)) rfl okX4_init rfl rfl (tk tkX7_init 45 rfl) mkX7_9 imX4_init rfl rfl (by decide) (by decide) (Nat.le_of_ble_eq_true rfl) ?_
  refine pF_aast (t0 := 5) (j := 1) (tk tkX7_init 46 rfl) rfl rfl rfl rfl (by unfold vp_in; decide) (by decide) ?_
  refine pw_inc1 (tk tkX7_init 47 rfl) rfl (by decide) (show (1 : Int32) + Int32.ofInt (1) = 2 from by decide) ?_
  refine pw_goto (tgt := 76) (tk tkX7_init 48 rfl) (by decide) ?_
  refine pw_iload_n (tk tkX7_init 37 rfl) rfl ?_
  refine pw_iconst (v := 2) (tk tkX7_init 38 rfl) (by decide) ?_
  refine pw_icmp_ge (tgt := 100) (tk tkX7_init 39 rfl) (by decide) (fun _ => ?_) (fun c => absurd (show (2 : Int32) ≥ 2 by decide) c)
  refine pw_weak (h' := (some 161, f7 f)) (Or.inr rfl) (fun k c' hk => ?_) ?_
  · refine f7_weak (fun b hb o ho => ?_) (fun o ho => ?_) (fun k hk => ?_) hk
    · match b, hb with
      | 0, _ => exact match o, ho with
        | 0, _ => ⟨_, _, rfl, rfl, cEq.rf _⟩
        | 1, _ => ⟨_, _, rfl, rfl, cEq.rf _⟩
        | 2, _ => ⟨_, _, rfl, rfl, cEq.rf _⟩
        | 3, _ => ⟨_, _, rfl, rfl, cEq.rf _⟩
        | 4, _ => ⟨_, _, rfl, rfl, cEq.rf _⟩
        | 5, _ => ⟨_, _, rfl, rfl, cEq.rf _⟩
        | 6, _ => ⟨_, _, rfl, rfl, cEq.rf _⟩
        | 7, _ => ⟨_, _, rfl, rfl, cEq.rf _⟩
        | 8, _ => ⟨_, _, rfl, rfl, cEq.rf _⟩
        | 9, _ => ⟨_, _, rfl, rfl, cEq.rf _⟩
        | 10, _ => ⟨_, _, rfl, rfl, cEq.rf _⟩
        | 11, _ => ⟨_, _, rfl, rfl, cEq.rf _⟩
        | 12, _ => ⟨_, _, rfl, rfl, cEq.rf _⟩
        | 13, _ => ⟨_, _, rfl, rfl, cEq.rf _⟩
        | 14, _ => ⟨_, _, rfl, rfl, cEq.rf _⟩
        | k + 15, h => absurd h (by omega)
      | 1, _ => exact match o, ho with
        | 0, _ => ⟨_, _, rfl, rfl, cEq.rf _⟩
        | 1, _ => ⟨_, _, rfl, rfl, cEq.rf _⟩
        | 2, _ => ⟨_, _, rfl, rfl, cEq.rf _⟩
        | 3, _ => ⟨_, _, rfl, rfl, cEq.rf _⟩
        | 4, _ => ⟨_, _, rfl, rfl, cEq.rf _⟩
        | 5, _ => ⟨_, _, rfl, rfl, cEq.rf _⟩
        | 6, _ => ⟨_, _, rfl, rfl, cEq.rf _⟩
        | 7, _ => ⟨_, _, rfl, rfl, cEq.rf _⟩
        | 8, _ => ⟨_, _, rfl, rfl, cEq.rf _⟩
        | 9, _ => ⟨_, _, rfl, rfl, cEq.rf _⟩
        | 10, _ => ⟨_, _, rfl, rfl, cEq.rf _⟩
        | 11, _ => ⟨_, _, rfl, rfl, cEq.rf _⟩
        | 12, _ => ⟨_, _, rfl, rfl, cEq.rf _⟩
        | 13, _ => ⟨_, _, rfl, rfl, cEq.rf _⟩
        | 14, _ => ⟨_, _, rfl, rfl, cEq.rf _⟩
        | k + 15, h => absurd h (by omega)
      | 2, _ => exact match o, ho with
        | 0, _ => ⟨_, _, rfl, rfl, cEq.rf _⟩
        | 1, _ => ⟨_, _, rfl, rfl, cEq.rf _⟩
        | 2, _ => ⟨_, _, rfl, rfl, cEq.rf _⟩
        | 3, _ => ⟨_, _, rfl, rfl, cEq.rf _⟩
        | 4, _ => ⟨_, _, rfl, rfl, cEq.rf _⟩
        | 5, _ => ⟨_, _, rfl, rfl, cEq.rf _⟩
        | 6, _ => ⟨_, _, rfl, rfl, cEq.rf _⟩
        | 7, _ => ⟨_, _, rfl, rfl, cEq.rf _⟩
        | 8, _ => ⟨_, _, rfl, rfl, cEq.rf _⟩
        | 9, _ => ⟨_, _, rfl, rfl, cEq.rf _⟩
        | 10, _ => ⟨_, _, rfl, rfl, cEq.rf _⟩
        | 11, _ => ⟨_, _, rfl, rfl, cEq.rf _⟩
        | 12, _ => ⟨_, _, rfl, rfl, cEq.rf _⟩
        | 13, _ => ⟨_, _, rfl, rfl, cEq.rf _⟩
        | 14, _ => ⟨_, _, rfl, rfl, cEq.rf _⟩
        | k + 15, h => absurd h (by omega)
      | 3, _ => exact match o, ho with
        | 0, _ => ⟨_, _, rfl, rfl, cEq.rf _⟩
        | 1, _ => ⟨_, _, rfl, rfl, cEq.rf _⟩
        | 2, _ => ⟨_, _, rfl, rfl, cEq.rf _⟩
        | 3, _ => ⟨_, _, rfl, rfl, cEq.rf _⟩
        | 4, _ => ⟨_, _, rfl, rfl, cEq.rf _⟩
        | 5, _ => ⟨_, _, rfl, rfl, cEq.rf _⟩
        | 6, _ => ⟨_, _, rfl, rfl, cEq.rf _⟩
        | 7, _ => ⟨_, _, rfl, rfl, cEq.rf _⟩
        | 8, _ => ⟨_, _, rfl, rfl, cEq.rf _⟩
        | 9, _ => ⟨_, _, rfl, rfl, cEq.rf _⟩
        | 10, _ => ⟨_, _, rfl, rfl, cEq.rf _⟩
        | 11, _ => ⟨_, _, rfl, rfl, cEq.rf _⟩
        | 12, _ => ⟨_, _, rfl, rfl, cEq.rf _⟩
        | 13, _ => ⟨_, _, rfl, rfl, cEq.rf _⟩
        | 14, _ => ⟨_, _, rfl, rfl, cEq.rf _⟩
        | k + 15, h => absurd h (by omega)
      | 4, _ => exact match o, ho with
        | 0, _ => ⟨_, _, rfl, rfl, cEq.rf _⟩
        | 1, _ => ⟨_, _, rfl, rfl, cEq.rf _⟩
        | 2, _ => ⟨_, _, rfl, rfl, cEq.rf _⟩
        | 3, _ => ⟨_, _, rfl, rfl, cEq.rf _⟩
        | 4, _ => ⟨_, _, rfl, rfl, cEq.rf _⟩
        | 5, _ => ⟨_, _, rfl, rfl, cEq.rf _⟩
        | 6, _ => ⟨_, _, rfl, rfl, cEq.rf _⟩
        | 7, _ => ⟨_, _, rfl, rfl, cEq.rf _⟩
        | 8, _ => ⟨_, _, rfl, rfl, cEq.rf _⟩
        | 9, _ => ⟨_, _, rfl, rfl, cEq.rf _⟩
        | 10, _ => ⟨_, _, rfl, rfl, cEq.rf _⟩
        | 11, _ => ⟨_, _, rfl, rfl, cEq.rf _⟩
        | 12, _ => ⟨_, _, rfl, rfl, cEq.rf _⟩
        | 13, _ => ⟨_, _, rfl, rfl, cEq.rf _⟩
        | 14, _ => ⟨_, _, rfl, rfl, cEq.rf _⟩
        | k + 15, h => absurd h (by omega)
      | 5, _ => exact match o, ho with
        | 0, _ => ⟨_, _, rfl, rfl, cEq.rf _⟩
        | 1, _ => ⟨_, _, rfl, rfl, cEq.rf _⟩
        | 2, _ => ⟨_, _, rfl, rfl, cEq.rf _⟩
        | 3, _ => ⟨_, _, rfl, rfl, cEq.rf _⟩
        | 4, _ => ⟨_, _, rfl, rfl, cEq.rf _⟩
        | 5, _ => ⟨_, _, rfl, rfl, cEq.rf _⟩
        | 6, _ => ⟨_, _, rfl, rfl, cEq.rf _⟩
        | 7, _ => ⟨_, _, rfl, rfl, cEq.rf _⟩
        | 8, _ => ⟨_, _, rfl, rfl, cEq.rf _⟩
        | 9, _ => ⟨_, _, rfl, rfl, cEq.rf _⟩
        | 10, _ => ⟨_, _, rfl, rfl, cEq.rf _⟩
        | 11, _ => ⟨_, _, rfl, rfl, cEq.rf _⟩
        | 12, _ => ⟨_, _, rfl, rfl, cEq.rf _⟩
        | 13, _ => ⟨_, _, rfl, rfl, cEq.rf _⟩
        | 14, _ => ⟨_, _, rfl, rfl, cEq.rf _⟩
        | k + 15, h => absurd h (by omega)
      | 6, _ => exact match o, ho with
        | 0, _ => ⟨_, _, rfl, rfl, cEq.rf _⟩
        | 1, _ => ⟨_, _, rfl, rfl, cEq.rf _⟩
        | 2, _ => ⟨_, _, rfl, rfl, cEq.rf _⟩
        | 3, _ => ⟨_, _, rfl, rfl, cEq.rf _⟩
        | 4, _ => ⟨_, _, rfl, rfl, cEq.rf _⟩
        | 5, _ => ⟨_, _, rfl, rfl, cEq.rf _⟩
        | 6, _ => ⟨_, _, rfl, rfl, cEq.rf _⟩
        | 7, _ => ⟨_, _, rfl, rfl, cEq.rf _⟩
        | 8, _ => ⟨_, _, rfl, rfl, cEq.rf _⟩
        | 9, _ => ⟨_, _, rfl, rfl, cEq.rf _⟩
        | 10, _ => ⟨_, _, rfl, rfl, cEq.rf _⟩
        | 11, _ => ⟨_, _, rfl, rfl, cEq.rf _⟩
        | 12, _ => ⟨_, _, rfl, rfl, cEq.rf _⟩
        | 13, _ => ⟨_, _, rfl, rfl, cEq.rf _⟩
        | 14, _ => ⟨_, _, rfl, rfl, cEq.rf _⟩
        | k + 15, h => absurd h (by omega)
      | 7, _ => exact match o, ho with
        | 0, _ => ⟨_, _, rfl, rfl, cEq.rf _⟩
        | 1, _ => ⟨_, _, rfl, rfl, cEq.rf _⟩
        | 2, _ => ⟨_, _, rfl, rfl, cEq.rf _⟩
        | 3, _ => ⟨_, _, rfl, rfl, cEq.rf _⟩
        | 4, _ => ⟨_, _, rfl, rfl, cEq.rf _⟩
        | 5, _ => ⟨_, _, rfl, rfl, cEq.rf _⟩
        | 6, _ => ⟨_, _, rfl, rfl, cEq.rf _⟩
        | 7, _ => ⟨_, _, rfl, rfl, cEq.rf _⟩
        | 8, _ => ⟨_, _, rfl, rfl, cEq.rf _⟩
        | 9, _ => ⟨_, _, rfl, rfl, cEq.rf _⟩
        | 10, _ => ⟨_, _, rfl, rfl, cEq.rf _⟩
        | 11, _ => ⟨_, _, rfl, rfl, cEq.rf _⟩
        | 12, _ => ⟨_, _, rfl, rfl, cEq.rf _⟩
        | 13, _ => ⟨_, _, rfl, rfl, cEq.rf _⟩
        | 14, _ => ⟨_, _, rfl, rfl, cEq.rf _⟩
        | k + 15, h => absurd h (by omega)
      | 8, _ => exact match o, ho with
        | 0, _ => ⟨_, _, rfl, rfl, cEq.rf _⟩
        | 1, _ => ⟨_, _, rfl, rfl, cEq.rf _⟩
        | 2, _ => ⟨_, _, rfl, rfl, cEq.rf _⟩
        | 3, _ => ⟨_, _, rfl, rfl, cEq.rf _⟩
        | 4, _ => ⟨_, _, rfl, rfl, cEq.rf _⟩
        | 5, _ => ⟨_, _, rfl, rfl, cEq.rf _⟩
        | 6, _ => ⟨_, _, rfl, rfl, cEq.rf _⟩
        | 7, _ => ⟨_, _, rfl, rfl, cEq.rf _⟩
        | 8, _ => ⟨_, _, rfl, rfl, cEq.rf _⟩
        | 9, _ => ⟨_, _, rfl, rfl, cEq.rf _⟩
        | 10, _ => ⟨_, _, rfl, rfl, cEq.rf _⟩
        | 11, _ => ⟨_, _, rfl, rfl, cEq.rf _⟩
        | 12, _ => ⟨_, _, rfl, rfl, cEq.rf _⟩
        | 13, _ => ⟨_, _, rfl, rfl, cEq.rf _⟩
        | 14, _ => ⟨_, _, rfl, rfl, cEq.rf _⟩
        | k + 15, h => absurd h (by omega)
      | 9, _ => exact match o, ho with
        | 0, _ => ⟨_, _, rfl, rfl, cEq.rf _⟩
        | 1, _ => ⟨_, _, rfl, rfl, cEq.rf _⟩
        | 2, _ => ⟨_, _, rfl, rfl, cEq.rf _⟩
        | 3, _ => ⟨_, _, rfl, rfl, cEq.rf _⟩
        | 4, _ => ⟨_, _, rfl, rfl, cEq.rf _⟩
        | 5, _ => ⟨_, _, rfl, rfl, cEq.rf _⟩
        | 6, _ => ⟨_, _, rfl, rfl, cEq.rf _⟩
        | 7, _ => ⟨_, _, rfl, rfl, cEq.rf _⟩
        | 8, _ => ⟨_, _, rfl, rfl, cEq.rf _⟩
        | 9, _ => ⟨_, _, rfl, rfl, cEq.rf _⟩
        | 10, _ => ⟨_, _, rfl, rfl, cEq.rf _⟩
        | 11, _ => ⟨_, _, rfl, rfl, cEq.rf _⟩
        | 12, _ => ⟨_, _, rfl, rfl, cEq.rf _⟩
        | 13, _ => ⟨_, _, rfl, rfl, cEq.rf _⟩
        | 14, _ => ⟨_, _, rfl, rfl, cEq.rf _⟩
        | k + 15, h => absurd h (by omega)
      | b + 10, h => exact absurd h (by omega)
    · exact match o, ho with
        | 0, _ => ⟨_, _, rfl, rfl, cq_o clX7 (fun k hk => match k, hk with
          | 0, _ => rfl
          | 1, _ => rfl
          | 2, _ => rfl
          | 3, _ => rfl
          | 4, _ => rfl
          | 5, _ => rfl
          | 6, _ => rfl
          | k + 7, h => absurd h (by omega))⟩
        | 1, _ => ⟨_, _, rfl, rfl, cq_o clX5 (fun k hk => match k, hk with
          | 0, _ => rfl
          | 1, _ => rfl
          | 2, _ => rfl
          | 3, _ => rfl
          | k + 4, h => absurd h (by omega))⟩
        | 2, _ => ⟨_, _, rfl, rfl, cq_o clX0 (fun k hk => match k, hk with
          | 0, _ => rfl
          | k + 1, h => absurd h (by omega))⟩
        | 3, _ => ⟨_, _, rfl, rfl, cq_a (fun _ _ => rfl)⟩
        | 4, _ => ⟨_, _, rfl, rfl, cq_o clX6 (fun k hk => match k, hk with
          | 0, _ => rfl
          | 1, _ => rfl
          | 2, _ => rfl
          | 3, _ => rfl
          | 4, _ => rfl
          | k + 5, h => absurd h (by omega))⟩
        | 5, _ => ⟨_, _, rfl, rfl, cq_a (fun _ _ => rfl)⟩
        | 6, _ => ⟨_, _, rfl, rfl, cq_a (fun _ _ => rfl)⟩
        | 7, _ => ⟨_, _, rfl, rfl, cq_o clX1 (fun k hk => match k, hk with
          | 0, _ => rfl
          | 1, _ => rfl
          | 2, _ => rfl
          | k + 3, h => absurd h (by omega))⟩
        | 8, _ => ⟨_, _, rfl, rfl, cq_a (fun k hk => match k, hk with
          | 0, _ => rfl
          | 1, _ => rfl
          | 2, _ => rfl
          | 3, _ => rfl
          | 4, _ => rfl
          | 5, _ => rfl
          | k + 6, h => absurd h (by omega))⟩
        | 9, _ => ⟨_, _, rfl, rfl, cq_a (fun k hk => match k, hk with
          | 0, _ => rfl
          | 1, _ => rfl
          | k + 2, h => absurd h (by omega))⟩
        | 10, _ => ⟨_, _, rfl, rfl, cq_a (fun _ _ => rfl)⟩
        | o + 11, h => absurd h (by omega)
    · refine (ud_o (by omega)).trans ?_
      refine (blk_o (by omega)).trans ?_
      refine (ud_o (by omega)).trans ?_
      refine (blk_o (by omega)).trans ?_
      refine (ud_o (by omega)).trans ?_
      refine (ud_o (by omega)).trans ?_
      refine (ud_o (by omega)).trans ?_
      refine (ud_o (by omega)).trans ?_
      refine (ud_o (by omega)).trans ?_
      refine (ud_o (by omega)).trans ?_
      refine (blk_o (by omega)).trans ?_
      refine (ud_o (by omega)).trans ?_
      refine (blk_o (by omega)).trans ?_
      refine (ud_o (by omega)).trans ?_
      refine (blk_o (by omega)).trans ?_
      refine (ud_o (by omega)).trans ?_
      refine (blk_o (by omega)).trans ?_
      refine (ud_o (by omega)).trans ?_
      refine (blk_o (by omega)).trans ?_
      refine (ud_o (by omega)).trans ?_
      refine (blk_o (by omega)).trans ?_
      refine (ud_o (by omega)).trans ?_
      refine (ud_o (by omega)).trans ?_
      refine (ud_o (by omega)).trans ?_
      refine (ud_o (by omega)).trans ?_
      refine (ud_o (by omega)).trans ?_
      refine (ud_o (by omega)).trans ?_
      refine (ud_o (by omega)).trans ?_
      refine (ud_o (by omega)).trans ?_
      refine (ud_o (by omega)).trans ?_
      refine (ud_o (by omega)).trans ?_
      refine (ud_o (by omega)).trans ?_
      refine (ud_o (by omega)).trans ?_
      refine (ud_o (by omega)).trans ?_
      refine (ud_o (by omega)).trans ?_
      refine (ud_o (by omega)).trans ?_
      refine (blk_o (by omega)).trans ?_
      refine (ud_o (by omega)).trans ?_
      refine (ud_o (by omega)).trans ?_
      refine (blk_o (by omega)).trans ?_
      refine (ud_o (by omega)).trans ?_
      rfl
  exact pw_return (tk tkX7_init 49 rfl) rfl (by decide) ⟨rfl, rfl⟩
