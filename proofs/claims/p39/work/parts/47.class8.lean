theorem RS1.val {σ : SS} {s : Nat → Int32} {e : Int32} (h : RS1 σ s e) {k : Nat} (v : Int32) (hk : k < 18) : RS1 (uS2 σ (upd (sVa σ) k v)) (upd s (6 + k) v) e := by
  obtain ⟨a, b, c, d, f, g, l, l1, l2⟩ := h
  have nt : ∀ j, j ≠ 6 + k → upd s (6 + k) v j = s j := fun j hj => upd_nt _ _ hj
  refine ⟨fun j hj => by rw [nt _ (by omega)]; exact a j hj, fun j hj => ?_, by rw [nt _ (by omega)]; exact c, by rw [nt _ (by omega)]; exact d, f, fun i k2 hi hk2 => ?_, l, l1, l2.1, by rw [nt _ (by omega)]; exact l2.2.1, fun j p hj => by rw [nt _ (by omega), nt _ (by omega)]; exact l2.2.2 j p hj⟩
  · show upd (sVa σ) k v j = _
    unfold upd
    by_cases q : j = k
    · rw [if_pos q, if_pos (by omega)]
    · rw [if_neg q, if_neg (by omega)]; exact b j hj
  · rw [uN_of (nt 25 (by omega))] at hi
    exact (g i k2 hi hk2).trans (nt _ (by omega)).symm
theorem bgS_RT {x : XW} {s : Nat → Int32} {u : Nat} (h : RS1 (cSt x.1 0) s (s 98)) (hv : VS u s) : FC x (bgS x u 0) ∧ RT (bgS x u 0) (s, 0, -1, 0) := by
  refine ⟨((FC.rf x).c1 _).c2 _, ?_, rfl, rfl, rfl⟩
  show RS1 (cpS u (cSt x.1 1) (cSt x.1 0)) s (s 98 + 0)
  rw [Int32.add_zero]
  exact h.cp _ hv.un
def bad0 (s : Nat → Int32) : TT := (s, 0, -1, 1)
def piR (u : Nat) (s : Nat → Int32) (row a b c : Int32) : TT := if inR row 0 5 = false then bad0 s else insR u s row.toNatClampNeg a b c
def chR (u : Nat) (s : Nat → Int32) (row col v : Int32) : TT := if inR row 0 5 = false then bad0 s else if inR col 0 2 = false then bad0 s else updR u s row.toNatClampNeg col.toNatClampNeg v
def toR (u : Nat) (s : Nat → Int32) (row : Int32) : TT := if inR row 0 5 = false then bad0 s else remR u s row.toNatClampNeg
theorem there_r {s : Nat → Int32} {row : Int32} {b : Bool} (hr : inR row 0 5 = true) (h : (inR row 0 5 && decide (¬ s row.toNatClampNeg = 0)) = b) : decide (¬ s row.toNatClampNeg = 0) = b := by rw [hr, Bool.true_and] at h; exact h
theorem chR_0 {u : Nat} {s : Nat → Int32} {row : Int32} (col v : Int32) (h : (inR row 0 5 && decide (¬ s row.toNatClampNeg = 0)) = false) : chR u s row col v = bad0 s := by
  unfold chR
  by_cases q : inR row 0 5 = false
  · rw [if_pos q]
  · rw [if_neg q]
    have q1 : inR row 0 5 = true := by cases z : inR row 0 5 <;> first | rfl | exact absurd z q
    have h2 := there_r q1 h
    by_cases w : inR col 0 2 = false
    · rw [if_pos w]
    · rw [if_neg w]
      refine if_pos ?_
      by_cases z : s row.toNatClampNeg = 0
      · exact z
      · rw [decide_eq_true z] at h2; cases h2
theorem th_eq {σ : SS} {s : Nat → Int32} (h : ∀ j, j < 6 → sTh σ j = s j) (row : Int32) : (inR row 0 5 && decide (¬ sTh σ row.toNatClampNeg = 0)) = (inR row 0 5 && decide (¬ s row.toNatClampNeg = 0)) := by
  by_cases q : inR row 0 5 = true
  · obtain ⟨r1, hr, er, er2⟩ := inR_row q
    rw [er2, h r1 hr]
  · rw [Bool.eq_false_iff.mpr q]; rfl
theorem toR_0 {u : Nat} {s : Nat → Int32} {row : Int32} (hv : VS u s) (h : (inR row 0 5 && decide (¬ s row.toNatClampNeg = 0)) = false) : toR u s row = bad0 s := by
  unfold toR
  by_cases q : inR row 0 5 = false
  · rw [if_pos q]
  · rw [if_neg q]
    have q1 : inR row 0 5 = true := by cases z : inR row 0 5 <;> first | rfl | exact absurd z q
    have h2 := there_r q1 h
    refine if_neg (fun z => ?_)
    rw [z] at h2
    exact absurd h2 (by decide)
set_option maxRecDepth 100000 in
set_option maxHeartbeats 4000000 in
theorem ct_X5_takeOut (x : XW) (s : Nat → Int32) (u : Nat) (hs : RS1 (cSt x.1 0) s (s 98)) (hv : VS u s) (row : Int32) : CT MX5_takeOut 16 0 [.ref 161, .ref (16 * 0), .int row] (hp x) (hnQ x (toR u s row)) := by
  refine ct_of (by decide +kernel) (by decide) rfl (k := 0) (ls := [some (.ref 161), some (.ref (16 * 0)), some (.int row)]) rfl (Nat.le_of_ble_eq_true rfl) ?_
  have hv9 := hv
  obtain ⟨y, ey⟩ : ∃ y, y = bgS x u 0 := ⟨_, rfl⟩
  obtain ⟨fy, ry⟩ := bgS_RT hs hv
  rw [← ey] at fy ry
  have kh : KH u (s, 0, -1, 0) := ⟨hv, 0, by omega, rfl⟩
  obtain ⟨a1, a2, a3, a4, a5, a6, a7⟩ := ry.1
  refine pw_aload_n (tk tkX5_takeOut 0 rfl) rfl ?_
  refine pw_aload_n (tk tkX5_takeOut 1 rfl) rfl ?_
  refine pw_cV0 (ct_X5_begin x u 0 (by decide) (by decide) (hs.wb hv)) okX5_begin (tk tkX5_takeOut 2 rfl) mkX5_32 imX5_begin seX5_begin (hp_ot _ 1) rfl rfl rfl (by decide) (by decide) (Nat.le_of_ble_eq_true rfl) ?_
  rw [← ey]
  refine pw_aload_n (tk tkX5_takeOut 3 rfl) rfl ?_
  refine g5_state (tk tkX5_takeOut 4 rfl) fkX5_12 ?_
  refine pw_iload_n (tk tkX5_takeOut 5 rfl) rfl ?_
  refine pw_cV (ct_X4_isThere y 1 (by decide) _) okX4_isThere (tk tkX5_takeOut 6 rfl) mkX5_55 imX4_isThere seX4_isThere (hp_st _ (by decide : 1 < 10) (by decide : 0 < 16)) rfl rfl rfl (by decide) (by decide) (Nat.le_of_ble_eq_true rfl) ?_
  rw [show (inR row 0 5 && decide (¬ sTh (cSt y.1 1) row.toNatClampNeg = 0)) = (inR row 0 5 && decide (¬ s row.toNatClampNeg = 0)) from th_eq a1 row]
  refine pw_ifnb (tgt := 24) (tk tkX5_takeOut 7 rfl) (by decide) (fun c13 => ?_) (fun c13 => ?_)
  · obtain ⟨h5, h6⟩ := Bool.and_eq_true_iff.mp c13
    obtain ⟨r1, hr, er, er2⟩ := inR_row h5
    have h1 : s r1 = 1 := by
      have := of_decide_eq_true h6
      rw [er2] at this
      exact (hv.2.2.2.2.1 r1 hr).resolve_left this
    have eR : toR u s row = hapT u 6 (s, 0, -1, 0) 2 r1 0 0 0 := (if_neg (ne_f h5)).trans (by rw [er2]; exact if_pos h1)
    rw [eR, er]
    refine pw_aload_n (tk tkX5_takeOut 12 rfl) rfl ?_
    refine pw_iconst (v := 2) (tk tkX5_takeOut 13 rfl) (by decide) ?_
    refine pw_iload_n (tk tkX5_takeOut 14 rfl) rfl ?_
    refine pw_iconst (v := 0) (tk tkX5_takeOut 15 rfl) (by decide) ?_
    refine pw_iconst (v := 0) (tk tkX5_takeOut 16 rfl) (by decide) ?_
    refine pw_iconst (v := 0) (tk tkX5_takeOut 17 rfl) (by decide) ?_
    refine pw_callV (hc_all u 6 0 rfl y (s, 0, -1, 0) 2 r1 0 0 kh ry rfl hr (by decide)) okX5_happen (tk tkX5_takeOut 18 rfl) mkX5_51 imX5_happen seX5_happen (hp_ot _ 1) rfl rfl rfl (by decide) (by decide) (Nat.le_of_ble_eq_true rfl) (fun r h2 q => ?_) (fun E h2 q => by cases q.1)
    obtain ⟨ho, z, rfl, fz, rz⟩ := q
    cases ho
    refine pw_return (tk tkX5_takeOut 19 rfl) rfl (by decide) ?_
    exact ⟨rfl, z, rfl, fy.tr fz, rz⟩
  · refine pw_aload_n (tk tkX5_takeOut 8 rfl) rfl ?_
    refine pw_iconst (v := 1) (tk tkX5_takeOut 9 rfl) (by decide) ?_
    refine p5_refusal (tk tkX5_takeOut 10 rfl) fkX5_29 ?_
    refine pw_goto (tgt := 33) (tk tkX5_takeOut 11 rfl) (by decide) ?_
    refine pw_return (tk tkX5_takeOut 19 rfl) rfl (by decide) ?_
    refine ⟨rfl, _, rfl, fy.c2 _, ?_⟩
    rw [toR_0 hv c13]
    exact ry.rf 1
set_option maxRecDepth 100000 in
set_option maxHeartbeats 4000000 in
theorem ct_X5_change (x : XW) (s : Nat → Int32) (u : Nat) (hs : RS1 (cSt x.1 0) s (s 98)) (hv : VS u s) (row col v : Int32) : CT MX5_change 16 0 [.ref 161, .ref (16 * 0), .int row, .int col, .int v] (hp x) (hnQ x (chR u s row col v)) := by
  refine ct_of (by decide +kernel) (by decide) rfl (k := 0) (ls := [some (.ref 161), some (.ref (16 * 0)), some (.int row), some (.int col), some (.int v)]) rfl (Nat.le_of_ble_eq_true rfl) ?_
  have hv9 := hv
  obtain ⟨y, ey⟩ : ∃ y, y = bgS x u 0 := ⟨_, rfl⟩
  obtain ⟨fy, ry⟩ := bgS_RT hs hv
  rw [← ey] at fy ry
  have kh : KH u (s, 0, -1, 0) := ⟨hv, 0, by omega, rfl⟩
  obtain ⟨a1, a2, a3, a4, a5, a6, a7⟩ := ry.1
  refine pw_aload_n (tk tkX5_change 0 rfl) rfl ?_
  refine pw_aload_n (tk tkX5_change 1 rfl) rfl ?_
  refine pw_cV0 (ct_X5_begin x u 0 (by decide) (by decide) (hs.wb hv)) okX5_begin (tk tkX5_change 2 rfl) mkX5_32 imX5_begin seX5_begin (hp_ot _ 1) rfl rfl rfl (by decide) (by decide) (Nat.le_of_ble_eq_true rfl) ?_
  rw [← ey]
  refine pw_aload_n (tk tkX5_change 3 rfl) rfl ?_
  refine g5_state (tk tkX5_change 4 rfl) fkX5_12 ?_
  refine pw_iload_n (tk tkX5_change 5 rfl) rfl ?_
  refine pw_cV (ct_X4_isThere y 1 (by decide) _) okX4_isThere (tk tkX5_change 6 rfl) mkX5_55 imX4_isThere seX4_isThere (hp_st _ (by decide : 1 < 10) (by decide : 0 < 16)) rfl rfl rfl (by decide) (by decide) (Nat.le_of_ble_eq_true rfl) ?_
  rw [show (inR row 0 5 && decide (¬ sTh (cSt y.1 1) row.toNatClampNeg = 0)) = (inR row 0 5 && decide (¬ s row.toNatClampNeg = 0)) from th_eq a1 row]
  refine pw_ifb (tgt := 23) (tk tkX5_change 7 rfl) (by decide) (fun c13 => ?_) (fun c13 => ?_)
  · refine pw_aload_n (tk tkX5_change 11 rfl) rfl ?_
    refine pw_iconst (v := 1) (tk tkX5_change 12 rfl) (by decide) ?_
    refine p5_refusal (tk tkX5_change 13 rfl) fkX5_29 ?_
    refine pw_goto (tgt := 59) (tk tkX5_change 14 rfl) (by decide) ?_
    refine pw_return (tk tkX5_change 31 rfl) rfl (by decide) ?_
    refine ⟨rfl, _, rfl, fy.c2 _, ?_⟩
    rw [chR_0 col v c13]
    exact ry.rf 1
  · refine pw_iload_n (tk tkX5_change 8 rfl) rfl ?_
    refine pw_cN (ct_X7_isColumn _ _) rfl okX7_isColumn (tk tkX5_change 9 rfl) mkX5_58 stX7_isColumn rfl rfl (by decide) (by decide) (Nat.le_of_ble_eq_true rfl) ?_
    refine pw_ifnb (tgt := 31) (tk tkX5_change 10 rfl) (by decide) (fun c20 => ?_) (fun c20 => ?_)
    · obtain ⟨h5, h6⟩ := Bool.and_eq_true_iff.mp c13
      obtain ⟨r1, hr, er, er2⟩ := inR_row h5
      obtain ⟨c1, hc, ec, ec2⟩ := inR_col c20
      have h1 : ¬ s r1 = 0 := by
        have := of_decide_eq_true h6
        rw [er2] at this; exact this
      have eR : chR u s row col v = updR u s r1 c1 v := (if_neg (ne_f h5)).trans ((if_neg (ne_f c20)).trans (by rw [er2, ec2]))
      have eva : sVa (cSt y.1 1) (3 * r1 + c1) = s (6 + 3 * r1 + c1) := by rw [a2 _ (by omega), ← Nat.add_assoc]
      refine pw_aload_n (tk tkX5_change 15 rfl) rfl ?_
      refine g5_state (tk tkX5_change 16 rfl) fkX5_12 ?_
      refine g4_values (by first | assumption | decide | omega) (tk tkX5_change 17 rfl) fkX5_43 ?_
      refine pw_iload_n (tk tkX5_change 18 rfl) rfl ?_
      refine pw_iload_n (tk tkX5_change 19 rfl) rfl ?_
      refine pw_cN (ct_X7_cell _ _ _) rfl okX7_cell (tk tkX5_change 20 rfl) mkX5_47 stX7_cell rfl rfl (by decide) (by decide) (Nat.le_of_ble_eq_true rfl) ?_
      refine al_values_e (e := 3 * r1 + c1) (by first | assumption | decide | omega) (tk tkX5_change 21 rfl) (cl_ix er ec) (by first | decide | omega) ?_
      rw [eva]
      refine pw_iload (tk tkX5_change 22 rfl) rfl ?_
      refine pw_icmp_eq (tgt := 59) (tk tkX5_change 23 rfl) (by decide) (fun c46 => ?_) (fun c46 => ?_)
      · refine pw_return (tk tkX5_change 31 rfl) rfl (by decide) ?_
        refine ⟨rfl, y, rfl, fy, ?_⟩
        rw [eR, show updR u s r1 c1 v = (s, 0, -1, 0) from (if_neg h1).trans (if_pos c46)]
        exact ry
      · rw [eR, show updR u s r1 c1 v = hapT u 6 (s, 0, -1, 0) 1 r1 c1 v 0 from (if_neg h1).trans (if_neg c46), er, ec]
        refine pw_aload_n (tk tkX5_change 24 rfl) rfl ?_
        refine pw_iconst (v := 1) (tk tkX5_change 25 rfl) (by decide) ?_
        refine pw_iload_n (tk tkX5_change 26 rfl) rfl ?_
        refine pw_iload_n (tk tkX5_change 27 rfl) rfl ?_
        refine pw_iload (tk tkX5_change 28 rfl) rfl ?_
        refine pw_iconst (v := 0) (tk tkX5_change 29 rfl) (by decide) ?_
        refine pw_callV (hc_all u 6 0 rfl y (s, 0, -1, 0) 1 r1 c1 v kh ry rfl hr hc) okX5_happen (tk tkX5_change 30 rfl) mkX5_51 imX5_happen seX5_happen (hp_ot _ 1) rfl rfl rfl (by decide) (by decide) (Nat.le_of_ble_eq_true rfl) (fun r h2 q => ?_) (fun E h2 q => by cases q.1)
        obtain ⟨ho, z, rfl, fz, rz⟩ := q
        cases ho
        refine pw_return (tk tkX5_change 31 rfl) rfl (by decide) ?_
        exact ⟨rfl, z, rfl, fy.tr fz, rz⟩
    · refine pw_aload_n (tk tkX5_change 11 rfl) rfl ?_
      refine pw_iconst (v := 1) (tk tkX5_change 12 rfl) (by decide) ?_
      refine p5_refusal (tk tkX5_change 13 rfl) fkX5_29 ?_
      refine pw_goto (tgt := 59) (tk tkX5_change 14 rfl) (by decide) ?_
      refine pw_return (tk tkX5_change 31 rfl) rfl (by decide) ?_
      refine ⟨rfl, _, rfl, fy.c2 _, ?_⟩
      rw [show chR u s row col v = bad0 s from (if_neg (ne_f (Bool.and_eq_true_iff.mp c13).1)).trans (if_pos c20)]
      exact ry.rf 1
set_option maxRecDepth 100000 in
set_option maxHeartbeats 4000000 in
theorem ct_X5_putIn (x : XW) (s : Nat → Int32) (u : Nat) (hs : RS1 (cSt x.1 0) s (s 98)) (hv : VS u s) (row p q2 w : Int32) : CT MX5_putIn 16 0 [.ref 161, .ref (16 * 0), .int row, .int p, .int q2, .int w] (hp x) (hnQ x (piR u s row p q2 w)) := by
  refine ct_of (by decide +kernel) (by decide) rfl (k := 0) (ls := [some (.ref 161), some (.ref (16 * 0)), some (.int row), some (.int p), some (.int q2), some (.int w)]) rfl (Nat.le_of_ble_eq_true rfl) ?_
  have hv9 := hv
  obtain ⟨y, ey⟩ : ∃ y, y = bgS x u 0 := ⟨_, rfl⟩
  obtain ⟨fy, ry⟩ := bgS_RT hs hv
  rw [← ey] at fy ry
  have kh : KH u (s, 0, -1, 0) := ⟨hv, 0, by omega, rfl⟩
  obtain ⟨a1, a2, a3, a4, a5, a6, a7⟩ := ry.1
  refine pw_aload_n (tk tkX5_putIn 0 rfl) rfl ?_
  refine pw_aload_n (tk tkX5_putIn 1 rfl) rfl ?_
  refine pw_cV0 (ct_X5_begin x u 0 (by decide) (by decide) (hs.wb hv)) okX5_begin (tk tkX5_putIn 2 rfl) mkX5_32 imX5_begin seX5_begin (hp_ot _ 1) rfl rfl rfl (by decide) (by decide) (Nat.le_of_ble_eq_true rfl) ?_
  rw [← ey]
  refine pw_iload_n (tk tkX5_putIn 3 rfl) rfl ?_
  refine pw_cN (ct_X7_isRow _ _) rfl okX7_isRow (tk tkX5_putIn 4 rfl) mkX5_35 stX7_isRow rfl rfl (by decide) (by decide) (Nat.le_of_ble_eq_true rfl) ?_
  refine pw_ifb (tgt := 24) (tk tkX5_putIn 5 rfl) (by decide) (fun c9 => ?_) (fun c9 => ?_)
  · refine pw_aload_n (tk tkX5_putIn 12 rfl) rfl ?_
    refine pw_iconst (v := 1) (tk tkX5_putIn 13 rfl) (by decide) ?_
    refine p5_refusal (tk tkX5_putIn 14 rfl) fkX5_29 ?_
    refine pw_return (tk tkX5_putIn 15 rfl) rfl (by decide) ?_
    refine ⟨rfl, _, rfl, fy.c2 _, ?_⟩
    rw [show piR u s row p q2 w = bad0 s from if_pos c9]
    exact ry.rf 1
  · obtain ⟨r1, hr, er, er2⟩ := inR_row c9
    refine pw_aload_n (tk tkX5_putIn 6 rfl) rfl ?_
    refine g5_state (tk tkX5_putIn 7 rfl) fkX5_12 ?_
    refine g4_there (by first | assumption | decide | omega) (tk tkX5_putIn 8 rfl) fkX5_39 ?_
    refine pw_iload_n (tk tkX5_putIn 9 rfl) rfl ?_
    refine al_there_e (e := r1) (by first | assumption | decide | omega) (tk tkX5_putIn 10 rfl) er (by first | decide | omega) ?_
    rw [a1 r1 hr]
    refine pw_if_eq (tgt := 30) (tk tkX5_putIn 11 rfl) (by decide) (fun c21 => ?_) (fun c21 => ?_)
    · refine pw_aload_n (tk tkX5_putIn 16 rfl) rfl ?_
      refine g5_state (tk tkX5_putIn 17 rfl) fkX5_12 ?_
      refine g4_values (by first | assumption | decide | omega) (tk tkX5_putIn 18 rfl) fkX5_43 ?_
      refine pw_iload_n (tk tkX5_putIn 19 rfl) rfl ?_
      refine pw_iconst (v := 0) (tk tkX5_putIn 20 rfl) (by decide) ?_
      refine pw_cN (ct_X7_cell _ _ _) rfl okX7_cell (tk tkX5_putIn 21 rfl) mkX5_47 stX7_cell rfl rfl (by decide) (by decide) (Nat.le_of_ble_eq_true rfl) ?_
      refine pw_iload_n (tk tkX5_putIn 22 rfl) rfl ?_
      refine as_values_e (e := 3 * r1 + 0) (by first | assumption | decide | omega) (tk tkX5_putIn 23 rfl) (cl_ix er rfl) (by first | decide | omega) ?_
      refine pw_aload_n (tk tkX5_putIn 24 rfl) rfl ?_
      refine g5_state (tk tkX5_putIn 25 rfl) fkX5_12 ?_
      refine g4_values (by first | assumption | decide | omega) (tk tkX5_putIn 26 rfl) fkX5_43 ?_
      refine pw_iload_n (tk tkX5_putIn 27 rfl) rfl ?_
      refine pw_iconst (v := 1) (tk tkX5_putIn 28 rfl) (by decide) ?_
      refine pw_cN (ct_X7_cell _ _ _) rfl okX7_cell (tk tkX5_putIn 29 rfl) mkX5_47 stX7_cell rfl rfl (by decide) (by decide) (Nat.le_of_ble_eq_true rfl) ?_
      refine pw_iload (tk tkX5_putIn 30 rfl) rfl ?_
      refine as_values_e (e := 3 * r1 + 1) (by first | assumption | decide | omega) (tk tkX5_putIn 31 rfl) (cl_ix er rfl) (by first | decide | omega) ?_
      rw [cSt_u, uC1_uC1]
      refine pw_aload_n (tk tkX5_putIn 32 rfl) rfl ?_
      refine g5_state (tk tkX5_putIn 33 rfl) fkX5_12 ?_
      refine g4_values (by first | assumption | decide | omega) (tk tkX5_putIn 34 rfl) fkX5_43 ?_
      refine pw_iload_n (tk tkX5_putIn 35 rfl) rfl ?_
      refine pw_iconst (v := 2) (tk tkX5_putIn 36 rfl) (by decide) ?_
      refine pw_cN (ct_X7_cell _ _ _) rfl okX7_cell (tk tkX5_putIn 37 rfl) mkX5_47 stX7_cell rfl rfl (by decide) (by decide) (Nat.le_of_ble_eq_true rfl) ?_
      refine pw_iload (tk tkX5_putIn 38 rfl) rfl ?_
      refine as_values_e (e := 3 * r1 + 2) (by first | assumption | decide | omega) (tk tkX5_putIn 39 rfl) (cl_ix er rfl) (by first | decide | omega) ?_
      rw [cSt_u, uC1_uC1]
      obtain ⟨z0, ez0⟩ : ∃ z0, z0 = uC1 y 1 (uS2 (cSt y.1 1) (upd (upd (upd (sVa (cSt y.1 1)) (3 * r1 + 0) p) (3 * r1 + 1) q2) (3 * r1 + 2) w)) := ⟨_, rfl⟩
      rw [show uS2 (uS2 (uS2 (cSt y.1 1) (upd (sVa (cSt y.1 1)) (3 * r1 + 0) p)) (upd (sVa (uS2 (cSt y.1 1) (upd (sVa (cSt y.1 1)) (3 * r1 + 0) p))) (3 * r1 + 1) q2)) (upd (sVa (uS2 (uS2 (cSt y.1 1) (upd (sVa (cSt y.1 1)) (3 * r1 + 0) p)) (upd (sVa (uS2 (cSt y.1 1) (upd (sVa (cSt y.1 1)) (3 * r1 + 0) p))) (3 * r1 + 1) q2))) (3 * r1 + 2) w) = uS2 (cSt y.1 1) (upd (upd (upd (sVa (cSt y.1 1)) (3 * r1 + 0) p) (3 * r1 + 1) q2) (3 * r1 + 2) w) from rfl, ← ez0]
      have h1 : ¬ s r1 = 1 := fun q => absurd (q.symm.trans (show s r1 = 0 from c21)) (by decide)
      obtain ⟨S, eS⟩ : ∃ S, S = upd (upd (upd s (6 + 3 * r1 + 0) p) (6 + 3 * r1 + 1) q2) (6 + 3 * r1 + 2) w := ⟨_, rfl⟩
      have eR : piR u s row p q2 w = hapT u 6 (S, 0, -1, 0) 0 r1 0 0 0 := (if_neg (ne_f c9)).trans (by rw [er2, eS]; exact if_neg h1)
      have fz0 : FC y z0 := by rw [ez0]; exact (FC.rf y).c1 _
      have hS : VS u S := by rw [eS]; exact VS_val (VS_val (VS_val hv p (by omega) (by omega)) q2 (by omega) (by omega)) w (by omega) (by omega)
      have kh2 : KH u (S, 0, -1, 0) := ⟨hS, 0, by omega, rfl⟩
      have rz0 : RT z0 (S, 0, -1, 0) := by
        refine ⟨?_, by rw [ez0]; exact ry.2.1, by rw [ez0]; exact ry.2.2.1, by rw [ez0]; exact ry.2.2.2⟩
        have q9 := ((ry.1.val (k := 3 * r1 + 0) p (by omega)).val (k := 3 * r1 + 1) q2 (by omega)).val (k := 3 * r1 + 2) w (by omega)
        rw [← Nat.add_assoc, ← Nat.add_assoc, ← Nat.add_assoc] at q9
        show RS1 (cSt z0.1 1) S (S 98 + 0)
        rw [show S 98 = s 98 from by rw [eS, upd_nt _ _ (by omega), upd_nt _ _ (by omega), upd_nt _ _ (by omega)], ez0, cSt_u, eS]
        exact q9
      rw [eR, er]
      refine pw_aload_n (tk tkX5_putIn 40 rfl) rfl ?_
      refine pw_iconst (v := 0) (tk tkX5_putIn 41 rfl) (by decide) ?_
      refine pw_iload_n (tk tkX5_putIn 42 rfl) rfl ?_
      refine pw_iconst (v := 0) (tk tkX5_putIn 43 rfl) (by decide) ?_
      refine pw_iconst (v := 0) (tk tkX5_putIn 44 rfl) (by decide) ?_
      refine pw_iconst (v := 0) (tk tkX5_putIn 45 rfl) (by decide) ?_
      refine pw_callV (hc_all u 6 0 rfl z0 (S, 0, -1, 0) 0 r1 0 0 kh2 rz0 rfl hr (by decide)) okX5_happen (tk tkX5_putIn 46 rfl) mkX5_51 imX5_happen seX5_happen (hp_ot _ 1) rfl rfl rfl (by decide) (by decide) (Nat.le_of_ble_eq_true rfl) (fun r h2 q => ?_) (fun E h2 q => by cases q.1)
      obtain ⟨ho, z, rfl, fz, rz⟩ := q
      cases ho
      exact pw_return (tk tkX5_putIn 47 rfl) rfl (by decide) ⟨rfl, z, rfl, fy.tr (fz0.tr fz), rz⟩
    · refine pw_aload_n (tk tkX5_putIn 12 rfl) rfl ?_
      refine pw_iconst (v := 1) (tk tkX5_putIn 13 rfl) (by decide) ?_
      refine p5_refusal (tk tkX5_putIn 14 rfl) fkX5_29 ?_
      refine pw_return (tk tkX5_putIn 15 rfl) rfl (by decide) ?_
      refine ⟨rfl, _, rfl, fy.c2 _, ?_⟩
      rw [show piR u s row p q2 w = bad0 s from (if_neg (ne_f c9)).trans (by rw [er2]; exact if_pos ((hv.2.2.2.2.1 r1 hr).resolve_left c21))]
      exact ry.rf 1
