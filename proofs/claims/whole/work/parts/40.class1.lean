theorem i32_65 (v : Int32) : (6 : Int32) ≤ v ↔ 5 < v := by
  rw [Int32.le_iff_toInt_le, Int32.lt_iff_toInt_lt, show (6 : Int32).toInt = 6 from by decide, show (5 : Int32).toInt = 5 from by decide]; omega
theorem i32_32 (v : Int32) : (3 : Int32) ≤ v ↔ 2 < v := by
  rw [Int32.le_iff_toInt_le, Int32.lt_iff_toInt_lt, show (3 : Int32).toInt = 3 from by decide, show (2 : Int32).toInt = 2 from by decide]; omega
set_option maxRecDepth 100000 in
set_option maxHeartbeats 4000000 in
theorem ct_X7_isRow (h : Hp) (v : Int32) : CT MX7_isRow 0 0 [.int v] h (Det (.inl (some (.int (bI (inR v 0 5))))) h) := by
  refine ct_of (by decide +kernel) (by decide) rfl (k := 0) (ls := [some (.int v)]) rfl (Nat.le_of_ble_eq_true rfl) ?_
  refine pw_iload_n (tk tkX7_isRow 0 rfl) rfl ?_
  refine pw_if_lt (tgt := 14) (tk tkX7_isRow 1 rfl) (by decide) (fun c1 => ?_) (fun c1 => ?_)
  · refine pw_iconst (v := 0) (tk tkX7_isRow 7 rfl) (by decide) ?_
    refine pw_ireturn (tk tkX7_isRow 8 rfl) rfl (by decide) (by first | rfl | exact nar_bI _) ?_
    refine ⟨?_, rfl⟩
    simp [inR, bI, *]
  · refine pw_iload_n (tk tkX7_isRow 2 rfl) rfl ?_
    refine pw_bipush (v := 6) (tk tkX7_isRow 3 rfl) (by decide) ?_
    refine pw_icmp_ge (tgt := 14) (tk tkX7_isRow 4 rfl) (by decide) (fun c7 => ?_) (fun c7 => ?_)
    · refine pw_iconst (v := 0) (tk tkX7_isRow 7 rfl) (by decide) ?_
      refine pw_ireturn (tk tkX7_isRow 8 rfl) rfl (by decide) (by first | rfl | exact nar_bI _) ?_
      rw [i32_65] at c7
      refine ⟨?_, rfl⟩
      simp [inR, bI, *]
    · refine pw_iconst (v := 1) (tk tkX7_isRow 5 rfl) (by decide) ?_
      refine pw_goto (tgt := 15) (tk tkX7_isRow 6 rfl) (by decide) ?_
      refine pw_ireturn (tk tkX7_isRow 8 rfl) rfl (by decide) (by first | rfl | exact nar_bI _) ?_
      rw [i32_65] at c7
      refine ⟨?_, rfl⟩
      simp [inR, bI, *]
set_option maxRecDepth 100000 in
set_option maxHeartbeats 4000000 in
theorem ct_X7_isColumn (h : Hp) (v : Int32) : CT MX7_isColumn 0 0 [.int v] h (Det (.inl (some (.int (bI (inR v 0 2))))) h) := by
  refine ct_of (by decide +kernel) (by decide) rfl (k := 0) (ls := [some (.int v)]) rfl (Nat.le_of_ble_eq_true rfl) ?_
  refine pw_iload_n (tk tkX7_isColumn 0 rfl) rfl ?_
  refine pw_if_lt (tgt := 13) (tk tkX7_isColumn 1 rfl) (by decide) (fun c1 => ?_) (fun c1 => ?_)
  · refine pw_iconst (v := 0) (tk tkX7_isColumn 7 rfl) (by decide) ?_
    refine pw_ireturn (tk tkX7_isColumn 8 rfl) rfl (by decide) (by first | rfl | exact nar_bI _) ?_
    refine ⟨?_, rfl⟩
    simp [inR, bI, *]
  · refine pw_iload_n (tk tkX7_isColumn 2 rfl) rfl ?_
    refine pw_iconst (v := 3) (tk tkX7_isColumn 3 rfl) (by decide) ?_
    refine pw_icmp_ge (tgt := 13) (tk tkX7_isColumn 4 rfl) (by decide) (fun c6 => ?_) (fun c6 => ?_)
    · refine pw_iconst (v := 0) (tk tkX7_isColumn 7 rfl) (by decide) ?_
      refine pw_ireturn (tk tkX7_isColumn 8 rfl) rfl (by decide) (by first | rfl | exact nar_bI _) ?_
      rw [i32_32] at c6
      refine ⟨?_, rfl⟩
      simp [inR, bI, *]
    · refine pw_iconst (v := 1) (tk tkX7_isColumn 5 rfl) (by decide) ?_
      refine pw_goto (tgt := 14) (tk tkX7_isColumn 6 rfl) (by decide) ?_
      refine pw_ireturn (tk tkX7_isColumn 8 rfl) rfl (by decide) (by first | rfl | exact nar_bI _) ?_
      rw [i32_32] at c6
      refine ⟨?_, rfl⟩
      simp [inR, bI, *]
set_option maxRecDepth 100000 in
set_option maxHeartbeats 4000000 in
theorem ct_X7_isValue (h : Hp) (v : Int32) : CT MX7_isValue 0 0 [.int v] h (Det (.inl (some (.int (bI (inR v 0 999))))) h) := by
  refine ct_of (by decide +kernel) (by decide) rfl (k := 0) (ls := [some (.int v)]) rfl (Nat.le_of_ble_eq_true rfl) ?_
  refine pw_iload_n (tk tkX7_isValue 0 rfl) rfl ?_
  refine pw_if_lt (tgt := 15) (tk tkX7_isValue 1 rfl) (by decide) (fun c1 => ?_) (fun c1 => ?_)
  · refine pw_iconst (v := 0) (tk tkX7_isValue 7 rfl) (by decide) ?_
    refine pw_ireturn (tk tkX7_isValue 8 rfl) rfl (by decide) (by first | rfl | exact nar_bI _) ?_
    refine ⟨?_, rfl⟩
    simp [inR, bI, *]
  · refine pw_iload_n (tk tkX7_isValue 2 rfl) rfl ?_
    refine pw_sipush (v := 999) (tk tkX7_isValue 3 rfl) (by decide) ?_
    refine pw_icmp_gt (tgt := 15) (tk tkX7_isValue 4 rfl) (by decide) (fun c8 => ?_) (fun c8 => ?_)
    · refine pw_iconst (v := 0) (tk tkX7_isValue 7 rfl) (by decide) ?_
      refine pw_ireturn (tk tkX7_isValue 8 rfl) rfl (by decide) (by first | rfl | exact nar_bI _) ?_
      refine ⟨?_, rfl⟩
      simp [inR, bI, *]
    · refine pw_iconst (v := 1) (tk tkX7_isValue 5 rfl) (by decide) ?_
      refine pw_goto (tgt := 16) (tk tkX7_isValue 6 rfl) (by decide) ?_
      refine pw_ireturn (tk tkX7_isValue 8 rfl) rfl (by decide) (by first | rfl | exact nar_bI _) ?_
      refine ⟨?_, rfl⟩
      simp [inR, bI, *]
