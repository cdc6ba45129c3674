theorem i32_65 (v : Int32) : (6 : Int32) ≤ v ↔ 5 < v := by
  rw [Int32.le_iff_toInt_le, Int32.lt_iff_toInt_lt, show (6 : Int32).toInt = 6 from by decide, show (5 : Int32).toInt = 5 from by decide]; omega
theorem i32_32 (v : Int32) : (3 : Int32) ≤ v ↔ 2 < v := by
  rw [Int32.le_iff_toInt_le, Int32.lt_iff_toInt_lt, show (3 : Int32).toInt = 3 from by decide, show (2 : Int32).toInt = 2 from by decide]; omega
set_option maxRecDepth 100000 in
set_option maxHeartbeats 4000000 in
theorem ct_X7_isRow (h : Hp) (v : Int32) : CT MX7_isRow 0 0 [.int v] h (Det (.inl (some (.int (bI (inR v 0 5))))) h) := by
  refine ct_of (by decide +kernel) (by decide) rfl (k := 0) (ls := [some (.int v)]) rfl (Nat.le_of_ble_eq_true rfl) ?_
  refine pw_iload_n (tk tkX7_isRow 0 rfl) rfl ?_
  refine pw_if_lt (tgt := 14) (tk tkX7_isRow 1 rfl) (by decide) (fun c1 => ?_) (fun c1 => ?_)
  · refine pw_iconst (v := 0) (tk tkX7_isRow 7 rfl) (by decide) ?_
    refine pw_ireturn (tk tkX7_isRow 8 rfl) rfl (by decide) (by first | rfl | exact nar_bI _) ?_
    refine ⟨?_, rfl⟩
    simp [inR, bI, *]
  · refine pw_iload_n (tk tkX7_isRow 2 rfl) rfl ?_
    refine pw_bipush (v := 6) (tk tkX7_isRow 3 rfl) (by decide) ?_
    refine pw_icmp_ge (tgt := 14) (tk tkX7_isRow 4 rfl) (by decide) (fun c7 => ?_) (fun c7 => ?_)
    · refine pw_iconst (v := 0) (tk tkX7_isRow 7 rfl) (by decide) ?_
      refine pw_ireturn (tk tkX7_isRow 8 rfl) rfl (by decide) (by first | rfl | exact nar_bI _) ?_
      rw [i32_65] at c7
      refine ⟨?_, rfl⟩
      simp [inR, bI, *]
    · refine pw_iconst (v := 1) (tk tkX7_isRow 5 rfl) (by decide) ?_
      refine pw_goto (tgt := 15) (tk tkX7_isRow 6 rfl) (by decide) ?_
      refine pw_ireturn (tk tkX7_isRow 8 rfl) rfl (by decide) (by first | rfl | exact nar_bI _) ?_
      rw [i32_65] at c7
      refine ⟨?_, rfl⟩
      simp [inR, bI, *]
set_option maxRecDepth 100000 in
set_option maxHeartbeats 4000000 in
theorem ct_X7_isColumn (h : Hp) (v : Int32) : CT MX7_isColumn 0 0 [.int v] h (Det (.inl (some (.int (bI (inR v 0 2))))) h) := by
  refine ct_of (by decide +kernel) (by decide) rfl (k := 0) (ls := [some (.int v)]) rfl (Nat.le_of_ble_eq_true rfl) ?_
  refine pw_iload_n (tk tkX7_isColumn 0 rfl) rfl ?_
  refine pw_if_lt (tgt := 13) (tk tkX7_isColumn 1 rfl) (by decide) (fun c1 => ?_) (fun c1 => ?_)
  · refine pw_iconst (v := 0) (tk tkX7_isColumn 7 rfl) (by decide) ?_
    refine pw_ireturn (tk tkX7_isColumn 8 rfl) rfl (by decide) (by first | rfl | exact nar_bI _) ?_
    refine ⟨?_, rfl⟩
    simp [inR, bI, *]
  · refine pw_iload_n (tk tkX7_isColumn 2 rfl) rfl ?_
    refine pw_iconst (v := 3) (tk tkX7_isColumn 3 rfl) (by decide) ?_
    refine pw_icmp_ge (tgt := 13) (tk tkX7_isColumn 4 rfl) (by decide) (fun c6 => ?_) (fun c6 => ?_)
    · refine pw_iconst (v := 0) (tk tkX7_isColumn 7 rfl) (by decide) ?_
      refine pw_ireturn (tk tkX7_isColumn 8 rfl) rfl (by decide) (by first | rfl | exact nar_bI _) ?_
      rw [i32_32] at c6
      refine ⟨?_, rfl⟩
      simp [inR, bI, *]
    · refine pw_iconst (v := 1) (tk tkX7_isColumn 5 rfl) (by decide) ?_
      refine pw_goto (tgt := 14) (tk tkX7_isColumn 6 rfl) (by decide) ?_
      refine pw_ireturn (tk tkX7_isColumn 8 rfl) rfl (by decide) (by first | rfl | exact nar_bI _) ?_
      rw [i32_32] at c6
      refine ⟨?_, rfl⟩
      simp [inR, bI, *]
set_option maxRecDepth 100000 in
set_option maxHeartbeats 4000000 in
theorem ct_X7_isValue (h : Hp) (v : Int32) : CT MX7_isValue 0 0 [.int v] h (Det (.inl (some (.int (bI (inR v 0 999))))) h) := by
  refine ct_of (by decide +kernel) (by decide) rfl (k := 0) (ls := [some (.int v)]) rfl (Nat.le_of_ble_eq_true rfl) ?_
  refine pw_iload_n (tk tkX7_isValue 0 rfl) rfl ?_
  refine pw_if_lt (tgt := 15) (tk tkX7_isValue 1 rfl) (by decide) (fun c1 => ?_) (fun c1 => ?_)
  · refine pw_iconst (v := 0) (tk tkX7_isValue 7 rfl) (by decide) ?_
    refine pw_ireturn (tk tkX7_isValue 8 rfl) rfl (by decide) (by first | rfl | exact nar_bI _) ?_
    refine ⟨?_, rfl⟩
    simp [inR, bI, *]
  · refine pw_iload_n (tk tkX7_isValue 2 rfl) rfl ?_
    refine pw_sipush (v := 999) (tk tkX7_isValue 3 rfl) (by decide) ?_
    refine pw_icmp_gt (tgt := 15) (tk tkX7_isValue 4 rfl) (by decide) (fun c8 => ?_) (fun c8 => ?_)
    · refine pw_iconst (v := 0) (tk tkX7_isValue 7 rfl) (by decide) ?_
      refine pw_ireturn (tk tkX7_isValue 8 rfl) rfl (by decide) (by first | rfl | exact nar_bI _) ?_
      refine ⟨?_, rfl⟩
      simp [inR, bI, *]
    · refine pw_iconst (v := 1) (tk tkX7_isValue 5 rfl) (by decide) ?_
      refine pw_goto (tgt := 16) (tk tkX7_isValue 6 rfl) (by decide) ?_
      refine pw_ireturn (tk tkX7_isValue 8 rfl) rfl (by decide) (by first | rfl | exact nar_bI _) ?_
      refine ⟨?_, rfl⟩
      simp [inR, bI, *]
def soC (r q : Nat → Int32) : Bool := decide (r 7 = 0) && (decide (q 7 = 0) && ((decide (r 3 = 2) && (decide (q 0 = 1) && decide (q 1 = r 5))) || (decide (r 3 = 3) && decide (q 0 = 2))))
set_option maxRecDepth 100000 in
set_option maxHeartbeats 4000000 in
theorem ct_X3_setsOff (x : XW) (b i b2 j : Nat) (hb : b < 10) (hi : i < 8) (hb2 : b2 < 10) (hj : j < 8) : CT MX3_setsOff 0 0 [.ref (16 * b + (7 + i)), .ref (16 * b2 + (7 + j))] (hp x) (Det (.inl (some (.int (bI (soC (sRu (cSt x.1 b) i) (sRu (cSt x.1 b2) j)))))) (hp x)) := by
  refine ct_of (by decide +kernel) (by decide) rfl (k := 0) (ls := [some (.ref (16 * b + (7 + i))), some (.ref (16 * b2 + (7 + j)))]) rfl (Nat.le_of_ble_eq_true rfl) ?_
  refine pw_aload_n (tk tkX3_setsOff 0 rfl) rfl ?_
  refine g3_muted (by first | assumption | decide | omega) (by first | assumption | decide | omega) (tk tkX3_setsOff 1 rfl) fkX3_33 ?_
  refine pw_if_ne (tgt := 14) (tk tkX3_setsOff 2 rfl) (by decide) (fun c4 => ?_) (fun c4 => ?_)
  · refine pw_iconst (v := 0) (tk tkX3_setsOff 6 rfl) (by decide) ?_
    refine pw_ireturn (tk tkX3_setsOff 7 rfl) rfl (by decide) (by first | rfl | exact nar_bI _) ?_
    refine ⟨congrArg (fun b => Sum.inl (some (Value.int (bI b)))) (show false = soC (sRu (cSt x.1 b) i) (sRu (cSt x.1 b2) j) from ?_), rfl⟩
    unfold soC
    simp [c4]
  · refine pw_aload_n (tk tkX3_setsOff 3 rfl) rfl ?_
    refine g3_muted (by first | assumption | decide | omega) (by first | assumption | decide | omega) (tk tkX3_setsOff 4 rfl) fkX3_33 ?_
    refine pw_if_eq (tgt := 16) (tk tkX3_setsOff 5 rfl) (by decide) (fun c11 => ?_) (fun c11 => ?_)
    · refine pw_aload_n (tk tkX3_setsOff 8 rfl) rfl ?_
      refine g3_action (by first | assumption | decide | omega) (by first | assumption | decide | omega) (tk tkX3_setsOff 9 rfl) fkX3_21 ?_
      refine pw_iconst (v := 2) (tk tkX3_setsOff 10 rfl) (by decide) ?_
      refine pw_icmp_ne (tgt := 49) (tk tkX3_setsOff 11 rfl) (by decide) (fun c21 => ?_) (fun c21 => ?_)
      · refine pw_aload_n (tk tkX3_setsOff 25 rfl) rfl ?_
        refine g3_action (by first | assumption | decide | omega) (by first | assumption | decide | omega) (tk tkX3_setsOff 26 rfl) fkX3_21 ?_
        refine pw_iconst (v := 3) (tk tkX3_setsOff 27 rfl) (by decide) ?_
        refine pw_icmp_ne (tgt := 69) (tk tkX3_setsOff 28 rfl) (by decide) (fun c54 => ?_) (fun c54 => ?_)
        · refine pw_iconst (v := 0) (tk tkX3_setsOff 35 rfl) (by decide) ?_
          refine pw_ireturn (tk tkX3_setsOff 36 rfl) rfl (by decide) (by first | rfl | exact nar_bI _) ?_
          refine ⟨congrArg (fun b => Sum.inl (some (Value.int (bI b)))) (show false = soC (sRu (cSt x.1 b) i) (sRu (cSt x.1 b2) j) from ?_), rfl⟩
          unfold soC
          simp [c4, c11, c21, c54]
        · refine pw_aload_n (tk tkX3_setsOff 29 rfl) rfl ?_
          refine g3_event (by first | assumption | decide | omega) (by first | assumption | decide | omega) (tk tkX3_setsOff 30 rfl) fkX3_9 ?_
          refine pw_iconst (v := 2) (tk tkX3_setsOff 31 rfl) (by decide) ?_
          refine pw_icmp_ne (tgt := 69) (tk tkX3_setsOff 32 rfl) (by decide) (fun c62 => ?_) (fun c62 => ?_)
          · refine pw_iconst (v := 0) (tk tkX3_setsOff 35 rfl) (by decide) ?_
            refine pw_ireturn (tk tkX3_setsOff 36 rfl) rfl (by decide) (by first | rfl | exact nar_bI _) ?_
            refine ⟨congrArg (fun b => Sum.inl (some (Value.int (bI b)))) (show false = soC (sRu (cSt x.1 b) i) (sRu (cSt x.1 b2) j) from ?_), rfl⟩
            unfold soC
            simp [c4, c11, c21, c54, c62]
          · refine pw_iconst (v := 1) (tk tkX3_setsOff 33 rfl) (by decide) ?_
            refine pw_goto (tgt := 70) (tk tkX3_setsOff 34 rfl) (by decide) ?_
            refine pw_ireturn (tk tkX3_setsOff 36 rfl) rfl (by decide) (by first | rfl | exact nar_bI _) ?_
            refine ⟨congrArg (fun b => Sum.inl (some (Value.int (bI b)))) (show true = soC (sRu (cSt x.1 b) i) (sRu (cSt x.1 b2) j) from ?_), rfl⟩
            unfold soC
            simp [c4, c11, c21, c54, c62]
      · refine pw_aload_n (tk tkX3_setsOff 12 rfl) rfl ?_
        refine g3_event (by first | assumption | decide | omega) (by first | assumption | decide | omega) (tk tkX3_setsOff 13 rfl) fkX3_9 ?_
        refine pw_iconst (v := 1) (tk tkX3_setsOff 14 rfl) (by decide) ?_
        refine pw_icmp_ne (tgt := 47) (tk tkX3_setsOff 15 rfl) (by decide) (fun c29 => ?_) (fun c29 => ?_)
        · refine pw_iconst (v := 0) (tk tkX3_setsOff 23 rfl) (by decide) ?_
          refine pw_ireturn (tk tkX3_setsOff 24 rfl) rfl (by decide) (by first | rfl | exact nar_bI _) ?_
          refine ⟨congrArg (fun b => Sum.inl (some (Value.int (bI b)))) (show false = soC (sRu (cSt x.1 b) i) (sRu (cSt x.1 b2) j) from ?_), rfl⟩
          unfold soC
          simp [c4, c11, c21, c29]
        · refine pw_aload_n (tk tkX3_setsOff 16 rfl) rfl ?_
          refine g3_column (by first | assumption | decide | omega) (by first | assumption | decide | omega) (tk tkX3_setsOff 17 rfl) fkX3_15 ?_
          refine pw_aload_n (tk tkX3_setsOff 18 rfl) rfl ?_
          refine g3_targetColumn (by first | assumption | decide | omega) (by first | assumption | decide | omega) (tk tkX3_setsOff 19 rfl) fkX3_27 ?_
          refine pw_icmp_ne (tgt := 47) (tk tkX3_setsOff 20 rfl) (by decide) (fun c40 => ?_) (fun c40 => ?_)
          · refine pw_iconst (v := 0) (tk tkX3_setsOff 23 rfl) (by decide) ?_
            refine pw_ireturn (tk tkX3_setsOff 24 rfl) rfl (by decide) (by first | rfl | exact nar_bI _) ?_
            refine ⟨congrArg (fun b => Sum.inl (some (Value.int (bI b)))) (show false = soC (sRu (cSt x.1 b) i) (sRu (cSt x.1 b2) j) from ?_), rfl⟩
            unfold soC
            simp [c4, c11, c21, c29, c40]
          · refine pw_iconst (v := 1) (tk tkX3_setsOff 21 rfl) (by decide) ?_
            refine pw_goto (tgt := 48) (tk tkX3_setsOff 22 rfl) (by decide) ?_
            refine pw_ireturn (tk tkX3_setsOff 24 rfl) rfl (by decide) (by first | rfl | exact nar_bI _) ?_
            refine ⟨congrArg (fun b => Sum.inl (some (Value.int (bI b)))) (show true = soC (sRu (cSt x.1 b) i) (sRu (cSt x.1 b2) j) from ?_), rfl⟩
            unfold soC
            simp [c4, c11, c21, c29, c40]
    · refine pw_iconst (v := 0) (tk tkX3_setsOff 6 rfl) (by decide) ?_
      refine pw_ireturn (tk tkX3_setsOff 7 rfl) rfl (by decide) (by first | rfl | exact nar_bI _) ?_
      refine ⟨congrArg (fun b => Sum.inl (some (Value.int (bI b)))) (show false = soC (sRu (cSt x.1 b) i) (sRu (cSt x.1 b2) j) from ?_), rfl⟩
      unfold soC
      simp [c4, c11]
