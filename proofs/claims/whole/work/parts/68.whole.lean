set_option maxHeartbeats 4000000 in
/-- YOUR PART: from the entry, for every script of at most 3072 ints, the law comes to its end with true ('hflags': the launch's flags, for a law that throws: no stack traces) -/
theorem whole_start {p : Program} {e : Env} {s : State} {m : MethodId} {below : List Frame} {meth : Method} {c : Code} (l : Launch) (hflags : l.flags = flags0) {b L : Nat} {xs : Nat → Int32} (hL : L ≤ 3072) (C0 : lw_At p s m meth c b L xs) : W p l e room_1 s m #[Value.ref b] below meth c s.heap [] 0 0 (lw_Z below #[Value.ref b] s) (entryFrame m ([Value.ref b] : List Value).toArray 7) := by
  obtain ⟨hx, hb, hr, hml, hown, hts, hX, hbl, hlocks, hgv⟩ := C0
  have hfl := flat_of_before _ hgv
  have hU : ∀ w ∈ UU, w.before #[Value.ref b] s = true := fun w hw => hts w (List.mem_filter.mp hw).1
  obtain ⟨D, hD⟩ := Classical.axiomOfChoice (ke_cls hU)
  obtain ⟨ar, har⟩ := Classical.axiomOfChoice (ke_arr hts)
  have hA : ∀ a : Nat, a < s.heap.size → ¬ (fun q : Nat => s.heap.size ≤ q) a := fun a h q => absurd h (Nat.not_lt.mpr q)
  obtain ⟨adK, adV, hS, hev⟩ := vk_Sof (args := #[Value.ref b]) (s := s) (N := 4) (tm := tmS) (len := tlen) (byt := tbyt) (A := fun q : Nat => s.heap.size ≤ q) (by decide) (fun i hi => hfl _ (gv_ex i hi)) (fun i hi => hfl _ (gv_co i hi)) (fun i hi => hfl _ (gv_ar i hi)) (fun i hi => hfl _ (gv_le i hi)) (fun i hi j hj => hfl _ (gv_el i hi j hj)) (fun i j hi hj hij => (gv_ne i hi j hj hij).imp (fun h => hfl _ h) (fun h => hfl _ h)) hA
  obtain ⟨hh, htab⟩ := tableOf_all c.exceptionTable.toList
  obtain ⟨adr, eadr⟩ : ∃ adr : Nat → Nat, adr = fun k => if k < 1010 then adK (k - 1000) else if k < 1020 then adV (k - 1010) else b := ⟨_, rfl⟩
  have e1 : ∀ i, i < 4 → adr (1000 + i) = adK i := fun i hi => by
    rw [eadr]
    show (if 1000 + i < 1010 then adK (1000 + i - 1000) else _) = _
    rw [if_pos (by omega), Nat.add_sub_cancel_left]
  have e2 : ∀ i, i < 4 → adr (1010 + i) = adV i := fun i hi => by
    rw [eadr]
    show (if 1010 + i < 1010 then _ else if 1010 + i < 1020 then adV (1010 + i - 1010) else b) = _
    rw [if_neg (by omega), if_pos (by omega), Nat.add_sub_cancel_left]
  have e3 : adr 1020 = b := by
    rw [eadr]
    show (if 1020 < 1010 then _ else if 1020 < 1020 then _ else b) = b
    rw [if_neg (by omega), if_neg (by omega)]
  obtain ⟨G, eG⟩ : ∃ G : PG, G = (((fun k => (D k).1), fun k => (D k).2), ar, s.heap.size, adr) := ⟨_, rfl⟩
  have g1 : G.2.2.1 = s.heap.size := by rw [eG]
  have g2 : G.2.2.2 = adr := by rw [eG]
  have hOW : OW G s := by
    refine ke_OW hts hgv g1 ?_ (fun i hi => by rw [g2, e1 i hi]; exact hev i hi)
    rw [g2, show fr G = fun q : Nat => s.heap.size ≤ q from by unfold fr; rw [g1]]
    refine ⟨fun i hi => ?_, fun i j hi hj q => hS.2 i j hi hj ?_⟩
    · have q := hS.1 i hi
      rw [← e1 i hi, ← e2 i hi] at q
      exact q
    · rw [← e1 i hi, ← e1 j hj]; exact q
  have hK : va_K G.1 vwCl (tys G) s := by
    rw [eG]
    refine ⟨fun k q hq => hD k q hq, fun k q hq => ?_⟩
    obtain ⟨t, ht, rfl⟩ := List.mem_map.mp (List.mem_of_getElem? hq)
    exact har t ht
  have htr : l.stackTraces = false := by
    unfold Launch.stackTraces
    rw [hflags]
    decide +kernel
  have C9 : Cx (ML9 L xs meth.name hh) 32 7000 QL p l room_1 s m #[Value.ref b] meth c G :=
    ⟨⟨hx, hb, hml, hr, hown, rfl⟩, hU, hlocks, htab, hK, hOW, Nat.le_of_eq g1, ⟨by decide, by decide, by decide, by decide⟩, htr, fun _ => ⟨fun o h q => q, by rw [g2, e3]; exact hX, by rw [g1, g2, e3]; exact hbl, g1, rfl, Nat.le_refl _, ⟨b, rfl⟩⟩⟩
  have eb : ([Value.ref 1020] : List Value).map (cv G) = [Value.ref b] := by
    show [Value.ref (ad G 1020)] = _
    rw [ad_hi (by decide), g2, e3]
  have hv := lvS_entry (G := G) (args := [.ref 1020]) (k := 6) (L := 7) (ls := [some (.ref 1020), none, none, none, none, none, none]) rfl (by rw [lg_len]; decide)
  rw [eb] at hv
  have w := law_all (xs := xs) (nm := meth.name) (hh := hh) hL p l e room_1 s m #[Value.ref b] below meth c G 7000 s.heap [] 0 0 _ C9 (by decide) (by decide) ⟨fun z hz => by cases hz; exact g1.symm, Nat.le_of_eq g1, fun k c hk => by cases hk⟩ va_S.rf hv
  rw [lg_entry_eq]
  unfold PZ at w
  rw [if_neg (show ¬ (2 : Nat) = 0 by decide), if_neg (show ¬ (2 : Nat) = 1 by decide)] at w
  exact w
