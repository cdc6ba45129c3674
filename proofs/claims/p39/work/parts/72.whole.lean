set_option maxHeartbeats 4000000 in
/-- YOUR PART: from the entry, for every script of at most 260 ints, the law comes to its end with true ('hflags': the launch's flags, for a law that throws: no stack traces) -/
theorem whole_start {p : Program} {e : Env} {s : State} {m : MethodId} {below : List Frame} {meth : Method} {c : Code} (l : Launch) (hflags : l.flags = flags0) {b L : Nat} {xs : Nat → Int32} (hL : L ≤ 260) (C0 : lw_At p s m meth c b L xs) : W p l e room_1 s m #[Value.ref b] below meth c s.heap [] 0 0 (lw_Z below #[Value.ref b] s) (entryFrame m ([Value.ref b] : List Value).toArray 10) := by
  obtain ⟨hx, hb, hr, hml, hown, hts, hX, hbl, hlocks, hgv⟩ := C0
  have hU : ∀ w ∈ UU, w.before #[Value.ref b] s = true := fun w hw => hts w (List.mem_filter.mp hw).1
  obtain ⟨D, hD⟩ := Classical.axiomOfChoice (ke_cls hU)
  obtain ⟨ar, har⟩ := Classical.axiomOfChoice (ke_arr hts)
  obtain ⟨hh, htab⟩ := tableOf_all c.exceptionTable.toList
  obtain ⟨adr, eadr⟩ : ∃ adr : Nat → Nat, adr = fun k => if k < 1000 then layL k else if k = 5000 then 0 else b := ⟨_, rfl⟩
  have e1 : ∀ k, k < 1000 → adr k = layL k := fun k hk => by rw [eadr]; exact if_pos hk
  have e2 : adr 5000 = 0 := by
    rw [eadr]
    show (if (5000 : Nat) < 1000 then layL 5000 else if (5000 : Nat) = 5000 then 0 else b) = 0
    rw [if_neg (by decide), if_pos rfl]
  have e3 : adr 1020 = b := by
    rw [eadr]
    show (if (1020 : Nat) < 1000 then layL 1020 else if (1020 : Nat) = 5000 then 0 else b) = b
    rw [if_neg (by decide), if_neg (by decide)]
  obtain ⟨G, eG⟩ : ∃ G : PG, G = (((fun k => (D k).1), fun k => (D k).2), ar, s.heap.size, adr) := ⟨_, rfl⟩
  have g1 : G.2.2.1 = s.heap.size := by rw [eG]
  have g2 : G.2.2.2 = adr := by rw [eG]
  have hLG : LG G := ⟨by rw [g2, e2], fun k hk => by rw [g2, e1 k hk]⟩
  have hOW : OW G s := ke_OW hts hgv g1 ⟨L, xs, by rw [g2, e3]; exact hX, hL, by rw [g1, g2, e3]; exact hbl, by rw [g2, e3]; exact hbl⟩
  have hK : va_K G.1 vwCl (tys G) s := by
    rw [eG]
    refine ⟨fun k q hq => hD k q hq, fun k q hq => ?_⟩
    obtain ⟨t, ht, rfl⟩ := List.mem_map.mp (List.mem_of_getElem? hq)
    exact har t ht
  have htr : l.stackTraces = false := by
    unfold Launch.stackTraces
    rw [hflags]
    decide +kernel
  have C9 : Cx (ML9 meth.name hh) 40 7000 QL p l room_1 s m #[Value.ref b] meth c G :=
    ⟨⟨hx, hb, hml, hr, hown, rfl⟩, hU, hlocks, htab, hK, hOW, Nat.le_of_eq g1, ⟨by decide, by decide, by decide, by decide⟩, htr, fun _ => ⟨fun o h q => q, hLG, g1, rfl, Nat.le_refl _, ⟨b, rfl⟩⟩⟩
  have eb : ([Value.ref 1020] : List Value).map (cv G) = [Value.ref b] := by
    show [Value.ref (ad G 1020)] = _
    rw [ad_hi (by decide), g2, e3]
  have hv := lvS_entry (G := G) (args := [.ref 1020]) (k := 9) (L := 10) (ls := [some (.ref 1020), none, none, none, none, none, none, none, none, none]) rfl (by rw [lg_len]; decide)
  rw [eb] at hv
  have R0 : Rp G (some 0, fun _ => none) s.heap := by
    refine ⟨fun z hz => ?_, Nat.le_of_eq g1, (fun k c hk => by cases hk), fun i j hi hj q => ?_⟩
    · cases hz
      refine ⟨by rw [hLG.1, g1]; rfl, fun k hk => ?_⟩
      rw [hLG.1, hLG.2 k (by omega), Nat.zero_add]
      exact if_pos hk
    · rw [hLG.2 i hi, hLG.2 j hj] at q
      exact layL_inj q
  have w := law_all (nm := meth.name) (hh := hh) p l e room_1 s m #[Value.ref b] below meth c G 7000 s.heap [] 0 0 _ C9 (by decide) (by decide) R0 va_S.rf hv
  rw [lg_entry_eq]
  unfold PZ at w
  rw [if_neg (show ¬ (2 : Nat) = 0 by decide), if_neg (show ¬ (2 : Nat) = 1 by decide)] at w
  exact w
