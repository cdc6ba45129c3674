theorem goP_VS {u : Nat} (T : Nat → Int32) (n : Nat) : ∀ (f sp : Nat) (g : Bool) (s : Nat → Int32) (dn : Int32), VS u s → VS u (goP u T n f sp g s dn).2.2.1
  | 0, _, _, _, _, h => h
  | f + 1, sp, g, s, dn, h => by
    have key : ∀ (R : RDT) (g2 : Bool) (s2 : Nat → Int32) (d2 : Int32), VS u s2 → VS u (goN (goP u T n f) T n R g2 s2 d2).2.2.1 := by
      intro R g2 s2 d2 h2
      unfold goN
      split
      · split
        · exact goP_VS T n f _ _ _ _ h2
        · exact h2
      · exact h2
    show VS u (if _ then _ else _ : GT).2.2.1
    split
    · split
      · exact key _ _ _ _ (fin_VS h (doT_VS h _ _ _ _ _))
      · exact key _ _ _ _ (fin_VS h (doT_VS h _ _ _ _ _))
    · exact key _ _ _ _ h
theorem xRec_rest (x : XW) (k : Nat) : mTx (xRec (xThr x 0) k).2.1 = mTx x.2.1 ∧ mF (xRec (xThr x 0) k).2.1 8 = mF x.2.1 8 := by
  unfold xRec xRecA
  split <;> exact ⟨rfl, rfl⟩
def srunText (a : AM) : RS3 := if (gA a false).1 = true then (1, 0, a) else (0, (gA a true).2.2.2, ((gA a true).2.2.1, recH a (aS a), a.2.2.1, (0, aT a)))
set_option maxRecDepth 100000 in
set_option maxHeartbeats 4000000 in
theorem ct_X8_runText (x : XW) (hx : VM x.2.1)  : CT MX8_runText 10 0 [.ref 171] (hp x) (MOQ x (srunText (aOf x.2.1) )) := by
  refine ct_of (by decide +kernel) (by decide) rfl (k := 0) (ls := [some (.ref 171)]) rfl (Nat.le_of_ble_eq_true rfl) ?_
  obtain ⟨hu, hu8⟩ := hx.u
  obtain ⟨l99, hl, el⟩ := hx.l
  have hv : VS (uN (mS x.2.1)) (mS x.2.1) := hx.2.2.2.2.2
  have ect : CT MX8_goesThrough 8 0 [.ref 171, .int (bI false)] (hp x) (gtQ x false (gA (aOf x.2.1) false)) := ct_X8_goesThrough x (uN (mS x.2.1)) (aN (aOf x.2.1)) false hv hx.2.2.1 hx.2.2.2.1
  obtain ⟨G, hG⟩ : ∃ G, G = gA (aOf x.2.1) false := ⟨_, rfl⟩
  obtain ⟨G1, hG1⟩ : ∃ G, G = gA (aOf x.2.1) true := ⟨_, rfl⟩
  have hvG : VS (uN (mS x.2.1)) G1.2.2.1 := by rw [hG1]; exact goP_VS _ _ _ _ _ _ _ hv
  have eR : srunText (aOf x.2.1) = if G.1 = true then (1, 0, aOf x.2.1) else (0, G1.2.2.2, (G1.2.2.1, recH (aOf x.2.1) (mS x.2.1), (aOf x.2.1).2.2.1, (0, aT (aOf x.2.1)))) := by rw [hG, hG1]; rfl
  rw [← hG] at ect
  rw [eR]
  refine pw_aload_n (tk tkX8_runText 0 rfl) rfl ?_
  refine pw_iconst (v := 0) (tk tkX8_runText 1 rfl) (by decide) ?_
  refine pw_callV ect okX8_goesThrough (tk tkX8_runText 2 rfl) mkX8_181 imX8_goesThrough seX8_goesThrough (hp_ot _ 11) rfl rfl rfl (by decide) (by decide) (Nat.le_of_ble_eq_true rfl) (fun r h2 q => ?_) (fun E h2 q => by cases q.1)
  obtain ⟨ho, y, rfl, gd, y14, y15, y21, es, ex⟩ := q
  cases ho
  have ey := ex rfl
  refine pw_aload_n (tk tkX8_runText 3 rfl) rfl ?_
  refine pw_aload_n (tk tkX8_runText 4 rfl) rfl ?_
  refine g8_isWrong (tk tkX8_runText 5 rfl) fkX8_144 ?_
  rw [y15]
  refine pw_ifb (tgt := 17) (tk tkX8_runText 6 rfl) (by decide) (fun c10 => ?_) (fun c10 => ?_)
  · refine pw_iconst (v := 0) (tk tkX8_runText 9 rfl) (by decide) ?_
    refine pw_cV (ct_X8_holds y _) okX8_holds (tk tkX8_runText 10 rfl) mkX8_97 imX8_holds seX8_holds (hp_ot _ 11) rfl rfl rfl (by decide) (by decide) (Nat.le_of_ble_eq_true rfl) ?_
    refine pw_ifnb (tgt := 26) (tk tkX8_runText 11 rfl) (by decide) (fun c21 => ?_) (fun c21 => absurd c21 (by decide))
    refine pw_aload_n (tk tkX8_runText 14 rfl) rfl ?_
    refine pw_cV0 (ct_X8_record (xThr y 0) (aK (aOf x.2.1)) ((gd.2.2.2.2.2 4 (by decide)).trans hx.1) hx.2.1) okX8_record (tk tkX8_runText 15 rfl) mkX8_100 imX8_record seX8_record (hp_ot _ 11) rfl rfl rfl (by decide) (by decide) (Nat.le_of_ble_eq_true rfl) ?_
    rw [xRec_eq y, ey]
    have ect1 : CT MX8_goesThrough 8 0 [.ref 171, .int (bI true)] (hp (uM1 (xRec (xThr y 0) (aK (aOf x.2.1))) (mS x.2.1))) (gtQ (uM1 (xRec (xThr y 0) (aK (aOf x.2.1))) (mS x.2.1)) true G1) := by
      have q := ct_X8_goesThrough (uM1 (xRec (xThr y 0) (aK (aOf x.2.1))) (mS x.2.1)) (uN (mS x.2.1)) (aN (aOf x.2.1)) true hv ((xRec_rest y _).2.trans ((gd.2.2.2.2.2 8 (by decide)).trans hx.2.2.1)) hx.2.2.2.1
      rw [show mTx (uM1 (xRec (xThr y 0) (aK (aOf x.2.1))) (mS x.2.1)).2.1 = mTx x.2.1 from (xRec_rest y _).1.trans gd.2.2.2.2.1] at q
      rw [hG1]
      exact q
    refine pw_aload_n (tk tkX8_runText 16 rfl) rfl ?_
    refine pw_iconst (v := 1) (tk tkX8_runText 17 rfl) (by decide) ?_
    refine pw_callV ect1 okX8_goesThrough (tk tkX8_runText 18 rfl) mkX8_181 imX8_goesThrough seX8_goesThrough (hp_ot _ 11) rfl rfl rfl (by decide) (by decide) (Nat.le_of_ble_eq_true rfl) (fun r h2 q => ?_) (fun E h2 q => by cases q.1)
    obtain ⟨ho, z, rfl, gz, z14, z15, z21, ez, _⟩ := q
    cases ho
    refine pw_aload_n (tk tkX8_runText 19 rfl) rfl ?_
    refine pw_iconst (v := 0) (tk tkX8_runText 20 rfl) (by decide) ?_
    refine p8_length (tk tkX8_runText 21 rfl) fkX8_141 ?_
    refine pw_aload_n (tk tkX8_runText 22 rfl) rfl ?_
    refine g8_done (tk tkX8_runText 23 rfl) fkX8_172 ?_
    refine pw_ireturn (tk tkX8_runText 24 rfl) rfl (by decide) rfl ?_
    rw [if_neg (fun q => Bool.noConfusion (c10.symm.trans q))]
    obtain ⟨a, b, c, d, f⟩ := recX (y := xPA (xThr y 0)) hx ⟨gd.1, gd.2.1, (fun j hj => by rw [← ey]; exact cpN_E _ _ j hj), gd.2.2.1, gd.2.2.2.1, gd.2.2.2.2.1, rfl, gd.2.2.2.2.2 4 (by decide), gd.2.2.2.2.2 6 (by decide), gd.2.2.2.2.2 8 (by decide)⟩ (mS x.2.1) hv
    have hz : VS (uN (mS z.2.1)) (mS z.2.1) := by
      have q := hvG.E ez.sy
      rw [q.un]; exact q
    obtain ⟨v1, v2, v3, v4, v5, v6⟩ := VM.of d (gz.2.2.2.2.2 4 (by decide)) (gz.2.2.2.2.2 8 (by decide)) (by rw [gz.2.2.2.2.2 6 (by decide)]; exact d.2.2.2.2.1) hz
    refine ⟨sF z 8 0, rfl, gz.1.trans a, gz.2.1.trans b, (gz.2.2.2.2.2 0 (by decide)).trans c, congrArg (fun z => Sum.inl (some (Value.int z))) z21, ⟨v1, v2, rfl, Nat.zero_le _, v5, v6⟩, ez.sy, f.2.1.trans (congrArg Int32.toNatClampNeg (gz.2.2.2.2.2 4 (by decide))).symm, ?_, ?_, ?_, rfl, fun i hi => absurd hi (Nat.not_lt_zero i)⟩
    · intro i hi j hj; exact (f.2.2.1 i hi j hj).trans (by show mHi _ _ = mHi z.2.1 _; rw [gz.2.2.1]; rfl)
    · intro i hi; exact (f.2.2.2.1 i hi).trans (by show decide ((mF _ 6 >>> (nI i &&& 31)) &&& 1 = 1) = decide ((mF z.2.1 6 >>> (nI i &&& 31)) &&& 1 = 1); rw [gz.2.2.2.2.2 6 (by decide)]; rfl)
    · intro i hi hb j hj; exact (f.2.2.2.2.1 i hi hb j hj).trans (by show mSl _ _ = mSl z.2.1 _; rw [gz.2.2.2.1]; rfl)
  · refine pw_iconst (v := 1) (tk tkX8_runText 7 rfl) (by decide) ?_
    refine pw_goto (tgt := 18) (tk tkX8_runText 8 rfl) (by decide) ?_
    refine pw_cV (ct_X8_holds y _) okX8_holds (tk tkX8_runText 10 rfl) mkX8_97 imX8_holds seX8_holds (hp_ot _ 11) rfl rfl rfl (by decide) (by decide) (Nat.le_of_ble_eq_true rfl) ?_
    refine pw_ifnb (tgt := 26) (tk tkX8_runText 11 rfl) (by decide) (fun c21 => absurd c21 (by decide)) (fun c21 => ?_)
    refine pw_iconst (v := 0) (tk tkX8_runText 12 rfl) (by decide) ?_
    refine pw_ireturn (tk tkX8_runText 13 rfl) rfl (by decide) rfl ?_
    obtain ⟨q1, q2⟩ := gd.vm hx (by rw [ey]; exact fun _ _ => rfl)
    rw [if_pos c10]
    exact ⟨_, rfl, gd.1, gd.2.1, rfl, rfl, q1.thr 1, q2⟩
