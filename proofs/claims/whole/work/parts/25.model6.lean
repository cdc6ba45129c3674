set_option maxRecDepth 100000 in
set_option maxHeartbeats 4000000 in
theorem folS (u : Nat) (Q : Out → Hp → Prop) (f its : Nat) (hf : its + f = 5)
    (LV : ∀ (f' : Nat), f = f' + 1 → ∀ (p : Nat → Bool) (x : XW) (l1 : Option Value), VS u (mS x.2.1) → mF x.2.1 10 = nI (its + 1) → mWa x.2.1 (its + 1) = mkM (pge p 0) u → mF x.2.1 13 = 0 →
      (∀ y l1, FR (its + 1) x y → tX y = lpT (acT (hapT u f') (its + 1)) p u 0 (tX x) → mF y.2.1 13 = 0 → mF y.2.1 10 = nI (its + 1) → mWa y.2.1 (its + 1) = 0 → PW MX8_follows 4 0 0 [some (.ref 171), l1] [] (hp y) Q) →
      (∀ y, FR (its + 1) x y → tX y = lpT (acT (hapT u f') (its + 1)) p u 0 (tX x) → ¬ mF y.2.1 13 = 0 → Q (.inl (some (.int 0))) (hp y)) →
      PW MX8_follows 4 0 0 [some (.ref 171), l1] [] (hp x) Q) :
    ∀ (k i : Nat), i + k = u → ∀ (p : Nat → Bool) (x : XW) (l1 : Option Value), VS u (mS x.2.1) → mF x.2.1 10 = nI its → mWa x.2.1 its = mkM (pge p i) u → mF x.2.1 13 = 0 →
    (∀ y l1, FR its x y → tX y = lpT (acT (hapT u f) its) p k i (tX x) → mF y.2.1 13 = 0 → mF y.2.1 10 = nI its → mWa y.2.1 its = 0 → PW MX8_follows 4 0 0 [some (.ref 171), l1] [] (hp y) Q) →
    (∀ y, FR its x y → tX y = lpT (acT (hapT u f) its) p k i (tX x) → ¬ mF y.2.1 13 = 0 → Q (.inl (some (.int 0))) (hp y)) →
    PW MX8_follows 4 0 0 [some (.ref 171), l1] [] (hp x) Q := by
  intro k
  induction k with
  | zero =>
    intro i hi p x l1 hv h10 hw h13 KT KF
    have ei : i = u := by omega
    rw [ei, pge_u] at hw
    exact KT x l1 (FR.rf _ _) rfl h13 h10 hw
  | succ k ih =>
    intro i hi p x l1 hv h10 hw h13 KT KF
    have hu8 : u ≤ 8 := hv.1
    have hiu : i < u := by omega
    cases hpi : p i with
    | false =>
      have e0 : lpT (acT (hapT u f) its) p (k + 1) i (tX x) = lpT (acT (hapT u f) its) p k (i + 1) (tX x) := by
        show lpT _ p k (i + 1) (if _ then _ else _) = _
        rw [if_neg (fun q => by rw [hpi] at q; cases q.1)]
      rw [pge_f p i u hpi] at hw
      rw [e0] at KT KF
      exact ih (i + 1) (by omega) p x l1 hv h10 hw h13 KT KF
    | true =>
      have e0 : lpT (acT (hapT u f) its) p (k + 1) i (tX x) = lpT (acT (hapT u f) its) p k (i + 1) (acT (hapT u f) its i (tX x)) := by
        show lpT _ p k (i + 1) (if _ then _ else _) = _
        rw [if_pos ⟨hpi, h13⟩]
      rw [e0] at KT KF
      have hne : ¬ mkM (pge p i) u = 0 := mk_ne _ hu8 hiu (by unfold pge; rw [hpi, decide_eq_true (Nat.le_refl _)]; rfl)
      -- after the bit is found
      have J56 : PW MX8_follows 4 0 56 [some (.ref 171), some (.int (nI i))] [] (hp x) Q := by
        have hx1 : FR its x (uM6 x (upd (mWa x.2.1) its (mkM (pge p (i + 1)) u))) := FR.w x its _ (Nat.le_refl _)
        have ect := ct_X8_acts (uM6 x (upd (mWa x.2.1) its (mkM (pge p (i + 1)) u))) u i its hv hiu h10 (by omega)
        have tx1 : tX (uM6 x (upd (mWa x.2.1) its (mkM (pge p (i + 1)) u))) = tX x := rfl
        rcases acX_cs (uM6 x (upd (mWa x.2.1) its (mkM (pge p (i + 1)) u))) its hv hiu with ⟨b, x2, e, hb, hbt, hbf, hH⟩ | ⟨ev, r, cl, v, hr, hc, e, hH⟩
        · rw [e] at ect
          cases b with
          | true =>
            obtain rfl := hbt rfl
            refine pw_aload_n (tk tkX8_follows 30 rfl) rfl ?_
            refine g8_waiting (tk tkX8_follows 31 rfl) fkX8_25 ?_
            refine pw_aload_n (tk tkX8_follows 32 rfl) rfl ?_
            refine g8_depth (tk tkX8_follows 33 rfl) fkX8_62 ?_
            refine pw_dup2 (tk tkX8_follows 34 rfl) rfl rfl ?_
            refine al_waiting_e (e := its) (tk tkX8_follows 35 rfl) h10 (by first | decide | omega) ?_
            refine pw_iconst (v := 1) (tk tkX8_follows 36 rfl) (by decide) ?_
            refine pw_iload_n (tk tkX8_follows 37 rfl) rfl ?_
            refine pw_ishl (tk tkX8_follows 38 rfl) ?_
            refine pw_iconst (v := (-1)) (tk tkX8_follows 39 rfl) (by decide) ?_
            refine pw_ixor (tk tkX8_follows 40 rfl) ?_
            rw [hw]
            refine pw_iand (tk tkX8_follows 41 rfl) ?_
            rw [pge_t p hu8 hiu]
            refine as_waiting_e (e := its) (tk tkX8_follows 42 rfl) h10 (by first | decide | omega) ?_
            refine pw_aload_n (tk tkX8_follows 43 rfl) rfl ?_
            refine pw_iload_n (tk tkX8_follows 44 rfl) rfl ?_
            refine pw_cV ect okX8_acts (tk tkX8_follows 45 rfl) mkX8_80 imX8_acts seX8_acts (hp_ot _ 11) rfl rfl rfl (by decide) (by decide) (Nat.le_of_ble_eq_true rfl) ?_
            refine pw_ifnb (tgt := 83) (tk tkX8_follows 46 rfl) (by decide) (fun c78 => ?_) (fun c78 => Bool.noConfusion c78)
            refine pw_goto (tgt := 0) (tk tkX8_follows 49 rfl) (by decide) ?_
            refine ih (i + 1) (by omega) p _ _ (lgS_VS hv _ hiu) h10 (upd_at _ _ _) h13 (fun y l1 a b c d e => ?_) (fun y a b c => ?_)
            · exact KT y l1 ((hx1.tr (FR.s _ _)).tr a) (b.trans (congrArg (lpT (acT (hapT u f) its) p k (i + 1)) (hH (hapT u f)).symm)) c d e
            · exact KF y ((hx1.tr (FR.s _ _)).tr a) (b.trans (congrArg (lpT (acT (hapT u f) its) p k (i + 1)) (hH (hapT u f)).symm)) c
          | false =>
            obtain rfl := hbf rfl
            refine pw_aload_n (tk tkX8_follows 30 rfl) rfl ?_
            refine g8_waiting (tk tkX8_follows 31 rfl) fkX8_25 ?_
            refine pw_aload_n (tk tkX8_follows 32 rfl) rfl ?_
            refine g8_depth (tk tkX8_follows 33 rfl) fkX8_62 ?_
            refine pw_dup2 (tk tkX8_follows 34 rfl) rfl rfl ?_
            refine al_waiting_e (e := its) (tk tkX8_follows 35 rfl) h10 (by first | decide | omega) ?_
            refine pw_iconst (v := 1) (tk tkX8_follows 36 rfl) (by decide) ?_
            refine pw_iload_n (tk tkX8_follows 37 rfl) rfl ?_
            refine pw_ishl (tk tkX8_follows 38 rfl) ?_
            refine pw_iconst (v := (-1)) (tk tkX8_follows 39 rfl) (by decide) ?_
            refine pw_ixor (tk tkX8_follows 40 rfl) ?_
            rw [hw]
            refine pw_iand (tk tkX8_follows 41 rfl) ?_
            rw [pge_t p hu8 hiu]
            refine as_waiting_e (e := its) (tk tkX8_follows 42 rfl) h10 (by first | decide | omega) ?_
            refine pw_aload_n (tk tkX8_follows 43 rfl) rfl ?_
            refine pw_iload_n (tk tkX8_follows 44 rfl) rfl ?_
            refine pw_cV ect okX8_acts (tk tkX8_follows 45 rfl) mkX8_80 imX8_acts seX8_acts (hp_ot _ 11) rfl rfl rfl (by decide) (by decide) (Nat.le_of_ble_eq_true rfl) ?_
            refine pw_ifnb (tgt := 83) (tk tkX8_follows 46 rfl) (by decide) (fun c78 => Bool.noConfusion c78) (fun c78 => ?_)
            refine pw_iconst (v := 0) (tk tkX8_follows 47 rfl) (by decide) ?_
            refine pw_ireturn (tk tkX8_follows 48 rfl) rfl (by decide) (by first | rfl | exact nar_bI _) ?_
            refine KF _ ((hx1.tr (FR.s _ _)).tr (FR.f _ 13 _ (by omega))) ?_ (by show ¬ (2 : Int32) = 0; decide)
            rw [← tx1, hH (hapT u f)]
            exact (lpT_stop _ p k (i + 1) _ (by show ¬ (2 : Int32) = 0; decide)).symm
        · have e1 : acX (uM6 x (upd (mWa x.2.1) its (mkM (pge p (i + 1)) u))) u i its = (decide (bgC (lgS (mS x.2.1) i (nI its)) u (mF x.2.1 12) ev r cl v (nI (its + 1)) = 0), bgX (uM1 (uM6 x (upd (mWa x.2.1) its (mkM (pge p (i + 1)) u))) (lgS (mS x.2.1) i (nI its))) u ev r cl v (its + 1)) := e
          rw [e1] at ect
          have ebg := tX_bg (uM1 (uM6 x (upd (mWa x.2.1) its (mkM (pge p (i + 1)) u))) (lgS (mS x.2.1) i (nI its))) u ev r cl v (its + 1)
          by_cases h0 : bgC (lgS (mS x.2.1) i (nI its)) u (mF x.2.1 12) ev r cl v (nI (its + 1)) = 0
          · rw [show decide (bgC (lgS (mS x.2.1) i (nI its)) u (mF x.2.1 12) ev r cl v (nI (its + 1)) = 0) = true from decide_eq_true h0] at ect
            have hi5 : its + 1 ≤ 5 := by
              rcases bgC_cs (lgS (mS x.2.1) i (nI its)) u (mF x.2.1 12) ev r cl v (nI (its + 1)) with q | q | q | ⟨_, q⟩
              · rw [q] at h0; exact absurd h0 (by decide)
              · rw [q] at h0; exact absurd h0 (by decide)
              · rw [q] at h0; exact absurd h0 (by decide)
              · obtain ⟨dp, h5, e24⟩ := (lgS_VS hv (nI its) hiu).2.2.1
                rw [e24] at q
                exact Nat.le_trans ((nI_leI (by omega) (by omega)).mp q) h5
            obtain ⟨f', rfl⟩ : ∃ f', f = f' + 1 := ⟨f - 1, by omega⟩
            have hW : bgX (uM1 (uM6 x (upd (mWa x.2.1) its (mkM (pge p (i + 1)) u))) (lgS (mS x.2.1) i (nI its))) u ev r cl v (its + 1) = bgW (uM1 (uM6 x (upd (mWa x.2.1) its (mkM (pge p (i + 1)) u))) (lgS (mS x.2.1) i (nI its))) u ev r cl v (its + 1) := if_pos h0
            have eH : acT (hapT u (f' + 1)) its i (tX x) = lpT (acT (hapT u f') (its + 1)) (mtC (lgS (mS x.2.1) i (nI its)) ev r (nI cl) v false) u 0 (tX (bgX (uM1 (uM6 x (upd (mWa x.2.1) its (mkM (pge p (i + 1)) u))) (lgS (mS x.2.1) i (nI its))) u ev r cl v (its + 1))) := by
              rw [ebg]
              exact (hH (hapT u (f' + 1))).trans (if_pos h0)
            rw [hW] at ect eH
            refine pw_aload_n (tk tkX8_follows 30 rfl) rfl ?_
            refine g8_waiting (tk tkX8_follows 31 rfl) fkX8_25 ?_
            refine pw_aload_n (tk tkX8_follows 32 rfl) rfl ?_
            refine g8_depth (tk tkX8_follows 33 rfl) fkX8_62 ?_
            refine pw_dup2 (tk tkX8_follows 34 rfl) rfl rfl ?_
            refine al_waiting_e (e := its) (tk tkX8_follows 35 rfl) h10 (by first | decide | omega) ?_
            refine pw_iconst (v := 1) (tk tkX8_follows 36 rfl) (by decide) ?_
            refine pw_iload_n (tk tkX8_follows 37 rfl) rfl ?_
            refine pw_ishl (tk tkX8_follows 38 rfl) ?_
            refine pw_iconst (v := (-1)) (tk tkX8_follows 39 rfl) (by decide) ?_
            refine pw_ixor (tk tkX8_follows 40 rfl) ?_
            rw [hw]
            refine pw_iand (tk tkX8_follows 41 rfl) ?_
            rw [pge_t p hu8 hiu]
            refine as_waiting_e (e := its) (tk tkX8_follows 42 rfl) h10 (by first | decide | omega) ?_
            refine pw_aload_n (tk tkX8_follows 43 rfl) rfl ?_
            refine pw_iload_n (tk tkX8_follows 44 rfl) rfl ?_
            refine pw_cV ect okX8_acts (tk tkX8_follows 45 rfl) mkX8_80 imX8_acts seX8_acts (hp_ot _ 11) rfl rfl rfl (by decide) (by decide) (Nat.le_of_ble_eq_true rfl) ?_
            refine pw_ifnb (tgt := 83) (tk tkX8_follows 46 rfl) (by decide) (fun c78 => ?_) (fun c78 => Bool.noConfusion c78)
            refine pw_goto (tgt := 0) (tk tkX8_follows 49 rfl) (by decide) ?_
            have hfr : FR (its + 1) (uM6 x (upd (mWa x.2.1) its (mkM (pge p (i + 1)) u))) (bgW (uM1 (uM6 x (upd (mWa x.2.1) its (mkM (pge p (i + 1)) u))) (lgS (mS x.2.1) i (nI its))) u ev r cl v (its + 1)) := by rw [← hW]; exact (FR.s _ _).tr (FR.bg _ u ev r cl v _ (Nat.le_refl _))
            refine LV f' rfl (mtC (lgS (mS x.2.1) i (nI its)) ev r (nI cl) v false) _ _ (alt_VS (lgS_VS hv _ hiu) ev v hr hc) rfl ((upd_at _ _ _).trans (pge_0 _ u)) rfl (fun y l1 a b g3 d e => ?_) (fun y a b g3 => ?_)
            · have hv' : VS u (mS y.2.1) := by
                have q := lpT_KV (u := u) (s := mS x.2.1) (F := acT (hapT u f') (its + 1)) (fun i t hi ht => acT_KV (fun t ev r c v d => hapT_KV u _ f' t ev r c v d) (its + 1) i t hi ht) (mtC (lgS (mS x.2.1) i (nI its)) ev r (nI cl) v false) u 0 (tX (bgW (uM1 (uM6 x (upd (mWa x.2.1) its (mkM (pge p (i + 1)) u))) (lgS (mS x.2.1) i (nI its))) u ev r cl v (its + 1))) (by omega) ⟨alt_VS (lgS_VS hv _ hiu) ev v hr hc, (lgS_SR _ _ _).tr (fun j a _ _ => alt_nt _ ev v hr hc a)⟩
                rw [← b] at q
                exact q.1
              have hy : FR its x y := hx1.tr ((hfr.tr a).lo (Nat.le_succ _))
              have ty : tX y = acT (hapT u (f' + 1)) its i (tX x) := b.trans eH.symm
              have wy : mWa y.2.1 its = mkM (pge p (i + 1)) u := ((hfr.tr a).2.2.2.2.2.2.2 its (Nat.lt_succ_self _)).trans (upd_at _ _ _)
              refine pw_aload_n (tk tkX8_follows 0 rfl) rfl ?_
              refine g8_depth (tk tkX8_follows 1 rfl) fkX8_62 ?_
              refine pw_if_lt (tgt := 86) (tk tkX8_follows 2 rfl) (by decide) (fun c4 => absurd c4 (by rw [d]; exact nI_pos (by omega))) (fun c4 => ?_)
              refine pw_aload_n (tk tkX8_follows 3 rfl) rfl ?_
              refine g8_waiting (tk tkX8_follows 4 rfl) fkX8_25 ?_
              refine pw_aload_n (tk tkX8_follows 5 rfl) rfl ?_
              refine g8_depth (tk tkX8_follows 6 rfl) fkX8_62 ?_
              refine al_waiting_e (e := its + 1) (tk tkX8_follows 7 rfl) d (by first | decide | omega) ?_
              refine pw_if_ne (tgt := 32) (tk tkX8_follows 8 rfl) (by decide) (fun c16 => absurd e c16) (fun c16 => ?_)
              refine pw_aload_n (tk tkX8_follows 9 rfl) rfl ?_
              refine pw_dup (tk tkX8_follows 10 rfl) rfl ?_
              refine g8_depth (tk tkX8_follows 11 rfl) fkX8_62 ?_
              refine pw_iconst (v := 1) (tk tkX8_follows 12 rfl) (by decide) ?_
              refine pw_isub (tk tkX8_follows 13 rfl) ?_
              rw [d, nI_pred]
              refine p8_depth (tk tkX8_follows 14 rfl) fkX8_62 ?_
              refine pw_goto (tgt := 0) (tk tkX8_follows 15 rfl) (by decide) ?_
              refine ih (i + 1) (by omega) p _ _ hv' (upd_at (mF y.2.1) 10 (nI its)) wy g3 (fun y2 l2 a2 b2 c2 d2 e2 => ?_) (fun y2 a2 b2 c2 => ?_)
              · exact KT y2 l2 ((hy.tr (FR.f y 10 _ (by omega))).tr a2) (b2.trans (congrArg (lpT (acT (hapT u (f' + 1)) its) p k (i + 1)) ty)) c2 d2 e2
              · exact KF y2 ((hy.tr (FR.f y 10 _ (by omega))).tr a2) (b2.trans (congrArg (lpT (acT (hapT u (f' + 1)) its) p k (i + 1)) ty)) c2
            · exact KF y (hx1.tr ((hfr.tr a).lo (Nat.le_succ _))) (by rw [b, ← eH]; refine (lpT_stop _ p k (i + 1) _ ?_).symm; rw [eH, ← b]; exact g3) g3
          · rw [show decide (bgC (lgS (mS x.2.1) i (nI its)) u (mF x.2.1 12) ev r cl v (nI (its + 1)) = 0) = false from decide_eq_false h0] at ect
            have hX : bgX (uM1 (uM6 x (upd (mWa x.2.1) its (mkM (pge p (i + 1)) u))) (lgS (mS x.2.1) i (nI its))) u ev r cl v (its + 1) = uM7 (uM1 (uM6 x (upd (mWa x.2.1) its (mkM (pge p (i + 1)) u))) (lgS (mS x.2.1) i (nI its))) (upd (mF (uM1 (uM6 x (upd (mWa x.2.1) its (mkM (pge p (i + 1)) u))) (lgS (mS x.2.1) i (nI its))).2.1) 13 (bgC (lgS (mS x.2.1) i (nI its)) u (mF x.2.1 12) ev r cl v (nI (its + 1)))) := if_neg h0
            rw [hX] at ect ebg
            have eH : acT (hapT u f) its i (tX x) = bgT u (tX (uM1 (uM6 x (upd (mWa x.2.1) its (mkM (pge p (i + 1)) u))) (lgS (mS x.2.1) i (nI its)))) ev r cl v (its + 1) := (hH (hapT u f)).trans (hapT_bad u f _ ev r cl v (its + 1) h0)
            refine pw_aload_n (tk tkX8_follows 30 rfl) rfl ?_
            refine g8_waiting (tk tkX8_follows 31 rfl) fkX8_25 ?_
            refine pw_aload_n (tk tkX8_follows 32 rfl) rfl ?_
            refine g8_depth (tk tkX8_follows 33 rfl) fkX8_62 ?_
            refine pw_dup2 (tk tkX8_follows 34 rfl) rfl rfl ?_
            refine al_waiting_e (e := its) (tk tkX8_follows 35 rfl) h10 (by first | decide | omega) ?_
            refine pw_iconst (v := 1) (tk tkX8_follows 36 rfl) (by decide) ?_
            refine pw_iload_n (tk tkX8_follows 37 rfl) rfl ?_
            refine pw_ishl (tk tkX8_follows 38 rfl) ?_
            refine pw_iconst (v := (-1)) (tk tkX8_follows 39 rfl) (by decide) ?_
            refine pw_ixor (tk tkX8_follows 40 rfl) ?_
            rw [hw]
            refine pw_iand (tk tkX8_follows 41 rfl) ?_
            rw [pge_t p hu8 hiu]
            refine as_waiting_e (e := its) (tk tkX8_follows 42 rfl) h10 (by first | decide | omega) ?_
            refine pw_aload_n (tk tkX8_follows 43 rfl) rfl ?_
            refine pw_iload_n (tk tkX8_follows 44 rfl) rfl ?_
            refine pw_cV ect okX8_acts (tk tkX8_follows 45 rfl) mkX8_80 imX8_acts seX8_acts (hp_ot _ 11) rfl rfl rfl (by decide) (by decide) (Nat.le_of_ble_eq_true rfl) ?_
            refine pw_ifnb (tgt := 83) (tk tkX8_follows 46 rfl) (by decide) (fun c78 => Bool.noConfusion c78) (fun c78 => ?_)
            refine pw_iconst (v := 0) (tk tkX8_follows 47 rfl) (by decide) ?_
            refine pw_ireturn (tk tkX8_follows 48 rfl) rfl (by decide) (by first | rfl | exact nar_bI _) ?_
            refine KF _ ((hx1.tr (FR.s _ _)).tr (FR.f _ 13 _ (by omega))) ?_ h0
            rw [ebg, eH]
            exact (lpT_stop _ p k (i + 1) _ (by rw [← ebg]; exact h0)).symm
      have J34 : ∀ m r, r + m = i → PW MX8_follows 4 0 34 [some (.ref 171), some (.int (nI r))] [] (hp x) Q := by
        intro m
        induction m with
        | zero =>
          intro r hr
          obtain rfl : r = i := by omega
          refine pw_aload_n (tk tkX8_follows 18 rfl) rfl ?_
          refine g8_waiting (tk tkX8_follows 19 rfl) fkX8_25 ?_
          refine pw_aload_n (tk tkX8_follows 20 rfl) rfl ?_
          refine g8_depth (tk tkX8_follows 21 rfl) fkX8_62 ?_
          refine al_waiting_e (e := its) (tk tkX8_follows 22 rfl) h10 (by first | decide | omega) ?_
          refine pw_iload_n (tk tkX8_follows 23 rfl) rfl ?_
          refine pw_ishr (tk tkX8_follows 24 rfl) ?_
          refine pw_iconst (v := 1) (tk tkX8_follows 25 rfl) (by decide) ?_
          refine pw_iand (tk tkX8_follows 26 rfl) ?_
          rw [hw, mk_bit _ hu8 hiu, show pge p r r = true from by unfold pge; rw [hpi, decide_eq_true (Nat.le_refl _)]; rfl]
          refine pw_if_ne (tgt := 56) (tk tkX8_follows 27 rfl) (by decide) (fun c47 => ?_) (fun c47 => absurd c47 (by decide))
          exact J56
        | succ m ihm =>
          intro r hr
          refine pw_aload_n (tk tkX8_follows 18 rfl) rfl ?_
          refine g8_waiting (tk tkX8_follows 19 rfl) fkX8_25 ?_
          refine pw_aload_n (tk tkX8_follows 20 rfl) rfl ?_
          refine g8_depth (tk tkX8_follows 21 rfl) fkX8_62 ?_
          refine al_waiting_e (e := its) (tk tkX8_follows 22 rfl) h10 (by first | decide | omega) ?_
          refine pw_iload_n (tk tkX8_follows 23 rfl) rfl ?_
          refine pw_ishr (tk tkX8_follows 24 rfl) ?_
          refine pw_iconst (v := 1) (tk tkX8_follows 25 rfl) (by decide) ?_
          refine pw_iand (tk tkX8_follows 26 rfl) ?_
          rw [hw, mk_bit _ hu8 (by omega), show pge p i r = false from by unfold pge; rw [decide_eq_false (by omega), Bool.and_false]]
          refine pw_if_ne (tgt := 56) (tk tkX8_follows 27 rfl) (by decide) (fun c47 => absurd c47 (fun q => q rfl)) (fun c47 => ?_)
          refine pw_inc1 (tk tkX8_follows 28 rfl) rfl (by decide) (nI_1 r) ?_
          refine pw_goto (tgt := 34) (tk tkX8_follows 29 rfl) (by decide) ?_
          exact ihm (r + 1) (by omega)
      refine pw_aload_n (tk tkX8_follows 0 rfl) rfl ?_
      refine g8_depth (tk tkX8_follows 1 rfl) fkX8_62 ?_
      refine pw_if_lt (tgt := 86) (tk tkX8_follows 2 rfl) (by decide) (fun c4 => absurd c4 (by rw [h10]; exact nI_pos (by omega))) (fun c4 => ?_)
      refine pw_aload_n (tk tkX8_follows 3 rfl) rfl ?_
      refine g8_waiting (tk tkX8_follows 4 rfl) fkX8_25 ?_
      refine pw_aload_n (tk tkX8_follows 5 rfl) rfl ?_
      refine g8_depth (tk tkX8_follows 6 rfl) fkX8_62 ?_
      refine al_waiting_e (e := its) (tk tkX8_follows 7 rfl) h10 (by first | decide | omega) ?_
      refine pw_if_ne (tgt := 32) (tk tkX8_follows 8 rfl) (by decide) (fun c16 => ?_) (fun c16 => absurd (hw.symm.trans c16) hne)
      refine pw_iconst (v := 0) (tk tkX8_follows 16 rfl) (by decide) ?_
      refine pw_ist1 (tk tkX8_follows 17 rfl) rfl (by decide) ?_
      exact J34 i 0 (by omega)
theorem fol (u : Nat) (Q : Out → Hp → Prop) : ∀ (f its : Nat), its + f = 5 → ∀ (k i : Nat), i + k = u → ∀ (p : Nat → Bool) (x : XW) (l1 : Option Value), VS u (mS x.2.1) → mF x.2.1 10 = nI its → mWa x.2.1 its = mkM (pge p i) u → mF x.2.1 13 = 0 →
    (∀ y l1, FR its x y → tX y = lpT (acT (hapT u f) its) p k i (tX x) → mF y.2.1 13 = 0 → mF y.2.1 10 = nI its → mWa y.2.1 its = 0 → PW MX8_follows 4 0 0 [some (.ref 171), l1] [] (hp y) Q) →
    (∀ y, FR its x y → tX y = lpT (acT (hapT u f) its) p k i (tX x) → ¬ mF y.2.1 13 = 0 → Q (.inl (some (.int 0))) (hp y)) →
    PW MX8_follows 4 0 0 [some (.ref 171), l1] [] (hp x) Q
  | 0, its, hf => folS u Q 0 its hf (fun f' q => by cases q)
  | f + 1, its, hf => folS u Q (f + 1) its hf (fun f' q p x l1 a b c d KT KF => by
      obtain rfl : f = f' := by omega
      exact fol u Q f (its + 1) (by omega) u 0 (by omega) p x l1 a b c d KT KF)
