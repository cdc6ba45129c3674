theorem VS.un {u : Nat} {t : Nat → Int32} (h : VS u t) : uN t = u := by unfold uN; rw [h.2.1, nI_clamp (by have := h.1; omega)]
theorem VS_98 {u : Nat} {s : Nat → Int32} (h : VS u s) (v : Int32) : VS u (upd s 98 v) :=
  h.of (fun j a b _ => upd_nt _ _ (by omega)) (by rw [upd_nt _ _ (by omega)]; exact h.2.2.2.1) (fun j hj => by rw [upd_nt _ _ (by omega)]; exact h.2.2.2.2.1 j hj)
theorem fin_VS {u : Nat} {s : Nat → Int32} {R : TT} (h : VS u s) (hR : VS u R.1) : VS u (fin R s) := by
  unfold fin; split
  · exact VS_98 hR _
  · exact h
theorem hap_VS {u : Nat} {s : Nat → Int32} (h : VS u s) (f : Nat) (a b : Int32) (c0 : Int32) (ev : Int32) {r c : Nat} (v : Int32) (d : Nat) (hr : r < 6) (hc : c < 3) : VS u (hapT u f (s, a, b, c0) ev r c v d).1 :=
  (hapT_KV u s f (s, a, b, c0) ev r c v d hr hc ⟨h, SR.rf s⟩).1
theorem insR_VS {u : Nat} {s : Nat → Int32} (h : VS u s) {r : Nat} (a b c : Int32) (hr : r < 6) : VS u (insR u s r a b c).1 := by
  unfold insR; split
  · exact h
  · exact hap_VS (VS_val (VS_val (VS_val h a (by omega) (by omega)) b (by omega) (by omega)) c (by omega) (by omega)) 6 _ _ _ 0 0 0 hr (by decide)
theorem updR_VS {u : Nat} {s : Nat → Int32} (h : VS u s) {r c : Nat} (v : Int32) (hr : r < 6) (hc : c < 3) : VS u (updR u s r c v).1 := by
  unfold updR; split
  · exact h
  · split
    · exact h
    · exact hap_VS h 6 _ _ _ 1 v 0 hr hc
theorem remR_VS {u : Nat} {s : Nat → Int32} (h : VS u s) {r : Nat} (hr : r < 6) : VS u (remR u s r).1 := by
  unfold remR; split
  · exact hap_VS h 6 _ _ _ 2 0 0 hr (by decide)
  · exact h
theorem E132.sy {f g : Nat → Int32} (h : E132 f g) : E132 g f := fun j hj => (h j hj).symm
theorem E132.tr {f g w : Nat → Int32} (h : E132 f g) (k : E132 g w) : E132 f w := fun j hj => (h j hj).trans (k j hj)
theorem xRecA_F (y : XW) (k : Nat) : mF (xRecA y k).2.1 12 = mF y.2.1 12 := by
  unfold xRecA; split <;> rfl
theorem xRecA_S (y : XW) (k : Nat) : xRecA y k = uM1 (xRecA y k) (mS y.2.1) := by
  unfold xRecA; split <;> rfl
theorem FA.lk {x y : XW} (fa : FA x y) : Lk x (xThr y 0) := by
  obtain ⟨a1, a2, a3, a4, a5, a6, a7⟩ := fa
  exact ⟨a1, a2, a3, a4, a5, a6, rfl, a7 4 (by decide) (by decide) (by decide) (by decide), a7 6 (by decide) (by decide) (by decide) (by decide), a7 8 (by decide) (by decide) (by decide) (by decide)⟩
theorem FA.vm {x y : XW} (hx : VM x.2.1) (fa : FA x y) (es : E132 (mS y.2.1) (mS x.2.1)) : VM y.2.1 ∧ AE (aOf x.2.1) (aOf y.2.1) := by
  obtain ⟨a1, a2, a3, a4, a5, a6, a7⟩ := fa
  have f4 := a7 4 (by decide) (by decide) (by decide) (by decide)
  have f6 := a7 6 (by decide) (by decide) (by decide) (by decide)
  have f8 := a7 8 (by decide) (by decide) (by decide) (by decide)
  refine ⟨VM.of hx f4 f8 (by rw [f6]; exact hx.2.2.2.2.1) (VS.EE hx.2.2.2.2.2 es.sy), es.sy, (congrArg Int32.toNatClampNeg f4).symm, ?_, ?_, ?_, (congrArg Int32.toNatClampNeg f8).symm, ?_⟩
  · intro i _ j _; show mHi x.2.1 _ = mHi y.2.1 _; rw [a4]
  · intro i _; show decide ((mF x.2.1 6 >>> (nI i &&& 31)) &&& 1 = 1) = decide ((mF y.2.1 6 >>> (nI i &&& 31)) &&& 1 = 1); rw [f6]
  · intro i _ _ j _; show mSl x.2.1 _ = mSl y.2.1 _; rw [a5]
  · intro i _; show mTx x.2.1 i = mTx y.2.1 i; rw [a6]
theorem VM.thr {x : XW} (h : VM x.2.1) (v : Int32) : VM (xThr x v).2.1 := VM.of h rfl rfl h.2.2.2.2.1 h.2.2.2.2.2
theorem MOQ.stm {x y : XW} (hx : VM x.2.1) (fa : FA x y) {R : TT} (es : E132 (mS y.2.1) (fin R (mS x.2.1))) (hR : VS (uN (mS x.2.1)) R.1) {v : Int32} (ev : v = R.2.1) {R3 : RS3} (he : R3 = (0, R.2.1, (fin R (mS x.2.1), recH (aOf x.2.1) (mS x.2.1), (aOf x.2.1).2.2))) : MOQ x R3 (.inl (some (.int v))) (hp (xRecA (xThr y 0) (aK (aOf x.2.1)))) := by
  have h1 : VS (uN (mS x.2.1)) (fin R (mS x.2.1)) := fin_VS hx.2.2.2.2.2 hR
  have h2 : VS (uN (mS y.2.1)) (mS y.2.1) := by
    have q := h1.E es.sy
    rw [q.un]; exact q
  obtain ⟨a, b, c, d, f⟩ := recX hx fa.lk (mS y.2.1) h2
  rw [he, ev, show xRecA (xThr y 0) (aK (aOf x.2.1)) = uM1 (xRecA (xThr y 0) (aK (aOf x.2.1))) (mS y.2.1) from xRecA_S (xThr y 0) _]
  exact ⟨_, rfl, a, b, c, rfl, d, es.sy.tr f.1, f.2⟩
theorem MOQ.stf {x y : XW} (hx : VM x.2.1) (fa : FA x y) (es : E132 (mS y.2.1) (mS x.2.1)) (code : Int32) {R3 : RS3} (he : R3 = (code, 0, aOf x.2.1)) : MOQ x R3 (.inl (some (.int 0))) (hp (xThr y code)) := by
  obtain ⟨a, b⟩ := fa.vm hx es
  rw [he]
  exact ⟨_, rfl, fa.1, fa.2.1, rfl, rfl, a.thr code, b⟩
theorem ct_X8_insertsW (x : XW) (u : Nat) (hv : VS u (mS x.2.1)) (r : Nat) {w : Int32} (er : w = nI r) (a b c : Int32) (hr : r < 6) : CT MX8_inserts 6 0 [.ref 171, .int w, .int a, .int b, .int c] (hp x) (stP x (insR u (mS x.2.1) r a b c) ((insR u (mS x.2.1) r a b c).2.2.2 ≠ 1)) := by subst er; exact ct_X8_inserts x u hv r a b c hr
theorem ct_X8_updatesW (x : XW) (u : Nat) (hv : VS u (mS x.2.1)) (r c : Nat) {w z : Int32} (er : w = nI r) (ec : z = nI c) (v : Int32) (hr : r < 6) (hc : c < 3) : CT MX8_updates 6 0 [.ref 171, .int w, .int z, .int v] (hp x) (stP x (updR u (mS x.2.1) r c v) True) := by subst er; subst ec; exact ct_X8_updates x u hv r c v hr hc
theorem ct_X8_removesW (x : XW) (u : Nat) (hv : VS u (mS x.2.1)) (r : Nat) {w : Int32} (er : w = nI r) (hr : r < 6) : CT MX8_removes 6 0 [.ref 171, .int w] (hp x) (stP x (remR u (mS x.2.1) r) ((remR u (mS x.2.1) r).2.2.2 ≠ 1)) := by subst er; exact ct_X8_removes x u hv r hr
/-- the answer of a statement -/
def stA (a : AM) (R : TT) (bad : Int32) : RS3 := if decide (R.2.2.2 = 0) = false then (bad, 0, a) else (0, R.2.1, (fin R (aS a), recH a (aS a), a.2.2))
theorem stA_bad {a : AM} {R : TT} (b : Int32) (h : decide (R.2.2.2 = 0) = false) : stA a R b = (b, 0, a) := if_pos h
theorem stA_ok {a : AM} {R : TT} (b : Int32) (h : decide (R.2.2.2 = 0) = true) : stA a R b = (0, R.2.1, (fin R (aS a), recH a (aS a), a.2.2)) := if_neg (ne_f h)
def sinsert (a : AM) (r p q w : Int32) : RS3 := if inR r 0 5 = false then (1, 0, a) else if inR p 0 999 = false then (2, 0, a) else if inR q 0 999 = false then (2, 0, a) else if inR w 0 999 = false then (2, 0, a) else stA a (insR (uN (aS a)) (aS a) r.toNatClampNeg p q w) 3
def supdate (a : AM) (r c v : Int32) : RS3 := if inR r 0 5 = false then (1, 0, a) else if inR c 0 2 = false then (1, 0, a) else if inR v 0 999 = false then (2, 0, a) else stA a (updR (uN (aS a)) (aS a) r.toNatClampNeg c.toNatClampNeg v) 3
def sremove (a : AM) (r : Int32) : RS3 := if inR r 0 5 = false then (1, 0, a) else stA a (remR (uN (aS a)) (aS a) r.toNatClampNeg) 2
set_option maxRecDepth 100000 in
set_option maxHeartbeats 4000000 in
theorem ct_X8_insert (x : XW) (hx : VM x.2.1) (r p q w : Int32) : CT MX8_insert 7 0 [.ref 171, .int r, .int p, .int q, .int w] (hp x) (MOQ x (sinsert (aOf x.2.1) r p q w)) := by
  refine ct_of (by decide +kernel) (by decide) rfl (k := 1) (ls := [some (.ref 171), some (.int r), some (.int p), some (.int q), some (.int w), none]) rfl (Nat.le_of_ble_eq_true rfl) ?_
  obtain ⟨hu, hu8⟩ := hx.u
  obtain ⟨l99, hl, el⟩ := hx.l
  have hv : VS (uN (mS x.2.1)) (mS x.2.1) := hx.2.2.2.2.2
  refine pw_iload_n (tk tkX8_insert 0 rfl) rfl ?_
  refine pw_cS (ct_X8_isRow _ _) okX8_isRow (tk tkX8_insert 1 rfl) mkX8_106 stX8_isRow rfl rfl (by decide) (by decide) (Nat.le_of_ble_eq_true rfl) ?_
  refine pw_ifnb (tgt := 11) (tk tkX8_insert 2 rfl) (by decide) (fun c4 => ?_) (fun c4 => ?_)
  · refine pw_iload_n (tk tkX8_insert 5 rfl) rfl ?_
    refine pw_cS (ct_X8_isValue _ _) okX8_isValue (tk tkX8_insert 6 rfl) mkX8_76 stX8_isValue rfl rfl (by decide) (by decide) (Nat.le_of_ble_eq_true rfl) ?_
    refine pw_ifb (tgt := 33) (tk tkX8_insert 7 rfl) (by decide) (fun c15 => ?_) (fun c15 => ?_)
    · refine pw_iconst (v := 2) (tk tkX8_insert 14 rfl) (by decide) ?_
      refine pw_goto (tgt := 38) (tk tkX8_insert 15 rfl) (by decide) ?_
      refine pw_ist5 (tk tkX8_insert 17 rfl) rfl (by decide) ?_
      refine pw_aload_n (tk tkX8_insert 18 rfl) rfl ?_
      refine pw_iload (tk tkX8_insert 19 rfl) rfl ?_
      refine pw_if_le (tgt := 51) (tk tkX8_insert 20 rfl) (by decide) (fun c43 => absurd c43 (by decide)) (fun c43 => ?_)
      refine pw_iload (tk tkX8_insert 21 rfl) rfl ?_
      refine pw_goto (tgt := 68) (tk tkX8_insert 22 rfl) (by decide) ?_
      refine pw_cV (ct_X8_holds x _) okX8_holds (tk tkX8_insert 33 rfl) mkX8_97 imX8_holds seX8_holds (hp_ot _ 11) rfl rfl rfl (by decide) (by decide) (Nat.le_of_ble_eq_true rfl) ?_
      refine pw_ifnb (tgt := 76) (tk tkX8_insert 34 rfl) (by decide) (fun c71 => absurd c71 (by decide)) (fun c71 => ?_)
      refine pw_iconst (v := 0) (tk tkX8_insert 35 rfl) (by decide) ?_
      refine pw_ireturn (tk tkX8_insert 36 rfl) rfl (by decide) rfl ?_
      have e : sinsert (aOf x.2.1) r p q w = (2, 0, aOf x.2.1) := ((if_neg (ne_f c4)).trans (if_pos c15))
      rw [e]
      exact ⟨_, rfl, rfl, rfl, rfl, rfl, hx, AE.rf _⟩
    · refine pw_iload_n (tk tkX8_insert 8 rfl) rfl ?_
      refine pw_cS (ct_X8_isValue _ _) okX8_isValue (tk tkX8_insert 9 rfl) mkX8_76 stX8_isValue rfl rfl (by decide) (by decide) (Nat.le_of_ble_eq_true rfl) ?_
      refine pw_ifb (tgt := 33) (tk tkX8_insert 10 rfl) (by decide) (fun c22 => ?_) (fun c22 => ?_)
      · refine pw_iconst (v := 2) (tk tkX8_insert 14 rfl) (by decide) ?_
        refine pw_goto (tgt := 38) (tk tkX8_insert 15 rfl) (by decide) ?_
        refine pw_ist5 (tk tkX8_insert 17 rfl) rfl (by decide) ?_
        refine pw_aload_n (tk tkX8_insert 18 rfl) rfl ?_
        refine pw_iload (tk tkX8_insert 19 rfl) rfl ?_
        refine pw_if_le (tgt := 51) (tk tkX8_insert 20 rfl) (by decide) (fun c43 => absurd c43 (by decide)) (fun c43 => ?_)
        refine pw_iload (tk tkX8_insert 21 rfl) rfl ?_
        refine pw_goto (tgt := 68) (tk tkX8_insert 22 rfl) (by decide) ?_
        refine pw_cV (ct_X8_holds x _) okX8_holds (tk tkX8_insert 33 rfl) mkX8_97 imX8_holds seX8_holds (hp_ot _ 11) rfl rfl rfl (by decide) (by decide) (Nat.le_of_ble_eq_true rfl) ?_
        refine pw_ifnb (tgt := 76) (tk tkX8_insert 34 rfl) (by decide) (fun c71 => absurd c71 (by decide)) (fun c71 => ?_)
        refine pw_iconst (v := 0) (tk tkX8_insert 35 rfl) (by decide) ?_
        refine pw_ireturn (tk tkX8_insert 36 rfl) rfl (by decide) rfl ?_
        have e : sinsert (aOf x.2.1) r p q w = (2, 0, aOf x.2.1) := ((if_neg (ne_f c4)).trans ((if_neg (ne_f c15)).trans (if_pos c22)))
        rw [e]
        exact ⟨_, rfl, rfl, rfl, rfl, rfl, hx, AE.rf _⟩
      · refine pw_iload (tk tkX8_insert 11 rfl) rfl ?_
        refine pw_cS (ct_X8_isValue _ _) okX8_isValue (tk tkX8_insert 12 rfl) mkX8_76 stX8_isValue rfl rfl (by decide) (by decide) (Nat.le_of_ble_eq_true rfl) ?_
        refine pw_ifnb (tgt := 37) (tk tkX8_insert 13 rfl) (by decide) (fun c30 => ?_) (fun c30 => ?_)
        · refine pw_iconst (v := 0) (tk tkX8_insert 16 rfl) (by decide) ?_
          refine pw_ist5 (tk tkX8_insert 17 rfl) rfl (by decide) ?_
          refine pw_aload_n (tk tkX8_insert 18 rfl) rfl ?_
          refine pw_iload (tk tkX8_insert 19 rfl) rfl ?_
          refine pw_if_le (tgt := 51) (tk tkX8_insert 20 rfl) (by decide) (fun c43 => ?_) (fun c43 => c43 (by decide) |>.elim)
          refine pw_aload_n (tk tkX8_insert 23 rfl) rfl ?_
          refine pw_iload_n (tk tkX8_insert 24 rfl) rfl ?_
          refine pw_iload_n (tk tkX8_insert 25 rfl) rfl ?_
          refine pw_iload_n (tk tkX8_insert 26 rfl) rfl ?_
          refine pw_iload (tk tkX8_insert 27 rfl) rfl ?_
          obtain ⟨r1, hr, er, er2⟩ := inR_row c4
          refine pw_callV (ct_X8_insertsW x _ hv r1 er p q w hr) okX8_inserts (tk tkX8_insert 28 rfl) mkX8_109 imX8_inserts seX8_inserts (hp_ot _ 11) rfl rfl rfl (by decide) (by decide) (Nat.le_of_ble_eq_true rfl) (fun r h2 q => ?_) (fun E h2 q => by obtain ⟨y, e1, e2, e3, ho, e4⟩ := q; cases ho)
          obtain ⟨y, rfl, fa, es, ho, hw⟩ := q
          cases ho
          refine pw_ifb (tgt := 67) (tk tkX8_insert 29 rfl) (by decide) (fun c60 => ?_) (fun c60 => ?_)
          · refine pw_iconst (v := 3) (tk tkX8_insert 32 rfl) (by decide) ?_
            refine pw_cV (ct_X8_holds y _) okX8_holds (tk tkX8_insert 33 rfl) mkX8_97 imX8_holds seX8_holds (hp_ot _ 11) rfl rfl rfl (by decide) (by decide) (Nat.le_of_ble_eq_true rfl) ?_
            refine pw_ifnb (tgt := 76) (tk tkX8_insert 34 rfl) (by decide) (fun c71 => absurd c71 (by decide)) (fun c71 => ?_)
            refine pw_iconst (v := 0) (tk tkX8_insert 35 rfl) (by decide) ?_
            refine pw_ireturn (tk tkX8_insert 36 rfl) rfl (by decide) rfl ?_
            have hf : ¬ (insR (uN (mS x.2.1)) (mS x.2.1) r1 p q w).2.2.2 = 0 := of_decide_eq_false c60
            have e : sinsert (aOf x.2.1) r p q w = (3, 0, aOf x.2.1) := ((if_neg (ne_f c4)).trans ((if_neg (ne_f c15)).trans ((if_neg (ne_f c22)).trans ((if_neg (ne_f c30)).trans ((by rw [er2]; exact stA_bad 3 c60))))))
            have es2 : E132 (mS y.2.1) (mS x.2.1) := by have es3 := es.1; rw [show fin (insR (uN (mS x.2.1)) (mS x.2.1) r1 p q w) (mS x.2.1) = mS x.2.1 from if_neg hf] at es3; exact es3
            exact MOQ.stf hx fa es2 3 e
          · refine pw_iconst (v := 0) (tk tkX8_insert 30 rfl) (by decide) ?_
            refine pw_goto (tgt := 68) (tk tkX8_insert 31 rfl) (by decide) ?_
            refine pw_cV (ct_X8_holds y _) okX8_holds (tk tkX8_insert 33 rfl) mkX8_97 imX8_holds seX8_holds (hp_ot _ 11) rfl rfl rfl (by decide) (by decide) (Nat.le_of_ble_eq_true rfl) ?_
            refine pw_ifnb (tgt := 76) (tk tkX8_insert 34 rfl) (by decide) (fun c71 => ?_) (fun c71 => absurd c71 (by decide))
            refine pw_aload_n (tk tkX8_insert 37 rfl) rfl ?_
            refine pw_cV0 (ct_X8_recordAside (xThr y 0) (aK (aOf x.2.1)) (fa.lk.2.2.2.2.2.2.2.1.trans hx.1) hx.2.1) okX8_recordAside (tk tkX8_insert 38 rfl) mkX8_42 imX8_recordAside seX8_recordAside (hp_ot _ 11) rfl rfl rfl (by decide) (by decide) (Nat.le_of_ble_eq_true rfl) ?_
            refine pw_aload_n (tk tkX8_insert 39 rfl) rfl ?_
            refine g8_happened (tk tkX8_insert 40 rfl) fkX8_52 ?_
            refine pw_ireturn (tk tkX8_insert 41 rfl) rfl (by decide) rfl ?_
            have h0 : (insR (uN (mS x.2.1)) (mS x.2.1) r1 p q w).2.2.2 = 0 := of_decide_eq_true c60
            have e : sinsert (aOf x.2.1) r p q w = (0, (insR (uN (mS x.2.1)) (mS x.2.1) r1 p q w).2.1, (fin (insR (uN (mS x.2.1)) (mS x.2.1) r1 p q w) (mS x.2.1), recH (aOf x.2.1) (mS x.2.1), (aOf x.2.1).2.2)) := ((if_neg (ne_f c4)).trans ((if_neg (ne_f c15)).trans ((if_neg (ne_f c22)).trans ((if_neg (ne_f c30)).trans ((by rw [er2]; exact stA_ok 3 c60))))))
            have e12 := (xRecA_F (xThr y 0) (aK (aOf x.2.1))).trans (hw (by rw [h0]; decide)).1
            exact MOQ.stm hx fa es.1 (insR_VS hv p q w hr) e12 e
        · refine pw_iconst (v := 2) (tk tkX8_insert 14 rfl) (by decide) ?_
          refine pw_goto (tgt := 38) (tk tkX8_insert 15 rfl) (by decide) ?_
          refine pw_ist5 (tk tkX8_insert 17 rfl) rfl (by decide) ?_
          refine pw_aload_n (tk tkX8_insert 18 rfl) rfl ?_
          refine pw_iload (tk tkX8_insert 19 rfl) rfl ?_
          refine pw_if_le (tgt := 51) (tk tkX8_insert 20 rfl) (by decide) (fun c43 => absurd c43 (by decide)) (fun c43 => ?_)
          refine pw_iload (tk tkX8_insert 21 rfl) rfl ?_
          refine pw_goto (tgt := 68) (tk tkX8_insert 22 rfl) (by decide) ?_
          refine pw_cV (ct_X8_holds x _) okX8_holds (tk tkX8_insert 33 rfl) mkX8_97 imX8_holds seX8_holds (hp_ot _ 11) rfl rfl rfl (by decide) (by decide) (Nat.le_of_ble_eq_true rfl) ?_
          refine pw_ifnb (tgt := 76) (tk tkX8_insert 34 rfl) (by decide) (fun c71 => absurd c71 (by decide)) (fun c71 => ?_)
          refine pw_iconst (v := 0) (tk tkX8_insert 35 rfl) (by decide) ?_
          refine pw_ireturn (tk tkX8_insert 36 rfl) rfl (by decide) rfl ?_
          have e : sinsert (aOf x.2.1) r p q w = (2, 0, aOf x.2.1) := ((if_neg (ne_f c4)).trans ((if_neg (ne_f c15)).trans ((if_neg (ne_f c22)).trans (if_pos c30))))
          rw [e]
          exact ⟨_, rfl, rfl, rfl, rfl, rfl, hx, AE.rf _⟩
  · refine pw_iconst (v := 1) (tk tkX8_insert 3 rfl) (by decide) ?_
    refine pw_goto (tgt := 38) (tk tkX8_insert 4 rfl) (by decide) ?_
    refine pw_ist5 (tk tkX8_insert 17 rfl) rfl (by decide) ?_
    refine pw_aload_n (tk tkX8_insert 18 rfl) rfl ?_
    refine pw_iload (tk tkX8_insert 19 rfl) rfl ?_
    refine pw_if_le (tgt := 51) (tk tkX8_insert 20 rfl) (by decide) (fun c43 => absurd c43 (by decide)) (fun c43 => ?_)
    refine pw_iload (tk tkX8_insert 21 rfl) rfl ?_
    refine pw_goto (tgt := 68) (tk tkX8_insert 22 rfl) (by decide) ?_
    refine pw_cV (ct_X8_holds x _) okX8_holds (tk tkX8_insert 33 rfl) mkX8_97 imX8_holds seX8_holds (hp_ot _ 11) rfl rfl rfl (by decide) (by decide) (Nat.le_of_ble_eq_true rfl) ?_
    refine pw_ifnb (tgt := 76) (tk tkX8_insert 34 rfl) (by decide) (fun c71 => absurd c71 (by decide)) (fun c71 => ?_)
    refine pw_iconst (v := 0) (tk tkX8_insert 35 rfl) (by decide) ?_
    refine pw_ireturn (tk tkX8_insert 36 rfl) rfl (by decide) rfl ?_
    have e : sinsert (aOf x.2.1) r p q w = (1, 0, aOf x.2.1) := (if_pos c4)
    rw [e]
    exact ⟨_, rfl, rfl, rfl, rfl, rfl, hx, AE.rf _⟩
set_option maxRecDepth 100000 in
set_option maxHeartbeats 4000000 in
theorem ct_X8_update (x : XW) (hx : VM x.2.1) (r c v : Int32) : CT MX8_update 7 0 [.ref 171, .int r, .int c, .int v] (hp x) (MOQ x (supdate (aOf x.2.1) r c v)) := by
  refine ct_of (by decide +kernel) (by decide) rfl (k := 1) (ls := [some (.ref 171), some (.int r), some (.int c), some (.int v), none]) rfl (Nat.le_of_ble_eq_true rfl) ?_
  obtain ⟨hu, hu8⟩ := hx.u
  obtain ⟨l99, hl, el⟩ := hx.l
  have hv : VS (uN (mS x.2.1)) (mS x.2.1) := hx.2.2.2.2.2
  refine pw_iload_n (tk tkX8_update 0 rfl) rfl ?_
  refine pw_cS (ct_X8_isRow _ _) okX8_isRow (tk tkX8_update 1 rfl) mkX8_106 stX8_isRow rfl rfl (by decide) (by decide) (Nat.le_of_ble_eq_true rfl) ?_
  refine pw_ifb (tgt := 14) (tk tkX8_update 2 rfl) (by decide) (fun c4 => ?_) (fun c4 => ?_)
  · refine pw_iconst (v := 1) (tk tkX8_update 6 rfl) (by decide) ?_
    refine pw_goto (tgt := 30) (tk tkX8_update 7 rfl) (by decide) ?_
    refine pw_ist4 (tk tkX8_update 14 rfl) rfl (by decide) ?_
    refine pw_aload_n (tk tkX8_update 15 rfl) rfl ?_
    refine pw_iload (tk tkX8_update 16 rfl) rfl ?_
    refine pw_if_le (tgt := 43) (tk tkX8_update 17 rfl) (by decide) (fun c35 => absurd c35 (by decide)) (fun c35 => ?_)
    refine pw_iload (tk tkX8_update 18 rfl) rfl ?_
    refine pw_goto (tgt := 58) (tk tkX8_update 19 rfl) (by decide) ?_
    refine pw_cV (ct_X8_holds x _) okX8_holds (tk tkX8_update 29 rfl) mkX8_97 imX8_holds seX8_holds (hp_ot _ 11) rfl rfl rfl (by decide) (by decide) (Nat.le_of_ble_eq_true rfl) ?_
    refine pw_ifnb (tgt := 66) (tk tkX8_update 30 rfl) (by decide) (fun c61 => absurd c61 (by decide)) (fun c61 => ?_)
    refine pw_iconst (v := 0) (tk tkX8_update 31 rfl) (by decide) ?_
    refine pw_ireturn (tk tkX8_update 32 rfl) rfl (by decide) rfl ?_
    have e : supdate (aOf x.2.1) r c v = (1, 0, aOf x.2.1) := (if_pos c4)
    rw [e]
    exact ⟨_, rfl, rfl, rfl, rfl, rfl, hx, AE.rf _⟩
  · refine pw_iload_n (tk tkX8_update 3 rfl) rfl ?_
    refine pw_cS (ct_X8_isColumn _ _) okX8_isColumn (tk tkX8_update 4 rfl) mkX8_94 stX8_isColumn rfl rfl (by decide) (by decide) (Nat.le_of_ble_eq_true rfl) ?_
    refine pw_ifnb (tgt := 18) (tk tkX8_update 5 rfl) (by decide) (fun c11 => ?_) (fun c11 => ?_)
    · refine pw_iload_n (tk tkX8_update 8 rfl) rfl ?_
      refine pw_cS (ct_X8_isValue _ _) okX8_isValue (tk tkX8_update 9 rfl) mkX8_76 stX8_isValue rfl rfl (by decide) (by decide) (Nat.le_of_ble_eq_true rfl) ?_
      refine pw_ifnb (tgt := 29) (tk tkX8_update 10 rfl) (by decide) (fun c22 => ?_) (fun c22 => ?_)
      · refine pw_iconst (v := 0) (tk tkX8_update 13 rfl) (by decide) ?_
        refine pw_ist4 (tk tkX8_update 14 rfl) rfl (by decide) ?_
        refine pw_aload_n (tk tkX8_update 15 rfl) rfl ?_
        refine pw_iload (tk tkX8_update 16 rfl) rfl ?_
        refine pw_if_le (tgt := 43) (tk tkX8_update 17 rfl) (by decide) (fun c35 => ?_) (fun c35 => c35 (by decide) |>.elim)
        refine pw_aload_n (tk tkX8_update 20 rfl) rfl ?_
        refine pw_iload_n (tk tkX8_update 21 rfl) rfl ?_
        refine pw_iload_n (tk tkX8_update 22 rfl) rfl ?_
        refine pw_iload_n (tk tkX8_update 23 rfl) rfl ?_
        obtain ⟨r1, hr, er, er2⟩ := inR_row c4
        obtain ⟨c1, hc, ec, ec2⟩ := inR_col c11
        refine pw_callV (ct_X8_updatesW x _ hv r1 c1 er ec v hr hc) okX8_updates (tk tkX8_update 24 rfl) mkX8_112 imX8_updates seX8_updates (hp_ot _ 11) rfl rfl rfl (by decide) (by decide) (Nat.le_of_ble_eq_true rfl) (fun r h2 q => ?_) (fun E h2 q => by obtain ⟨y, e1, e2, e3, ho, e4⟩ := q; cases ho)
        obtain ⟨y, rfl, fa, es, ho, hw⟩ := q
        cases ho
        refine pw_ifb (tgt := 57) (tk tkX8_update 25 rfl) (by decide) (fun c50 => ?_) (fun c50 => ?_)
        · refine pw_iconst (v := 3) (tk tkX8_update 28 rfl) (by decide) ?_
          refine pw_cV (ct_X8_holds y _) okX8_holds (tk tkX8_update 29 rfl) mkX8_97 imX8_holds seX8_holds (hp_ot _ 11) rfl rfl rfl (by decide) (by decide) (Nat.le_of_ble_eq_true rfl) ?_
          refine pw_ifnb (tgt := 66) (tk tkX8_update 30 rfl) (by decide) (fun c61 => absurd c61 (by decide)) (fun c61 => ?_)
          refine pw_iconst (v := 0) (tk tkX8_update 31 rfl) (by decide) ?_
          refine pw_ireturn (tk tkX8_update 32 rfl) rfl (by decide) rfl ?_
          have hf : ¬ (updR (uN (mS x.2.1)) (mS x.2.1) r1 c1 v).2.2.2 = 0 := of_decide_eq_false c50
          have e : supdate (aOf x.2.1) r c v = (3, 0, aOf x.2.1) := ((if_neg (ne_f c4)).trans ((if_neg (ne_f c11)).trans ((if_neg (ne_f c22)).trans ((by rw [er2, ec2]; exact stA_bad 3 c50)))))
          have es2 : E132 (mS y.2.1) (mS x.2.1) := by have es3 := es.1; rw [show fin (updR (uN (mS x.2.1)) (mS x.2.1) r1 c1 v) (mS x.2.1) = mS x.2.1 from if_neg hf] at es3; exact es3
          exact MOQ.stf hx fa es2 3 e
        · refine pw_iconst (v := 0) (tk tkX8_update 26 rfl) (by decide) ?_
          refine pw_goto (tgt := 58) (tk tkX8_update 27 rfl) (by decide) ?_
          refine pw_cV (ct_X8_holds y _) okX8_holds (tk tkX8_update 29 rfl) mkX8_97 imX8_holds seX8_holds (hp_ot _ 11) rfl rfl rfl (by decide) (by decide) (Nat.le_of_ble_eq_true rfl) ?_
          refine pw_ifnb (tgt := 66) (tk tkX8_update 30 rfl) (by decide) (fun c61 => ?_) (fun c61 => absurd c61 (by decide))
          refine pw_aload_n (tk tkX8_update 33 rfl) rfl ?_
          refine pw_cV0 (ct_X8_recordAside (xThr y 0) (aK (aOf x.2.1)) (fa.lk.2.2.2.2.2.2.2.1.trans hx.1) hx.2.1) okX8_recordAside (tk tkX8_update 34 rfl) mkX8_42 imX8_recordAside seX8_recordAside (hp_ot _ 11) rfl rfl rfl (by decide) (by decide) (Nat.le_of_ble_eq_true rfl) ?_
          refine pw_aload_n (tk tkX8_update 35 rfl) rfl ?_
          refine g8_happened (tk tkX8_update 36 rfl) fkX8_52 ?_
          refine pw_ireturn (tk tkX8_update 37 rfl) rfl (by decide) rfl ?_
          have h0 : (updR (uN (mS x.2.1)) (mS x.2.1) r1 c1 v).2.2.2 = 0 := of_decide_eq_true c50
          have e : supdate (aOf x.2.1) r c v = (0, (updR (uN (mS x.2.1)) (mS x.2.1) r1 c1 v).2.1, (fin (updR (uN (mS x.2.1)) (mS x.2.1) r1 c1 v) (mS x.2.1), recH (aOf x.2.1) (mS x.2.1), (aOf x.2.1).2.2)) := ((if_neg (ne_f c4)).trans ((if_neg (ne_f c11)).trans ((if_neg (ne_f c22)).trans ((by rw [er2, ec2]; exact stA_ok 3 c50)))))
          have e12 := (xRecA_F (xThr y 0) (aK (aOf x.2.1))).trans (hw trivial).1
          exact MOQ.stm hx fa es.1 (updR_VS hv v hr hc) e12 e
      · refine pw_iconst (v := 2) (tk tkX8_update 11 rfl) (by decide) ?_
        refine pw_goto (tgt := 30) (tk tkX8_update 12 rfl) (by decide) ?_
        refine pw_ist4 (tk tkX8_update 14 rfl) rfl (by decide) ?_
        refine pw_aload_n (tk tkX8_update 15 rfl) rfl ?_
        refine pw_iload (tk tkX8_update 16 rfl) rfl ?_
        refine pw_if_le (tgt := 43) (tk tkX8_update 17 rfl) (by decide) (fun c35 => absurd c35 (by decide)) (fun c35 => ?_)
        refine pw_iload (tk tkX8_update 18 rfl) rfl ?_
        refine pw_goto (tgt := 58) (tk tkX8_update 19 rfl) (by decide) ?_
        refine pw_cV (ct_X8_holds x _) okX8_holds (tk tkX8_update 29 rfl) mkX8_97 imX8_holds seX8_holds (hp_ot _ 11) rfl rfl rfl (by decide) (by decide) (Nat.le_of_ble_eq_true rfl) ?_
        refine pw_ifnb (tgt := 66) (tk tkX8_update 30 rfl) (by decide) (fun c61 => absurd c61 (by decide)) (fun c61 => ?_)
        refine pw_iconst (v := 0) (tk tkX8_update 31 rfl) (by decide) ?_
        refine pw_ireturn (tk tkX8_update 32 rfl) rfl (by decide) rfl ?_
        have e : supdate (aOf x.2.1) r c v = (2, 0, aOf x.2.1) := ((if_neg (ne_f c4)).trans ((if_neg (ne_f c11)).trans (if_pos c22)))
        rw [e]
        exact ⟨_, rfl, rfl, rfl, rfl, rfl, hx, AE.rf _⟩
    · refine pw_iconst (v := 1) (tk tkX8_update 6 rfl) (by decide) ?_
      refine pw_goto (tgt := 30) (tk tkX8_update 7 rfl) (by decide) ?_
      refine pw_ist4 (tk tkX8_update 14 rfl) rfl (by decide) ?_
      refine pw_aload_n (tk tkX8_update 15 rfl) rfl ?_
      refine pw_iload (tk tkX8_update 16 rfl) rfl ?_
      refine pw_if_le (tgt := 43) (tk tkX8_update 17 rfl) (by decide) (fun c35 => absurd c35 (by decide)) (fun c35 => ?_)
      refine pw_iload (tk tkX8_update 18 rfl) rfl ?_
      refine pw_goto (tgt := 58) (tk tkX8_update 19 rfl) (by decide) ?_
      refine pw_cV (ct_X8_holds x _) okX8_holds (tk tkX8_update 29 rfl) mkX8_97 imX8_holds seX8_holds (hp_ot _ 11) rfl rfl rfl (by decide) (by decide) (Nat.le_of_ble_eq_true rfl) ?_
      refine pw_ifnb (tgt := 66) (tk tkX8_update 30 rfl) (by decide) (fun c61 => absurd c61 (by decide)) (fun c61 => ?_)
      refine pw_iconst (v := 0) (tk tkX8_update 31 rfl) (by decide) ?_
      refine pw_ireturn (tk tkX8_update 32 rfl) rfl (by decide) rfl ?_
      have e : supdate (aOf x.2.1) r c v = (1, 0, aOf x.2.1) := ((if_neg (ne_f c4)).trans (if_pos c11))
      rw [e]
      exact ⟨_, rfl, rfl, rfl, rfl, rfl, hx, AE.rf _⟩
set_option maxRecDepth 100000 in
set_option maxHeartbeats 4000000 in
theorem ct_X8_remove (x : XW) (hx : VM x.2.1) (r : Int32) : CT MX8_remove 7 0 [.ref 171, .int r] (hp x) (MOQ x (sremove (aOf x.2.1) r)) := by
  refine ct_of (by decide +kernel) (by decide) rfl (k := 0) (ls := [some (.ref 171), some (.int r)]) rfl (Nat.le_of_ble_eq_true rfl) ?_
  obtain ⟨hu, hu8⟩ := hx.u
  obtain ⟨l99, hl, el⟩ := hx.l
  have hv : VS (uN (mS x.2.1)) (mS x.2.1) := hx.2.2.2.2.2
  refine pw_aload_n (tk tkX8_remove 0 rfl) rfl ?_
  refine pw_iload_n (tk tkX8_remove 1 rfl) rfl ?_
  refine pw_cS (ct_X8_isRow _ _) okX8_isRow (tk tkX8_remove 2 rfl) mkX8_106 stX8_isRow rfl rfl (by decide) (by decide) (Nat.le_of_ble_eq_true rfl) ?_
  refine pw_ifnb (tgt := 12) (tk tkX8_remove 3 rfl) (by decide) (fun c5 => ?_) (fun c5 => ?_)
  · refine pw_aload_n (tk tkX8_remove 6 rfl) rfl ?_
    refine pw_iload_n (tk tkX8_remove 7 rfl) rfl ?_
    obtain ⟨r1, hr, er, er2⟩ := inR_row c5
    refine pw_callV (ct_X8_removesW x _ hv r1 er hr) okX8_removes (tk tkX8_remove 8 rfl) mkX8_115 imX8_removes seX8_removes (hp_ot _ 11) rfl rfl rfl (by decide) (by decide) (Nat.le_of_ble_eq_true rfl) (fun r h2 q => ?_) (fun E h2 q => by obtain ⟨y, e1, e2, e3, ho, e4⟩ := q; cases ho)
    obtain ⟨y, rfl, fa, es, ho, hw⟩ := q
    cases ho
    refine pw_ifb (tgt := 24) (tk tkX8_remove 9 rfl) (by decide) (fun c17 => ?_) (fun c17 => ?_)
    · refine pw_iconst (v := 2) (tk tkX8_remove 12 rfl) (by decide) ?_
      refine pw_cV (ct_X8_holds y _) okX8_holds (tk tkX8_remove 13 rfl) mkX8_97 imX8_holds seX8_holds (hp_ot _ 11) rfl rfl rfl (by decide) (by decide) (Nat.le_of_ble_eq_true rfl) ?_
      refine pw_ifnb (tgt := 33) (tk tkX8_remove 14 rfl) (by decide) (fun c28 => absurd c28 (by decide)) (fun c28 => ?_)
      refine pw_iconst (v := 0) (tk tkX8_remove 15 rfl) (by decide) ?_
      refine pw_ireturn (tk tkX8_remove 16 rfl) rfl (by decide) rfl ?_
      have hf : ¬ (remR (uN (mS x.2.1)) (mS x.2.1) r1).2.2.2 = 0 := of_decide_eq_false c17
      have e : sremove (aOf x.2.1) r = (2, 0, aOf x.2.1) := ((if_neg (ne_f c5)).trans ((by rw [er2]; exact stA_bad 2 c17)))
      have es2 : E132 (mS y.2.1) (mS x.2.1) := by have es3 := es.1; rw [show fin (remR (uN (mS x.2.1)) (mS x.2.1) r1) (mS x.2.1) = mS x.2.1 from if_neg hf] at es3; exact es3
      exact MOQ.stf hx fa es2 2 e
    · refine pw_iconst (v := 0) (tk tkX8_remove 10 rfl) (by decide) ?_
      refine pw_goto (tgt := 25) (tk tkX8_remove 11 rfl) (by decide) ?_
      refine pw_cV (ct_X8_holds y _) okX8_holds (tk tkX8_remove 13 rfl) mkX8_97 imX8_holds seX8_holds (hp_ot _ 11) rfl rfl rfl (by decide) (by decide) (Nat.le_of_ble_eq_true rfl) ?_
      refine pw_ifnb (tgt := 33) (tk tkX8_remove 14 rfl) (by decide) (fun c28 => ?_) (fun c28 => absurd c28 (by decide))
      refine pw_aload_n (tk tkX8_remove 17 rfl) rfl ?_
      refine pw_cV0 (ct_X8_recordAside (xThr y 0) (aK (aOf x.2.1)) (fa.lk.2.2.2.2.2.2.2.1.trans hx.1) hx.2.1) okX8_recordAside (tk tkX8_remove 18 rfl) mkX8_42 imX8_recordAside seX8_recordAside (hp_ot _ 11) rfl rfl rfl (by decide) (by decide) (Nat.le_of_ble_eq_true rfl) ?_
      refine pw_aload_n (tk tkX8_remove 19 rfl) rfl ?_
      refine g8_happened (tk tkX8_remove 20 rfl) fkX8_52 ?_
      refine pw_ireturn (tk tkX8_remove 21 rfl) rfl (by decide) rfl ?_
      have h0 : (remR (uN (mS x.2.1)) (mS x.2.1) r1).2.2.2 = 0 := of_decide_eq_true c17
      have e : sremove (aOf x.2.1) r = (0, (remR (uN (mS x.2.1)) (mS x.2.1) r1).2.1, (fin (remR (uN (mS x.2.1)) (mS x.2.1) r1) (mS x.2.1), recH (aOf x.2.1) (mS x.2.1), (aOf x.2.1).2.2)) := ((if_neg (ne_f c5)).trans ((by rw [er2]; exact stA_ok 2 c17)))
      have e12 := (xRecA_F (xThr y 0) (aK (aOf x.2.1))).trans (hw (by rw [h0]; decide)).1
      exact MOQ.stm hx fa es.1 (remR_VS hv hr) e12 e
  · refine pw_iconst (v := 1) (tk tkX8_remove 4 rfl) (by decide) ?_
    refine pw_goto (tgt := 25) (tk tkX8_remove 5 rfl) (by decide) ?_
    refine pw_cV (ct_X8_holds x _) okX8_holds (tk tkX8_remove 13 rfl) mkX8_97 imX8_holds seX8_holds (hp_ot _ 11) rfl rfl rfl (by decide) (by decide) (Nat.le_of_ble_eq_true rfl) ?_
    refine pw_ifnb (tgt := 33) (tk tkX8_remove 14 rfl) (by decide) (fun c28 => absurd c28 (by decide)) (fun c28 => ?_)
    refine pw_iconst (v := 0) (tk tkX8_remove 15 rfl) (by decide) ?_
    refine pw_ireturn (tk tkX8_remove 16 rfl) rfl (by decide) rfl ?_
    have e : sremove (aOf x.2.1) r = (1, 0, aOf x.2.1) := (if_pos c5)
    rw [e]
    exact ⟨_, rfl, rfl, rfl, rfl, rfl, hx, AE.rf _⟩
def tuC (r c v : Int32) : Int32 := if inR r 0 5 = false then 1 else if inR c 0 2 = false then 1 else if inR v 0 999 = false then 2 else 0
def tuR (a : AM) (r c v : Int32) : TT := updR (uN (aS a)) (aS a) r.toNatClampNeg c.toNatClampNeg v
def tuQ (x : XW) (r c v : Int32) : Out → Hp → Prop := fun o h2 => (¬ tuC r c v = 0 ∧ o = .inl (some (.int 0)) ∧ h2 = hp (xThr x (tuC r c v))) ∨ (tuC r c v = 0 ∧ o = .inl (some (.int 1)) ∧ ∃ y, h2 = hp y ∧ y.1 = x.1 ∧ y.2.2 = x.2.2 ∧ mF y.2.1 0 = 0 ∧ VM y.2.1 ∧ AE (aOf x.2.1) (aOf y.2.1) ∧ mF y.2.1 12 = (tuR (aOf x.2.1) r c v).2.1 ∧ mF y.2.1 11 = (tuR (aOf x.2.1) r c v).2.2.1 ∧ mF y.2.1 13 = (tuR (aOf x.2.1) r c v).2.2.2)
set_option maxRecDepth 100000 in
set_option maxHeartbeats 4000000 in
theorem ct_X8_triesUpdate (x : XW) (hx : VM x.2.1) (r c v : Int32) : CT MX8_triesUpdate 7 0 [.ref 171, .int r, .int c, .int v] (hp x) (tuQ x r c v) := by
  refine ct_of (by decide +kernel) (by decide) rfl (k := 1) (ls := [some (.ref 171), some (.int r), some (.int c), some (.int v), none]) rfl (Nat.le_of_ble_eq_true rfl) ?_
  have hv : VS (uN (mS x.2.1)) (mS x.2.1) := hx.2.2.2.2.2
  refine pw_aload_n (tk tkX8_triesUpdate 0 rfl) rfl ?_
  refine pw_iload_n (tk tkX8_triesUpdate 1 rfl) rfl ?_
  refine pw_cS (ct_X8_isRow _ _) okX8_isRow (tk tkX8_triesUpdate 2 rfl) mkX8_106 stX8_isRow rfl rfl (by decide) (by decide) (Nat.le_of_ble_eq_true rfl) ?_
  refine pw_ifb (tgt := 15) (tk tkX8_triesUpdate 3 rfl) (by decide) (fun c5 => ?_) (fun c5 => ?_)
  · refine pw_iconst (v := 1) (tk tkX8_triesUpdate 7 rfl) (by decide) ?_
    refine pw_goto (tgt := 31) (tk tkX8_triesUpdate 8 rfl) (by decide) ?_
    refine pw_cV (ct_X8_holds x _) okX8_holds (tk tkX8_triesUpdate 15 rfl) mkX8_97 imX8_holds seX8_holds (hp_ot _ 11) rfl rfl rfl (by decide) (by decide) (Nat.le_of_ble_eq_true rfl) ?_
    refine pw_ifnb (tgt := 39) (tk tkX8_triesUpdate 16 rfl) (by decide) (fun c34 => absurd c34 (by decide)) (fun c34 => ?_)
    refine pw_iconst (v := 0) (tk tkX8_triesUpdate 17 rfl) (by decide) ?_
    refine pw_ireturn (tk tkX8_triesUpdate 18 rfl) rfl (by decide) (by first | rfl | exact nar_bI _) ?_
    have e : tuC r c v = 1 := (if_pos c5)
    exact .inl ⟨by rw [e]; decide, rfl, by rw [e]⟩
  · refine pw_iload_n (tk tkX8_triesUpdate 4 rfl) rfl ?_
    refine pw_cS (ct_X8_isColumn _ _) okX8_isColumn (tk tkX8_triesUpdate 5 rfl) mkX8_94 stX8_isColumn rfl rfl (by decide) (by decide) (Nat.le_of_ble_eq_true rfl) ?_
    refine pw_ifnb (tgt := 19) (tk tkX8_triesUpdate 6 rfl) (by decide) (fun c12 => ?_) (fun c12 => ?_)
    · refine pw_iload_n (tk tkX8_triesUpdate 9 rfl) rfl ?_
      refine pw_cS (ct_X8_isValue _ _) okX8_isValue (tk tkX8_triesUpdate 10 rfl) mkX8_76 stX8_isValue rfl rfl (by decide) (by decide) (Nat.le_of_ble_eq_true rfl) ?_
      refine pw_ifnb (tgt := 30) (tk tkX8_triesUpdate 11 rfl) (by decide) (fun c23 => ?_) (fun c23 => ?_)
      · refine pw_iconst (v := 0) (tk tkX8_triesUpdate 14 rfl) (by decide) ?_
        refine pw_cV (ct_X8_holds x _) okX8_holds (tk tkX8_triesUpdate 15 rfl) mkX8_97 imX8_holds seX8_holds (hp_ot _ 11) rfl rfl rfl (by decide) (by decide) (Nat.le_of_ble_eq_true rfl) ?_
        refine pw_ifnb (tgt := 39) (tk tkX8_triesUpdate 16 rfl) (by decide) (fun c34 => ?_) (fun c34 => absurd c34 (by decide))
        refine pw_aload_n (tk tkX8_triesUpdate 19 rfl) rfl ?_
        refine pw_iload_n (tk tkX8_triesUpdate 20 rfl) rfl ?_
        refine pw_iload_n (tk tkX8_triesUpdate 21 rfl) rfl ?_
        refine pw_iload_n (tk tkX8_triesUpdate 22 rfl) rfl ?_
        obtain ⟨r1, hr, er, er2⟩ := inR_row c5
        obtain ⟨c1, hc, ec, ec2⟩ := inR_col c12
        refine pw_callV (ct_X8_updatesW (xThr x 0) _ hv r1 c1 er ec v hr hc) okX8_updates (tk tkX8_triesUpdate 23 rfl) mkX8_112 imX8_updates seX8_updates (hp_ot _ 11) rfl rfl rfl (by decide) (by decide) (Nat.le_of_ble_eq_true rfl) (fun r h2 q => ?_) (fun E h2 q => by obtain ⟨y, e1, e2, e3, ho, e4⟩ := q; cases ho)
        obtain ⟨y, rfl, fa, es, ho, hw⟩ := q
        cases ho
        refine pw_ist4 (tk tkX8_triesUpdate 24 rfl) rfl (by decide) ?_
        refine pw_aload_n (tk tkX8_triesUpdate 25 rfl) rfl ?_
        refine pw_cV0 (ct_X8_putBack y) okX8_putBack (tk tkX8_triesUpdate 26 rfl) mkX8_87 imX8_putBack seX8_putBack (hp_ot _ 11) rfl rfl rfl (by decide) (by decide) (Nat.le_of_ble_eq_true rfl) ?_
        refine pw_iconst (v := 1) (tk tkX8_triesUpdate 27 rfl) (by decide) ?_
        refine pw_ireturn (tk tkX8_triesUpdate 28 rfl) rfl (by decide) (by first | rfl | exact nar_bI _) ?_
        have e : tuC r c v = 0 := ((if_neg (ne_f c5)).trans ((if_neg (ne_f c12)).trans (if_neg (ne_f c23))))
        have eR : tuR (aOf x.2.1) r c v = updR (uN (mS x.2.1)) (mS x.2.1) r1 c1 v := by unfold tuR; rw [er2, ec2]; rfl
        have fb : FA (xThr x 0) (uM1 y (cpN 132 (mA y.2.1) (mS y.2.1))) := ⟨fa.1, fa.2.1, fa.2.2.1, fa.2.2.2.1, fa.2.2.2.2.1, fa.2.2.2.2.2.1, fa.2.2.2.2.2.2⟩
        obtain ⟨q1, q2⟩ := fb.vm (hx.thr 0) ((cpN_E _ _).tr fa.2.2.1)
        obtain ⟨w1, w2, w3⟩ := hw trivial
        exact .inr ⟨e, rfl, _, rfl, fa.1, fa.2.1, fa.2.2.2.2.2.2 0 (by decide) (by decide) (by decide) (by decide), q1, q2, by rw [eR]; exact w1, by rw [eR]; exact w2, by rw [eR]; exact w3⟩
      · refine pw_iconst (v := 2) (tk tkX8_triesUpdate 12 rfl) (by decide) ?_
        refine pw_goto (tgt := 31) (tk tkX8_triesUpdate 13 rfl) (by decide) ?_
        refine pw_cV (ct_X8_holds x _) okX8_holds (tk tkX8_triesUpdate 15 rfl) mkX8_97 imX8_holds seX8_holds (hp_ot _ 11) rfl rfl rfl (by decide) (by decide) (Nat.le_of_ble_eq_true rfl) ?_
        refine pw_ifnb (tgt := 39) (tk tkX8_triesUpdate 16 rfl) (by decide) (fun c34 => absurd c34 (by decide)) (fun c34 => ?_)
        refine pw_iconst (v := 0) (tk tkX8_triesUpdate 17 rfl) (by decide) ?_
        refine pw_ireturn (tk tkX8_triesUpdate 18 rfl) rfl (by decide) (by first | rfl | exact nar_bI _) ?_
        have e : tuC r c v = 2 := ((if_neg (ne_f c5)).trans ((if_neg (ne_f c12)).trans (if_pos c23)))
        exact .inl ⟨by rw [e]; decide, rfl, by rw [e]⟩
    · refine pw_iconst (v := 1) (tk tkX8_triesUpdate 7 rfl) (by decide) ?_
      refine pw_goto (tgt := 31) (tk tkX8_triesUpdate 8 rfl) (by decide) ?_
      refine pw_cV (ct_X8_holds x _) okX8_holds (tk tkX8_triesUpdate 15 rfl) mkX8_97 imX8_holds seX8_holds (hp_ot _ 11) rfl rfl rfl (by decide) (by decide) (Nat.le_of_ble_eq_true rfl) ?_
      refine pw_ifnb (tgt := 39) (tk tkX8_triesUpdate 16 rfl) (by decide) (fun c34 => absurd c34 (by decide)) (fun c34 => ?_)
      refine pw_iconst (v := 0) (tk tkX8_triesUpdate 17 rfl) (by decide) ?_
      refine pw_ireturn (tk tkX8_triesUpdate 18 rfl) rfl (by decide) (by first | rfl | exact nar_bI _) ?_
      have e : tuC r c v = 1 := ((if_neg (ne_f c5)).trans (if_pos c12))
      exact .inl ⟨by rw [e]; decide, rfl, by rw [e]⟩
def swhyNotUpdate (a : AM) (r c v : Int32) : RS3 := (tuC r c v, (if tuC r c v = 0 then (tuR a r c v).2.2.2 else 0), a)
def seventsOfUpdate (a : AM) (r c v : Int32) : RS3 := (tuC r c v, (if tuC r c v = 0 then (if (tuR a r c v).2.2.2 ≤ 0 then (tuR a r c v).2.1 else -1) else 0), a)
def sdepthOfUpdate (a : AM) (r c v : Int32) : RS3 := (tuC r c v, (if tuC r c v = 0 then (if (tuR a r c v).2.2.2 ≤ 0 then (tuR a r c v).2.2.1 else -1) else 0), a)
set_option maxRecDepth 100000 in
set_option maxHeartbeats 4000000 in
theorem ct_X8_whyNotUpdate (x : XW) (hx : VM x.2.1) (r c v : Int32) : CT MX8_whyNotUpdate 8 0 [.ref 171, .int r, .int c, .int v] (hp x) (MOQ x (swhyNotUpdate (aOf x.2.1) r c v)) := by
  refine ct_of (by decide +kernel) (by decide) rfl (k := 0) (ls := [some (.ref 171), some (.int r), some (.int c), some (.int v)]) rfl (Nat.le_of_ble_eq_true rfl) ?_
  refine pw_aload_n (tk tkX8_whyNotUpdate 0 rfl) rfl ?_
  refine pw_iload_n (tk tkX8_whyNotUpdate 1 rfl) rfl ?_
  refine pw_iload_n (tk tkX8_whyNotUpdate 2 rfl) rfl ?_
  refine pw_iload_n (tk tkX8_whyNotUpdate 3 rfl) rfl ?_
  refine pw_callV (ct_X8_triesUpdate x hx r c v) okX8_triesUpdate (tk tkX8_whyNotUpdate 4 rfl) mkX8_118 imX8_triesUpdate seX8_triesUpdate (hp_ot _ 11) rfl rfl rfl (by decide) (by decide) (Nat.le_of_ble_eq_true rfl) (fun r h2 q => ?_) (fun E h2 q => by rcases q with ⟨_, ho, _⟩ | ⟨_, ho, _⟩ <;> cases ho)
  rcases q with ⟨e0, ho, rfl⟩ | ⟨e0, ho, y, rfl, y1, y2, y3, y4, y5, y6, y7, y8⟩
  · cases ho
    refine pw_if_eq (tgt := 17) (tk tkX8_whyNotUpdate 5 rfl) (by decide) (fun c7 => ?_) (fun c7 => absurd rfl c7)
    refine pw_iconst (v := 0) (tk tkX8_whyNotUpdate 9 rfl) (by decide) ?_
    exact pw_ireturn (tk tkX8_whyNotUpdate 10 rfl) rfl (by decide) rfl ⟨_, rfl, rfl, rfl, rfl, congrArg (fun z => Sum.inl (some (Value.int z))) (if_neg e0).symm, hx.thr _, AE.rf _⟩
  · cases ho
    refine pw_if_eq (tgt := 17) (tk tkX8_whyNotUpdate 5 rfl) (by decide) (fun c7 => absurd c7 (by decide)) (fun c7 => ?_)
    refine pw_aload_n (tk tkX8_whyNotUpdate 6 rfl) rfl ?_
    refine g8_refused (tk tkX8_whyNotUpdate 7 rfl) fkX8_59 ?_
    refine pw_goto (tgt := 18) (tk tkX8_whyNotUpdate 8 rfl) (by decide) ?_
    exact pw_ireturn (tk tkX8_whyNotUpdate 10 rfl) rfl (by decide) rfl ⟨_, rfl, y1, y2, y3.trans e0.symm, congrArg (fun z => Sum.inl (some (Value.int z))) (y8.trans (if_pos e0).symm), y4, y5⟩
set_option maxRecDepth 100000 in
set_option maxHeartbeats 4000000 in
theorem ct_X8_eventsOfUpdate (x : XW) (hx : VM x.2.1) (r c v : Int32) : CT MX8_eventsOfUpdate 8 0 [.ref 171, .int r, .int c, .int v] (hp x) (MOQ x (seventsOfUpdate (aOf x.2.1) r c v)) := by
  refine ct_of (by decide +kernel) (by decide) rfl (k := 0) (ls := [some (.ref 171), some (.int r), some (.int c), some (.int v)]) rfl (Nat.le_of_ble_eq_true rfl) ?_
  refine pw_aload_n (tk tkX8_eventsOfUpdate 0 rfl) rfl ?_
  refine pw_iload_n (tk tkX8_eventsOfUpdate 1 rfl) rfl ?_
  refine pw_iload_n (tk tkX8_eventsOfUpdate 2 rfl) rfl ?_
  refine pw_iload_n (tk tkX8_eventsOfUpdate 3 rfl) rfl ?_
  refine pw_callV (ct_X8_triesUpdate x hx r c v) okX8_triesUpdate (tk tkX8_eventsOfUpdate 4 rfl) mkX8_118 imX8_triesUpdate seX8_triesUpdate (hp_ot _ 11) rfl rfl rfl (by decide) (by decide) (Nat.le_of_ble_eq_true rfl) (fun r h2 q => ?_) (fun E h2 q => by rcases q with ⟨_, ho, _⟩ | ⟨_, ho, _⟩ <;> cases ho)
  rcases q with ⟨e0, ho, rfl⟩ | ⟨e0, ho, y, rfl, y1, y2, y3, y4, y5, y6, y7, y8⟩
  · cases ho
    refine pw_if_ne (tgt := 14) (tk tkX8_eventsOfUpdate 5 rfl) (by decide) (fun c7 => absurd c7 (fun q => q rfl)) (fun c7 => ?_)
    refine pw_iconst (v := 0) (tk tkX8_eventsOfUpdate 6 rfl) (by decide) ?_
    refine pw_goto (tgt := 29) (tk tkX8_eventsOfUpdate 7 rfl) (by decide) ?_
    exact pw_ireturn (tk tkX8_eventsOfUpdate 15 rfl) rfl (by decide) rfl ⟨_, rfl, rfl, rfl, rfl, congrArg (fun z => Sum.inl (some (Value.int z))) (if_neg e0).symm, hx.thr _, AE.rf _⟩
  · cases ho
    refine pw_if_ne (tgt := 14) (tk tkX8_eventsOfUpdate 5 rfl) (by decide) (fun c7 => ?_) (fun c7 => absurd c7 (by decide))
    refine pw_aload_n (tk tkX8_eventsOfUpdate 8 rfl) rfl ?_
    refine g8_refused (tk tkX8_eventsOfUpdate 9 rfl) fkX8_59 ?_
    refine pw_if_le (tgt := 25) (tk tkX8_eventsOfUpdate 10 rfl) (by decide) (fun c18 => ?_) (fun c18 => ?_)
    · refine pw_aload_n (tk tkX8_eventsOfUpdate 13 rfl) rfl ?_
      refine g8_happened (tk tkX8_eventsOfUpdate 14 rfl) fkX8_52 ?_
      exact pw_ireturn (tk tkX8_eventsOfUpdate 15 rfl) rfl (by decide) rfl ⟨_, rfl, y1, y2, y3.trans e0.symm, congrArg (fun z => Sum.inl (some (Value.int z))) (y6.trans ((if_pos e0).trans (if_pos (by rw [← y8]; exact c18))).symm), y4, y5⟩
    · refine pw_iconst (v := (-1)) (tk tkX8_eventsOfUpdate 11 rfl) (by decide) ?_
      refine pw_goto (tgt := 29) (tk tkX8_eventsOfUpdate 12 rfl) (by decide) ?_
      exact pw_ireturn (tk tkX8_eventsOfUpdate 15 rfl) rfl (by decide) rfl ⟨_, rfl, y1, y2, y3.trans e0.symm, congrArg (fun z => Sum.inl (some (Value.int z))) (((if_pos e0).trans (if_neg (by rw [← y8]; exact c18))).symm), y4, y5⟩
set_option maxRecDepth 100000 in
set_option maxHeartbeats 4000000 in
theorem ct_X8_depthOfUpdate (x : XW) (hx : VM x.2.1) (r c v : Int32) : CT MX8_depthOfUpdate 8 0 [.ref 171, .int r, .int c, .int v] (hp x) (MOQ x (sdepthOfUpdate (aOf x.2.1) r c v)) := by
  refine ct_of (by decide +kernel) (by decide) rfl (k := 0) (ls := [some (.ref 171), some (.int r), some (.int c), some (.int v)]) rfl (Nat.le_of_ble_eq_true rfl) ?_
  refine pw_aload_n (tk tkX8_depthOfUpdate 0 rfl) rfl ?_
  refine pw_iload_n (tk tkX8_depthOfUpdate 1 rfl) rfl ?_
  refine pw_iload_n (tk tkX8_depthOfUpdate 2 rfl) rfl ?_
  refine pw_iload_n (tk tkX8_depthOfUpdate 3 rfl) rfl ?_
  refine pw_callV (ct_X8_triesUpdate x hx r c v) okX8_triesUpdate (tk tkX8_depthOfUpdate 4 rfl) mkX8_118 imX8_triesUpdate seX8_triesUpdate (hp_ot _ 11) rfl rfl rfl (by decide) (by decide) (Nat.le_of_ble_eq_true rfl) (fun r h2 q => ?_) (fun E h2 q => by rcases q with ⟨_, ho, _⟩ | ⟨_, ho, _⟩ <;> cases ho)
  rcases q with ⟨e0, ho, rfl⟩ | ⟨e0, ho, y, rfl, y1, y2, y3, y4, y5, y6, y7, y8⟩
  · cases ho
    refine pw_if_ne (tgt := 14) (tk tkX8_depthOfUpdate 5 rfl) (by decide) (fun c7 => absurd c7 (fun q => q rfl)) (fun c7 => ?_)
    refine pw_iconst (v := 0) (tk tkX8_depthOfUpdate 6 rfl) (by decide) ?_
    refine pw_goto (tgt := 29) (tk tkX8_depthOfUpdate 7 rfl) (by decide) ?_
    exact pw_ireturn (tk tkX8_depthOfUpdate 15 rfl) rfl (by decide) rfl ⟨_, rfl, rfl, rfl, rfl, congrArg (fun z => Sum.inl (some (Value.int z))) (if_neg e0).symm, hx.thr _, AE.rf _⟩
  · cases ho
    refine pw_if_ne (tgt := 14) (tk tkX8_depthOfUpdate 5 rfl) (by decide) (fun c7 => ?_) (fun c7 => absurd c7 (by decide))
    refine pw_aload_n (tk tkX8_depthOfUpdate 8 rfl) rfl ?_
    refine g8_refused (tk tkX8_depthOfUpdate 9 rfl) fkX8_59 ?_
    refine pw_if_le (tgt := 25) (tk tkX8_depthOfUpdate 10 rfl) (by decide) (fun c18 => ?_) (fun c18 => ?_)
    · refine pw_aload_n (tk tkX8_depthOfUpdate 13 rfl) rfl ?_
      refine g8_deepest (tk tkX8_depthOfUpdate 14 rfl) fkX8_65 ?_
      exact pw_ireturn (tk tkX8_depthOfUpdate 15 rfl) rfl (by decide) rfl ⟨_, rfl, y1, y2, y3.trans e0.symm, congrArg (fun z => Sum.inl (some (Value.int z))) (y7.trans ((if_pos e0).trans (if_pos (by rw [← y8]; exact c18))).symm), y4, y5⟩
    · refine pw_iconst (v := (-1)) (tk tkX8_depthOfUpdate 11 rfl) (by decide) ?_
      refine pw_goto (tgt := 29) (tk tkX8_depthOfUpdate 12 rfl) (by decide) ?_
      exact pw_ireturn (tk tkX8_depthOfUpdate 15 rfl) rfl (by decide) rfl ⟨_, rfl, y1, y2, y3.trans e0.symm, congrArg (fun z => Sum.inl (some (Value.int z))) (((if_pos e0).trans (if_neg (by rw [← y8]; exact c18))).symm), y4, y5⟩
