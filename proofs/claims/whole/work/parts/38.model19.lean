theorem goP_f (u : Nat) (T : Nat → Int32) (n : Nat) (s : Nat → Int32) : ∀ (f sp : Nat) (dn : Int32), (goP u T n f sp false s dn).2.2.1 = s
  | 0, _, _ => rfl
  | f + 1, sp, dn => by
    have e : goP u T n (f + 1) sp false s dn = goN (goP u T n f) T n (rdP T n sp) false s (dn + 0) := if_neg (by rw [Bool.false_and]; exact Bool.false_ne_true)
    rw [e]
    unfold goN
    split
    · split
      · exact goP_f u T n s f _ _
      · rfl
    · rfl
theorem GD.vm {x y : XW} (hx : VM x.2.1) (g : GD x y) (es : E132 (mS y.2.1) (mS x.2.1)) : VM y.2.1 ∧ AE (aOf x.2.1) (aOf y.2.1) := by
  obtain ⟨a1, a2, a4, a5, a6, a7⟩ := g
  have f4 := a7 4 (by decide)
  have f6 := a7 6 (by decide)
  have f8 := a7 8 (by decide)
  refine ⟨VM.of hx f4 f8 (by rw [f6]; exact hx.2.2.2.2.1) (VS.EE hx.2.2.2.2.2 es.sy), es.sy, (congrArg Int32.toNatClampNeg f4).symm, ?_, ?_, ?_, (congrArg Int32.toNatClampNeg f8).symm, ?_⟩
  · intro i _ j _; show mHi x.2.1 _ = mHi y.2.1 _; rw [a4]
  · intro i _; show decide ((mF x.2.1 6 >>> (nI i &&& 31)) &&& 1 = 1) = decide ((mF y.2.1 6 >>> (nI i &&& 31)) &&& 1 = 1); rw [f6]
  · intro i _ _ j _; show mSl x.2.1 _ = mSl y.2.1 _; rw [a5]
  · intro i _; show mTx x.2.1 i = mTx y.2.1 i; rw [a6]
def gA (a : AM) (b : Bool) : GT := goP (uN (aS a)) (aT a) (aN a) (aN a + 1) 0 b (aS a) 0
def stextError (a : AM) : RS3 := (0, (if (gA a false).1 = false then -1 else nI (gA a false).2.1), a)
set_option maxRecDepth 100000 in
set_option maxHeartbeats 4000000 in
theorem ct_X8_textError (x : XW) (hx : VM x.2.1)  : CT MX8_textError 9 0 [.ref 171] (hp x) (MOQ x (stextError (aOf x.2.1) )) := by
  refine ct_of (by decide +kernel) (by decide) rfl (k := 0) (ls := [some (.ref 171)]) rfl (Nat.le_of_ble_eq_true rfl) ?_
  obtain ⟨hu, hu8⟩ := hx.u
  obtain ⟨l99, hl, el⟩ := hx.l
  have hv : VS (uN (mS x.2.1)) (mS x.2.1) := hx.2.2.2.2.2
  have ect : CT MX8_goesThrough 8 0 [.ref 171, .int (bI false)] (hp (xThr x 0)) (gtQ (xThr x 0) false (gA (aOf x.2.1) false)) := ct_X8_goesThrough (xThr x 0) (uN (mS x.2.1)) (aN (aOf x.2.1)) false hv hx.2.2.1 hx.2.2.2.1
  obtain ⟨G, hG⟩ : ∃ G, G = gA (aOf x.2.1) false := ⟨_, rfl⟩
  have es0 : G.2.2.1 = mS x.2.1 := by rw [hG]; exact goP_f _ _ _ _ _ _ _
  have eR : stextError (aOf x.2.1) = (0, (if G.1 = false then -1 else nI G.2.1), aOf x.2.1) := by rw [hG]; rfl
  rw [← hG] at ect
  rw [eR]
  refine pw_aload_n (tk tkX8_textError 0 rfl) rfl ?_
  refine pw_iconst (v := 0) (tk tkX8_textError 1 rfl) (by decide) ?_
  refine p8_thrown (tk tkX8_textError 2 rfl) fkX8_28 ?_
  refine pw_aload_n (tk tkX8_textError 3 rfl) rfl ?_
  refine pw_iconst (v := 0) (tk tkX8_textError 4 rfl) (by decide) ?_
  refine pw_callV ect okX8_goesThrough (tk tkX8_textError 5 rfl) mkX8_181 imX8_goesThrough seX8_goesThrough (hp_ot _ 11) rfl rfl rfl (by decide) (by decide) (Nat.le_of_ble_eq_true rfl) (fun r h2 q => ?_) (fun E h2 q => by cases q.1)
  obtain ⟨ho, y, rfl, gd, y14, y15, y21, es, ex⟩ := q
  cases ho
  refine pw_aload_n (tk tkX8_textError 6 rfl) rfl ?_
  refine g8_isWrong (tk tkX8_textError 7 rfl) fkX8_144 ?_
  rw [y15]
  refine pw_ifb (tgt := 24) (tk tkX8_textError 8 rfl) (by decide) (fun c14 => ?_) (fun c14 => ?_)
  · refine pw_iconst (v := (-1)) (tk tkX8_textError 12 rfl) (by decide) ?_
    refine pw_ireturn (tk tkX8_textError 13 rfl) rfl (by decide) rfl ?_
    obtain ⟨q1, q2⟩ := gd.vm (hx.thr 0) (by rw [es0] at es; exact es)
    exact ⟨y, rfl, gd.1, gd.2.1, gd.2.2.2.2.2 0 (by decide), congrArg (fun z => Sum.inl (some (Value.int z))) ((if_pos c14).symm), q1, q2⟩
  · refine pw_aload_n (tk tkX8_textError 9 rfl) rfl ?_
    refine g8_spot (tk tkX8_textError 10 rfl) fkX8_148 ?_
    refine pw_goto (tgt := 25) (tk tkX8_textError 11 rfl) (by decide) ?_
    refine pw_ireturn (tk tkX8_textError 13 rfl) rfl (by decide) rfl ?_
    obtain ⟨q1, q2⟩ := gd.vm (hx.thr 0) (by rw [es0] at es; exact es)
    exact ⟨y, rfl, gd.1, gd.2.1, gd.2.2.2.2.2 0 (by decide), congrArg (fun z => Sum.inl (some (Value.int z))) (y14.trans (if_neg (ne_f c14)).symm), q1, q2⟩
