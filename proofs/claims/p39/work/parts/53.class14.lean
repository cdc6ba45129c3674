set_option maxRecDepth 100000 in
set_option maxHeartbeats 4000000 in
theorem ct_X0_nextOf (x : XW) (s : Nat → Int32) (w0 : Int32) (u : Nat) (hs : RS1 (cSt x.1 0) s w0) (hv : VS u s) (r : Nat) (hr : r < u) : CT MX0_nextOf 1 0 [.ref (16 * 0), .int (nI r)] (hp x) (Det (.inl (some (.int (mkM (stO s r) u)))) (hp x)) := by
  refine ct_of (by decide +kernel) (by decide) rfl (k := 2) (ls := [some (.ref (16 * 0)), some (.int (nI r)), none, none]) rfl (Nat.le_of_ble_eq_true rfl) ?_
  have eu := hv.un
  have hu8 := hv.1
  have hu : sSc (cSt x.1 0) 0 = nI u := hs.2.2.1.trans hv.2.1
  have L : ∀ k i, i + k = u → PW MX0_nextOf 1 0 4 [some (.ref (16 * 0)), some (.int (nI r)), some (.int (mkM (stO s r) i)), some (.int (nI i))] [] (hp x) (Det (.inl (some (.int (mkM (stO s r) u)))) (hp x)) := by
    intro k
    induction k with
    | zero =>
      intro i hi
      obtain rfl : i = u := by omega
      refine pw_iload_n (tk tkX0_nextOf 4 rfl) rfl ?_
      refine pw_aload_n (tk tkX0_nextOf 5 rfl) rfl ?_
      refine g4_rulesUsed (by first | assumption | decide | omega) (tk tkX0_nextOf 6 rfl) fkX0_15 ?_
      rw [hu]
      refine pw_icmp_ge (tgt := 42) (tk tkX0_nextOf 7 rfl) (by decide) (fun c9 => ?_) (fun c9 => absurd (Int32.le_refl _) c9)
      refine pw_iload_n (tk tkX0_nextOf 26 rfl) rfl ?_
      exact pw_ireturn (tk tkX0_nextOf 27 rfl) rfl (by decide) rfl ⟨rfl, rfl⟩
    | succ k ih =>
      intro i hi
      refine pw_iload_n (tk tkX0_nextOf 4 rfl) rfl ?_
      refine pw_aload_n (tk tkX0_nextOf 5 rfl) rfl ?_
      refine g4_rulesUsed (by first | assumption | decide | omega) (tk tkX0_nextOf 6 rfl) fkX0_15 ?_
      rw [hu]
      refine pw_icmp_ge (tgt := 42) (tk tkX0_nextOf 7 rfl) (by decide) (fun c9 => absurd c9 (nI_ge (by omega) (by omega))) (fun c9 => ?_)
      refine pw_aload_n (tk tkX0_nextOf 8 rfl) rfl ?_
      refine g4_rules (by first | assumption | decide | omega) (tk tkX0_nextOf 9 rfl) fkX0_21 ?_
      refine pw_iload_n (tk tkX0_nextOf 10 rfl) rfl ?_
      refine al_rules_e (e := r) (by first | assumption | decide | omega) (tk tkX0_nextOf 11 rfl) rfl (by first | decide | omega) ?_
      refine pw_aload_n (tk tkX0_nextOf 12 rfl) rfl ?_
      refine g4_rules (by first | assumption | decide | omega) (tk tkX0_nextOf 13 rfl) fkX0_21 ?_
      refine pw_iload_n (tk tkX0_nextOf 14 rfl) rfl ?_
      refine al_rules_e (e := i) (by first | assumption | decide | omega) (tk tkX0_nextOf 15 rfl) rfl (by first | decide | omega) ?_
      refine pw_cV (ct_X3_setsOff x 0 r 0 i (by decide) (by omega) (by decide) (by omega)) okX3_setsOff (tk tkX0_nextOf 16 rfl) mkX0_25 imX3_setsOff seX3_setsOff ((hp_st _ (by decide : 0 < 10) (by omega)).trans (stc_ru _ _ _ (by omega))) rfl rfl rfl (by decide) (by decide) (Nat.le_of_ble_eq_true rfl) ?_
      rw [so_st hs (by omega) (by omega)]
      refine pw_ifb (tgt := 36) (tk tkX0_nextOf 17 rfl) (by decide) (fun c27 => ?_) (fun c27 => ?_)
      · refine pw_inc3 (tk tkX0_nextOf 24 rfl) rfl (by decide) (nI_1 i) ?_
        refine pw_goto (tgt := 4) (tk tkX0_nextOf 25 rfl) (by decide) ?_
        rw [mkM_f c27]
        exact ih (i + 1) (by omega)
      · refine pw_iload_n (tk tkX0_nextOf 18 rfl) rfl ?_
        refine pw_iconst (v := 1) (tk tkX0_nextOf 19 rfl) (by decide) ?_
        refine pw_iload_n (tk tkX0_nextOf 20 rfl) rfl ?_
        refine pw_ishl (tk tkX0_nextOf 21 rfl) ?_
        refine pw_ior (tk tkX0_nextOf 22 rfl) ?_
        refine pw_ist2 (tk tkX0_nextOf 23 rfl) rfl (by decide) ?_
        refine pw_inc3 (tk tkX0_nextOf 24 rfl) rfl (by decide) (nI_1 i) ?_
        refine pw_goto (tgt := 4) (tk tkX0_nextOf 25 rfl) (by decide) ?_
        rw [mkM_t c27]
        exact ih (i + 1) (by omega)
  refine pw_iconst (v := 0) (tk tkX0_nextOf 0 rfl) (by decide) ?_
  refine pw_ist2 (tk tkX0_nextOf 1 rfl) rfl (by decide) ?_
  refine pw_iconst (v := 0) (tk tkX0_nextOf 2 rfl) (by decide) ?_
  refine pw_ist3 (tk tkX0_nextOf 3 rfl) rfl (by decide) ?_
  exact L u 0 (by omega)
set_option maxRecDepth 100000 in
set_option maxHeartbeats 4000000 in
theorem ct_X0_search (x : XW) (s : Nat → Int32) (w0 : Int32) (u : Nat) (hs : RS1 (cSt x.1 0) s w0) (hv : VS u s) (r : Nat) (hr : r < u) : CT MX0_search 2 0 [.ref 162, .ref (16 * 0), .int (nI r)] (hp x) (Det (.inl (some (.int (mkM (rcN s u r 8) u)))) (hp x)) := by
  refine ct_of (by decide +kernel) (by decide) rfl (k := 5) (ls := [some (.ref 162), some (.ref (16 * 0)), some (.int (nI r)), none, none, none, none, none]) rfl (Nat.le_of_ble_eq_true rfl) ?_
  have eu := hv.un
  have hu8 := hv.1
  have hu : sSc (cSt x.1 0) 0 = nI u := hs.2.2.1.trans hv.2.1
  have fin : ∀ p, IsCl (stO s) u r p → mkM p u = mkM (rcN s u r 8) u := fun p h => mkM_cg u (h.eq (rcN_IsCl s r hu8))
  have J : ∀ (m : Nat) (p f : Nat → Bool), m < 8 → (∀ b6 b7, PW MX0_search 2 0 12 [some (.ref 162), some (.ref (16 * 0)), some (.int (nI r)), some (.int (mkM (fun j => p j || f j) u)), some (.int (mkM (fun j => fuN (stO s) f u j && !(p j || f j)) u)), some (.int (nI (m + 1))), b6, b7] [] (hp x) (Det (.inl (some (.int (mkM (rcN s u r 8) u)))) (hp x))) → ∀ k i, i + k = u → PW MX0_search 2 0 35 [some (.ref 162), some (.ref (16 * 0)), some (.int (nI r)), some (.int (mkM (fun j => p j || f j) u)), some (.int (mkM f u)), some (.int (nI m)), some (.int (mkM (fuN (stO s) f i) u)), some (.int (nI i))] [] (hp x) (Det (.inl (some (.int (mkM (rcN s u r 8) u)))) (hp x)) := by
    intro m p f hm H k
    induction k with
    | zero =>
      intro i hi
      obtain rfl : i = u := by omega
      refine pw_iload (tk tkX0_search 21 rfl) rfl ?_
      refine pw_aload_n (tk tkX0_search 22 rfl) rfl ?_
      refine g4_rulesUsed (by first | assumption | decide | omega) (tk tkX0_search 23 rfl) fkX0_15 ?_
      rw [hu]
      refine pw_icmp_ge (tgt := 71) (tk tkX0_search 24 rfl) (by decide) (fun c41 => ?_) (fun c41 => absurd (Int32.le_refl _) c41)
      refine pw_iload (tk tkX0_search 39 rfl) rfl ?_
      refine pw_iload_n (tk tkX0_search 40 rfl) rfl ?_
      refine pw_iconst (v := (-1)) (tk tkX0_search 41 rfl) (by decide) ?_
      refine pw_ixor (tk tkX0_search 42 rfl) ?_
      refine pw_iand (tk tkX0_search 43 rfl) ?_
      rw [mk_andn _ _ hu8]
      refine pw_ist4 (tk tkX0_search 44 rfl) rfl (by decide) ?_
      refine pw_inc5 (tk tkX0_search 45 rfl) rfl (by decide) (nI_1 m) ?_
      refine pw_goto (tgt := 12) (tk tkX0_search 46 rfl) (by decide) ?_
      exact H _ _
    | succ k ih =>
      intro i hi
      have e1 : f i = true → mkM (fuN (stO s) f i) u ||| mkM (stO s i) u = mkM (fuN (stO s) f (i + 1)) u := fun h => by rw [mk_or]; exact mkM_cg u (fun j _ => by show _ = (_ || (f i && _)); rw [h, Bool.true_and])
      have e0 : f i = false → mkM (fuN (stO s) f i) u = mkM (fuN (stO s) f (i + 1)) u := fun h => mkM_cg u (fun j _ => by show _ = (_ || (f i && _)); rw [h, Bool.false_and, Bool.or_false])
      refine pw_iload (tk tkX0_search 21 rfl) rfl ?_
      refine pw_aload_n (tk tkX0_search 22 rfl) rfl ?_
      refine g4_rulesUsed (by first | assumption | decide | omega) (tk tkX0_search 23 rfl) fkX0_15 ?_
      rw [hu]
      refine pw_icmp_ge (tgt := 71) (tk tkX0_search 24 rfl) (by decide) (fun c41 => absurd c41 (nI_ge (by omega) (by omega))) (fun c41 => ?_)
      refine pw_iload (tk tkX0_search 25 rfl) rfl ?_
      refine pw_iconst (v := 1) (tk tkX0_search 26 rfl) (by decide) ?_
      refine pw_iload (tk tkX0_search 27 rfl) rfl ?_
      refine pw_ishl (tk tkX0_search 28 rfl) ?_
      refine pw_iand (tk tkX0_search 29 rfl) ?_
      refine pw_if_eq (tgt := 65) (tk tkX0_search 30 rfl) (by decide) (fun c51 => ?_) (fun c51 => ?_)
      · refine pw_inc7 (tk tkX0_search 37 rfl) rfl (by decide) (nI_1 i) ?_
        refine pw_goto (tgt := 35) (tk tkX0_search 38 rfl) (by decide) ?_
        rw [e0 ((mk_and0 f hu8 (show i < u by omega)).mp c51)]
        exact ih (i + 1) (by omega)
      · refine pw_iload (tk tkX0_search 31 rfl) rfl ?_
        refine pw_aload_n (tk tkX0_search 32 rfl) rfl ?_
        refine pw_iload (tk tkX0_search 33 rfl) rfl ?_
        refine pw_cS (ct_X0_nextOf x s w0 u hs hv i (by omega)) okX0_nextOf (tk tkX0_search 34 rfl) mkX0_31 stX0_nextOf rfl rfl (by decide) (by decide) (Nat.le_of_ble_eq_true rfl) ?_
        refine pw_ior (tk tkX0_search 35 rfl) ?_
        refine pw_ist6 (tk tkX0_search 36 rfl) rfl (by decide) ?_
        refine pw_inc7 (tk tkX0_search 37 rfl) rfl (by decide) (nI_1 i) ?_
        refine pw_goto (tgt := 35) (tk tkX0_search 38 rfl) (by decide) ?_
        rw [e1 (by by_cases z : f i = true; exact z; exact absurd ((mk_and0 f hu8 (show i < u by omega)).mpr (Bool.eq_false_iff.mpr z)) c51)]
        exact ih (i + 1) (by omega)
  have L : ∀ k m, m + k = 8 → ∀ (p f : Nat → Bool) b6 b7, SI (stO s) u r m p f → PW MX0_search 2 0 12 [some (.ref 162), some (.ref (16 * 0)), some (.int (nI r)), some (.int (mkM p u)), some (.int (mkM f u)), some (.int (nI m)), b6, b7] [] (hp x) (Det (.inl (some (.int (mkM (rcN s u r 8) u)))) (hp x)) := by
    intro k
    induction k with
    | zero =>
      intro m hm p f b6 b7 hI
      obtain rfl : m = 8 := by omega
      refine pw_iload (tk tkX0_search 8 rfl) rfl ?_
      refine pw_bipush (v := 8) (tk tkX0_search 9 rfl) (by decide) ?_
      refine pw_icmp_ge (tgt := 85) (tk tkX0_search 10 rfl) (by decide) (fun c16 => ?_) (fun c16 => absurd (Int32.le_refl _) c16)
      refine pw_iload_n (tk tkX0_search 47 rfl) rfl ?_
      exact pw_ireturn (tk tkX0_search 48 rfl) rfl (by decide) rfl ⟨by rw [fin p (SI_8 hI hu8)], rfl⟩
    | succ k ih =>
      intro m hm p f b6 b7 hI
      refine pw_iload (tk tkX0_search 8 rfl) rfl ?_
      refine pw_bipush (v := 8) (tk tkX0_search 9 rfl) (by decide) ?_
      refine pw_icmp_ge (tgt := 85) (tk tkX0_search 10 rfl) (by decide) (fun c16 => absurd c16 (nI_ge (b := 8) (by omega) (by decide))) (fun c16 => ?_)
      refine pw_iload (tk tkX0_search 11 rfl) rfl ?_
      refine pw_if_eq (tgt := 85) (tk tkX0_search 12 rfl) (by decide) (fun c21 => ?_) (fun c21 => ?_)
      · refine pw_iload_n (tk tkX0_search 47 rfl) rfl ?_
        exact pw_ireturn (tk tkX0_search 48 rfl) rfl (by decide) rfl ⟨by rw [fin p (SI_end hI (fun j hj => by by_cases z : f j = true; exact absurd c21 (mk_ne f hu8 hj z); exact Bool.eq_false_iff.mpr z))], rfl⟩
      · refine pw_iload_n (tk tkX0_search 13 rfl) rfl ?_
        refine pw_iload (tk tkX0_search 14 rfl) rfl ?_
        refine pw_ior (tk tkX0_search 15 rfl) ?_
        rw [mk_or]
        refine pw_ist3 (tk tkX0_search 16 rfl) rfl (by decide) ?_
        refine pw_iconst (v := 0) (tk tkX0_search 17 rfl) (by decide) ?_
        refine pw_ist6 (tk tkX0_search 18 rfl) rfl (by decide) ?_
        refine pw_iconst (v := 0) (tk tkX0_search 19 rfl) (by decide) ?_
        refine pw_ist7 (tk tkX0_search 20 rfl) rfl (by decide) ?_
        have q := J m p f (by omega) (fun b6 b7 => ih (m + 1) (by omega) (fun j => p j || f j) (fun j => fuN (stO s) f u j && !(p j || f j)) b6 b7 (SI_s hI c21)) u 0 (by omega)
        rw [show mkM (fuN (stO s) f 0) u = 0 from mk_0 _ u (fun _ _ => rfl)] at q
        exact q
  refine pw_iconst (v := 0) (tk tkX0_search 0 rfl) (by decide) ?_
  refine pw_ist3 (tk tkX0_search 1 rfl) rfl (by decide) ?_
  refine pw_aload_n (tk tkX0_search 2 rfl) rfl ?_
  refine pw_iload_n (tk tkX0_search 3 rfl) rfl ?_
  refine pw_cS (ct_X0_nextOf x s w0 u hs hv r hr) okX0_nextOf (tk tkX0_search 4 rfl) mkX0_31 stX0_nextOf rfl rfl (by decide) (by decide) (Nat.le_of_ble_eq_true rfl) ?_
  refine pw_ist4 (tk tkX0_search 5 rfl) rfl (by decide) ?_
  refine pw_iconst (v := 0) (tk tkX0_search 6 rfl) (by decide) ?_
  refine pw_ist5 (tk tkX0_search 7 rfl) rfl (by decide) ?_
  have q := L 8 0 (by omega) (fun _ => false) (stO s r) none none (SI_0 _ _ _)
  rw [show mkM (fun _ => false) u = 0 from mk_0 _ u (fun _ _ => rfl)] at q
  exact q
def tW (E : Nat → Nat → Bool) (b r : Nat) : Nat → Nat → Bool := fun i => if i < r then wN E (b + 1) i else wN E b i
theorem tW_0 (E : Nat → Nat → Bool) (b : Nat) : tW E b 0 = wN E b := by funext i; unfold tW; rw [if_neg (by omega)]
/-- the table's rows below u -/
def TR (x : XW) (u : Nat) (T : Nat → Nat → Bool) : Prop := ∀ i, i < u → cCt x.1 i = mkM (T i) u
theorem TR.cg {x : XW} {u : Nat} {T S : Nat → Nat → Bool} (h : TR x u T) (e : ∀ i, i < u → T i = S i) : TR x u S := fun i hi => by rw [← e i hi]; exact h i hi
def FX (x y : XW) : Prop := ∃ f, y = uC3 x f
theorem FX.go {x y : XW} (h : FX x y) (f : Nat → Int32) : FX x (uC3 y f) := by obtain ⟨g, rfl⟩ := h; exact ⟨f, rfl⟩
theorem FX.st {x y : XW} (h : FX x y) : cSt y.1 = cSt x.1 := by obtain ⟨g, rfl⟩ := h; rfl
theorem FX.rc {a : AM} {x y : XW} (h : FX x y) (hc : RC a x.1) : RC a y.1 ∧ y.2 = x.2 := by obtain ⟨g, rfl⟩ := h; exact ⟨hc, rfl⟩
def ftQ (x : XW) (u : Nat) (E : Nat → Nat → Bool) : Out → Hp → Prop := fun o h2 => o = .inl none ∧ ∃ y, h2 = hp y ∧ FX x y ∧ TR y u (wN E u)
set_option maxRecDepth 100000 in
set_option maxHeartbeats 4000000 in
theorem ct_X0_fillTable (x : XW) (s : Nat → Int32) (w0 : Int32) (u : Nat) (hs : RS1 (cSt x.1 0) s w0) (hv : VS u s)  : CT MX0_fillTable 2 0 [.ref 162, .ref (16 * 0)] (hp x) (ftQ x u (stO s)) := by
  refine ct_of (by decide +kernel) (by decide) rfl (k := 2) (ls := [some (.ref 162), some (.ref (16 * 0)), none, none]) rfl (Nat.le_of_ble_eq_true rfl) ?_
  have eu := hv.un
  have hu8 := hv.1
  have hu : sSc (cSt x.1 0) 0 = nI u := hs.2.2.1.trans hv.2.1
  have huy : ∀ y, FX x y → sSc (cSt y.1 0) 0 = nI u := fun y h => by rw [h.st]; exact hu
  have hsy : ∀ y, FX x y → RS1 (cSt y.1 0) s w0 := fun y h => by rw [h.st]; exact hs
  have K3 : ∀ b, b < u → (∀ y b3, FX x y → TR y u (wN (stO s) (b + 1)) → PW MX0_fillTable 2 0 29 [some (.ref 162), some (.ref (16 * 0)), some (.int (nI (b + 1))), b3] [] (hp y) (ftQ x u (stO s))) → ∀ k i, i + k = u → ∀ y, FX x y → TR y u (tW (stO s) b i) → PW MX0_fillTable 2 0 39 [some (.ref 162), some (.ref (16 * 0)), some (.int (nI b)), some (.int (nI i))] [] (hp y) (ftQ x u (stO s)) := by
    intro b hb H k
    induction k with
    | zero =>
      intro i hi y fy ty
      obtain rfl : i = u := by omega
      refine pw_iload_n (tk tkX0_fillTable 23 rfl) rfl ?_
      refine pw_aload_n (tk tkX0_fillTable 24 rfl) rfl ?_
      refine g4_rulesUsed (by first | assumption | decide | omega) (tk tkX0_fillTable 25 rfl) fkX0_15 ?_
      rw [huy y fy]
      refine pw_icmp_ge (tgt := 81) (tk tkX0_fillTable 26 rfl) (by decide) (fun c44 => ?_) (fun c44 => absurd (Int32.le_refl _) c44)
      refine pw_inc2 (tk tkX0_fillTable 49 rfl) rfl (by decide) (nI_1 b) ?_
      refine pw_goto (tgt := 29) (tk tkX0_fillTable 50 rfl) (by decide) ?_
      exact H y _ fy (ty.cg (fun j hj => if_pos hj))
    | succ k ih =>
      intro i hi y fy ty
      have hiu : i < u := by omega
      have ti : cCt y.1 i = mkM (wN (stO s) b i) u := by rw [ty i hiu, show tW (stO s) b i i = wN (stO s) b i from if_neg (by omega)]
      have tb : cCt y.1 b = mkM (wN (stO s) b b) u := by
        rw [ty b hb]
        unfold tW
        by_cases q : b < i
        · rw [if_pos q, wN_b]
        · rw [if_neg q]
      have nt : ∀ v, v = mkM (wN (stO s) (b + 1) i) u → TR (uC3 y (upd (cCt y.1) i v)) u (tW (stO s) b (i + 1)) := fun v hv j hj => by
        show upd (cCt y.1) i v j = _
        unfold upd tW
        by_cases q : j = i
        · subst q; rw [if_pos rfl, if_pos (by omega)]; exact hv
        · rw [if_neg q]
          by_cases w : j < i
          · rw [if_pos (by omega), ty j hj, show tW (stO s) b i j = wN (stO s) (b + 1) j from if_pos w]
          · rw [if_neg (by omega), ty j hj, show tW (stO s) b i j = wN (stO s) b j from if_neg w]
      have sk : wN (stO s) b i b = false → TR y u (tW (stO s) b (i + 1)) := fun q => ty.cg (fun j hj => by
        unfold tW
        by_cases w : j < i
        · rw [if_pos w, if_pos (by omega)]
        · rw [if_neg w]
          by_cases z : j = i
          · rw [if_pos (by omega), z]
            funext c
            show _ = (wN (stO s) b i c || (wN (stO s) b i b && _))
            rw [q, Bool.false_and, Bool.or_false]
          · rw [if_neg (by omega)])
      have go : wN (stO s) b i b = true → mkM (wN (stO s) b i) u ||| mkM (wN (stO s) b b) u = mkM (wN (stO s) (b + 1) i) u := fun q => by
        rw [mk_or]; exact mkM_cg u (fun j _ => by show _ = (_ || (wN (stO s) b i b && _)); rw [q, Bool.true_and])
      refine pw_iload_n (tk tkX0_fillTable 23 rfl) rfl ?_
      refine pw_aload_n (tk tkX0_fillTable 24 rfl) rfl ?_
      refine g4_rulesUsed (by first | assumption | decide | omega) (tk tkX0_fillTable 25 rfl) fkX0_15 ?_
      rw [huy y fy]
      refine pw_icmp_ge (tgt := 81) (tk tkX0_fillTable 26 rfl) (by decide) (fun c44 => absurd c44 (nI_ge (by omega) (by omega))) (fun c44 => ?_)
      refine pw_aload_n (tk tkX0_fillTable 27 rfl) rfl ?_
      refine g0_table (tk tkX0_fillTable 28 rfl) fkX0_9 ?_
      refine pw_iload_n (tk tkX0_fillTable 29 rfl) rfl ?_
      refine al_table_e (e := i) (tk tkX0_fillTable 30 rfl) (by first | rfl | simp only [lit_nI, nI_add, pk_mul]) (by first | decide | omega) ?_
      rw [ti]
      refine pw_iconst (v := 1) (tk tkX0_fillTable 31 rfl) (by decide) ?_
      refine pw_iload_n (tk tkX0_fillTable 32 rfl) rfl ?_
      refine pw_ishl (tk tkX0_fillTable 33 rfl) ?_
      refine pw_iand (tk tkX0_fillTable 34 rfl) ?_
      refine pw_if_eq (tgt := 75) (tk tkX0_fillTable 35 rfl) (by decide) (fun c57 => ?_) (fun c57 => ?_)
      · refine pw_inc3 (tk tkX0_fillTable 47 rfl) rfl (by decide) (nI_1 i) ?_
        refine pw_goto (tgt := 39) (tk tkX0_fillTable 48 rfl) (by decide) ?_
        exact ih (i + 1) (by omega) y fy (sk ((mk_and0 _ hu8 hb).mp c57))
      · refine pw_aload_n (tk tkX0_fillTable 36 rfl) rfl ?_
        refine g0_table (tk tkX0_fillTable 37 rfl) fkX0_9 ?_
        refine pw_iload_n (tk tkX0_fillTable 38 rfl) rfl ?_
        refine pw_dup2 (tk tkX0_fillTable 39 rfl) rfl rfl ?_
        refine al_table_e (e := i) (tk tkX0_fillTable 40 rfl) (by first | rfl | simp only [lit_nI, nI_add, pk_mul]) (by first | decide | omega) ?_
        rw [ti]
        refine pw_aload_n (tk tkX0_fillTable 41 rfl) rfl ?_
        refine g0_table (tk tkX0_fillTable 42 rfl) fkX0_9 ?_
        refine pw_iload_n (tk tkX0_fillTable 43 rfl) rfl ?_
        refine al_table_e (e := b) (tk tkX0_fillTable 44 rfl) (by first | rfl | simp only [lit_nI, nI_add, pk_mul]) (by first | decide | omega) ?_
        rw [tb]
        refine pw_ior (tk tkX0_fillTable 45 rfl) ?_
        rw [go (by by_cases z : wN (stO s) b i b = true; exact z; exact absurd ((mk_and0 _ hu8 hb).mpr (Bool.eq_false_iff.mpr z)) c57)]
        refine as_table_e (e := i) (tk tkX0_fillTable 46 rfl) (by first | rfl | simp only [lit_nI, nI_add, pk_mul]) (by first | decide | omega) ?_
        refine pw_inc3 (tk tkX0_fillTable 47 rfl) rfl (by decide) (nI_1 i) ?_
        refine pw_goto (tgt := 39) (tk tkX0_fillTable 48 rfl) (by decide) ?_
        exact ih (i + 1) (by omega) _ (fy.go _) (nt _ rfl)
  have K2 : ∀ k b, b + k = u → ∀ y b3, FX x y → TR y u (wN (stO s) b) → PW MX0_fillTable 2 0 29 [some (.ref 162), some (.ref (16 * 0)), some (.int (nI b)), b3] [] (hp y) (ftQ x u (stO s)) := by
    intro k
    induction k with
    | zero =>
      intro b hb y b3 fy ty
      obtain rfl : b = u := by omega
      refine pw_iload_n (tk tkX0_fillTable 17 rfl) rfl ?_
      refine pw_aload_n (tk tkX0_fillTable 18 rfl) rfl ?_
      refine g4_rulesUsed (by first | assumption | decide | omega) (tk tkX0_fillTable 19 rfl) fkX0_15 ?_
      rw [huy y fy]
      refine pw_icmp_ge (tgt := 87) (tk tkX0_fillTable 20 rfl) (by decide) (fun c34 => ?_) (fun c34 => absurd (Int32.le_refl _) c34)
      exact pw_return (tk tkX0_fillTable 51 rfl) rfl (by decide) ⟨rfl, y, rfl, fy, ty⟩
    | succ k ih =>
      intro b hb y b3 fy ty
      refine pw_iload_n (tk tkX0_fillTable 17 rfl) rfl ?_
      refine pw_aload_n (tk tkX0_fillTable 18 rfl) rfl ?_
      refine g4_rulesUsed (by first | assumption | decide | omega) (tk tkX0_fillTable 19 rfl) fkX0_15 ?_
      rw [huy y fy]
      refine pw_icmp_ge (tgt := 87) (tk tkX0_fillTable 20 rfl) (by decide) (fun c34 => absurd c34 (nI_ge (by omega) (by omega))) (fun c34 => ?_)
      refine pw_iconst (v := 0) (tk tkX0_fillTable 21 rfl) (by decide) ?_
      refine pw_ist3 (tk tkX0_fillTable 22 rfl) rfl (by decide) ?_
      exact K3 b (by omega) (fun y b3 fy ty => ih (b + 1) (by omega) y b3 fy ty) u 0 (by omega) y fy (by rw [tW_0]; exact ty)
  have K1 : ∀ k i, i + k = u → ∀ y, FX x y → (∀ j, j < i → cCt y.1 j = mkM (stO s j) u) → PW MX0_fillTable 2 0 2 [some (.ref 162), some (.ref (16 * 0)), some (.int (nI i)), none] [] (hp y) (ftQ x u (stO s)) := by
    intro k
    induction k with
    | zero =>
      intro i hi y fy ty
      obtain rfl : i = u := by omega
      refine pw_iload_n (tk tkX0_fillTable 2 rfl) rfl ?_
      refine pw_aload_n (tk tkX0_fillTable 3 rfl) rfl ?_
      refine g4_rulesUsed (by first | assumption | decide | omega) (tk tkX0_fillTable 4 rfl) fkX0_15 ?_
      rw [huy y fy]
      refine pw_icmp_ge (tgt := 27) (tk tkX0_fillTable 5 rfl) (by decide) (fun c7 => ?_) (fun c7 => absurd (Int32.le_refl _) c7)
      refine pw_iconst (v := 0) (tk tkX0_fillTable 15 rfl) (by decide) ?_
      refine pw_ist2 (tk tkX0_fillTable 16 rfl) rfl (by decide) ?_
      exact K2 i 0 (by omega) y _ fy ty
    | succ k ih =>
      intro i hi y fy ty
      refine pw_iload_n (tk tkX0_fillTable 2 rfl) rfl ?_
      refine pw_aload_n (tk tkX0_fillTable 3 rfl) rfl ?_
      refine g4_rulesUsed (by first | assumption | decide | omega) (tk tkX0_fillTable 4 rfl) fkX0_15 ?_
      rw [huy y fy]
      refine pw_icmp_ge (tgt := 27) (tk tkX0_fillTable 5 rfl) (by decide) (fun c7 => absurd c7 (nI_ge (by omega) (by omega))) (fun c7 => ?_)
      refine pw_aload_n (tk tkX0_fillTable 6 rfl) rfl ?_
      refine g0_table (tk tkX0_fillTable 7 rfl) fkX0_9 ?_
      refine pw_iload_n (tk tkX0_fillTable 8 rfl) rfl ?_
      refine pw_aload_n (tk tkX0_fillTable 9 rfl) rfl ?_
      refine pw_iload_n (tk tkX0_fillTable 10 rfl) rfl ?_
      refine pw_cS (ct_X0_nextOf y s w0 u (hsy y fy) hv i (by omega)) okX0_nextOf (tk tkX0_fillTable 11 rfl) mkX0_31 stX0_nextOf rfl rfl (by decide) (by decide) (Nat.le_of_ble_eq_true rfl) ?_
      refine as_table_e (e := i) (tk tkX0_fillTable 12 rfl) (by first | rfl | simp only [lit_nI, nI_add, pk_mul]) (by first | decide | omega) ?_
      refine pw_inc2 (tk tkX0_fillTable 13 rfl) rfl (by decide) (nI_1 i) ?_
      refine pw_goto (tgt := 2) (tk tkX0_fillTable 14 rfl) (by decide) ?_
      refine ih (i + 1) (by omega) _ (fy.go _) (fun j hj => ?_)
      show upd (cCt y.1) i _ j = _
      unfold upd
      by_cases q : j = i
      · rw [if_pos q, q]
      · rw [if_neg q]; exact ty j (by omega)
  refine pw_iconst (v := 0) (tk tkX0_fillTable 0 rfl) (by decide) ?_
  refine pw_ist2 (tk tkX0_fillTable 1 rfl) rfl (by decide) ?_
  exact K1 u 0 (by omega) x ⟨_, rfl⟩ (fun j hj => absurd hj (Nat.not_lt_zero j))
set_option maxRecDepth 100000 in
set_option maxHeartbeats 4000000 in
theorem ct_X7_reachOf (x : XW) (a : AM) (hc : RC a x.1) (hv : VS (uN (aS a)) (aS a)) (r : Int32) (h1 : inR r 0 (aS a 25 - 1) = true) : CT MX7_reachOf 30 0 [.ref 160, .int r] (hp x) (CQ [(1, "java/lang/IndexOutOfBoundsException")] x (sreachOf a r)) := by
  refine ct_of (by decide +kernel) (by decide) rfl (k := 0) (ls := [some (.ref 160), some (.int r)]) rfl (Nat.le_of_ble_eq_true rfl) ?_
  obtain ⟨u, eu⟩ : ∃ u, u = uN (aS a) := ⟨_, rfl⟩
  have hvu := hv
  rw [← eu] at hvu
  have hu8 := hvu.1
  have hu : sSc (cSt x.1 0) 0 = nI u := hc.1.2.2.1.trans hvu.2.1
  have e25 : aS a 25 = nI u := hvu.2.1
  refine pw_aload_n (tk tkX7_reachOf 0 rfl) rfl ?_
  refine pw_iload_n (tk tkX7_reachOf 1 rfl) rfl ?_
  refine pw_callV (ct0_X7_checkRule x u hu hu8 _ (by rw [← e25]; exact h1)) okX7_checkRule (tk tkX7_reachOf 2 rfl) mkX7_89 imX7_checkRule seX7_checkRule (hp_ot _ 0) rfl rfl rfl (by decide) (by decide) (Nat.le_of_ble_eq_true rfl) (fun r h2 q => ?_) (fun E h2 q => by obtain ⟨k1, rfl, rfl⟩ := ck_r q; exact pt_out rfl rfl (CQ.thr hc rfl List.mem_cons_self (if_pos (show inR r 0 (aS a 25 - 1) = false from by rw [e25]; exact k1))))
  obtain ⟨k1, rfl, rfl⟩ := ck_l q
  obtain ⟨r1, hr, er, er2⟩ := inR_lt rfl (by omega) k1
  refine pw_aload_n (tk tkX7_reachOf 3 rfl) rfl ?_
  refine g7_chains (tk tkX7_reachOf 4 rfl) fkX7_26 ?_
  refine pw_aload_n (tk tkX7_reachOf 5 rfl) rfl ?_
  refine g7_now (tk tkX7_reachOf 6 rfl) fkX7_10 ?_
  refine pw_iload_n (tk tkX7_reachOf 7 rfl) rfl ?_
  refine pw_cV (show CT MX0_search 2 0 [.ref 162, .ref (16 * 0), .int r] (hp x) (Det (.inl (some (.int (mkM (rcN (aS a) u r1 8) u)))) (hp x)) from by rw [er]; exact ct_X0_search x (aS a) _ u hc.1 hvu r1 hr) okX0_search (tk tkX7_reachOf 8 rfl) mkX7_212 imX0_search seX0_search (hp_ot _ 2) rfl rfl rfl (by decide) (by decide) (Nat.le_of_ble_eq_true rfl) ?_
  exact pw_ireturn (tk tkX7_reachOf 9 rfl) rfl (by decide) rfl (CQ.ret hc rfl ((if_neg (ne_f (show inR r 0 (aS a 25 - 1) = true from by rw [e25]; exact k1))).trans (by rw [er2, ← eu])))
set_option maxRecDepth 100000 in
set_option maxHeartbeats 4000000 in
theorem ct_X7_reachByTable (x : XW) (a : AM) (hc : RC a x.1) (hv : VS (uN (aS a)) (aS a)) (r : Int32) (h1 : inR r 0 (aS a 25 - 1) = true) : CT MX7_reachByTable 30 0 [.ref 160, .int r] (hp x) (CQ [(1, "java/lang/IndexOutOfBoundsException")] x (sreachByTable a r)) := by
  refine ct_of (by decide +kernel) (by decide) rfl (k := 0) (ls := [some (.ref 160), some (.int r)]) rfl (Nat.le_of_ble_eq_true rfl) ?_
  obtain ⟨u, eu⟩ : ∃ u, u = uN (aS a) := ⟨_, rfl⟩
  have hvu := hv
  rw [← eu] at hvu
  have hu8 := hvu.1
  have hu : sSc (cSt x.1 0) 0 = nI u := hc.1.2.2.1.trans hvu.2.1
  have e25 : aS a 25 = nI u := hvu.2.1
  refine pw_aload_n (tk tkX7_reachByTable 0 rfl) rfl ?_
  refine pw_iload_n (tk tkX7_reachByTable 1 rfl) rfl ?_
  refine pw_callV (ct0_X7_checkRule x u hu hu8 _ (by rw [← e25]; exact h1)) okX7_checkRule (tk tkX7_reachByTable 2 rfl) mkX7_89 imX7_checkRule seX7_checkRule (hp_ot _ 0) rfl rfl rfl (by decide) (by decide) (Nat.le_of_ble_eq_true rfl) (fun r h2 q => ?_) (fun E h2 q => by obtain ⟨k1, rfl, rfl⟩ := ck_r q; exact pt_out rfl rfl (CQ.thr hc rfl List.mem_cons_self (if_pos (show inR r 0 (aS a 25 - 1) = false from by rw [e25]; exact k1))))
  obtain ⟨k1, rfl, rfl⟩ := ck_l q
  obtain ⟨r1, hr, er, er2⟩ := inR_lt rfl (by omega) k1
  refine pw_aload_n (tk tkX7_reachByTable 3 rfl) rfl ?_
  refine g7_chains (tk tkX7_reachByTable 4 rfl) fkX7_26 ?_
  refine pw_aload_n (tk tkX7_reachByTable 5 rfl) rfl ?_
  refine g7_now (tk tkX7_reachByTable 6 rfl) fkX7_10 ?_
  refine pw_callV (ct_X0_fillTable x (aS a) _ u hc.1 hvu) okX0_fillTable (tk tkX7_reachByTable 7 rfl) mkX7_216 imX0_fillTable seX0_fillTable (hp_ot _ 2) rfl rfl rfl (by decide) (by decide) (Nat.le_of_ble_eq_true rfl) (fun r h2 q => ?_) (fun E h2 q => by cases q.1)
  obtain ⟨ho, y, rfl, fy, ty⟩ := q
  cases ho
  obtain ⟨rc, ry⟩ := fy.rc hc
  refine pw_aload_n (tk tkX7_reachByTable 8 rfl) rfl ?_
  refine g7_chains (tk tkX7_reachByTable 9 rfl) fkX7_26 ?_
  refine g0_table (tk tkX7_reachByTable 10 rfl) fkX7_219 ?_
  refine pw_iload_n (tk tkX7_reachByTable 11 rfl) rfl ?_
  refine al_table_e (e := r1) (tk tkX7_reachByTable 12 rfl) er (by first | decide | omega) ?_
  rw [ty r1 hr, mkM_cg u ((wN_IsCl (stO (aS a)) u hr).eq (rcN_IsCl (aS a) r1 hu8))]
  exact pw_ireturn (tk tkX7_reachByTable 13 rfl) rfl (by decide) rfl (CQ.ret rc ry ((if_neg (ne_f (show inR r 0 (aS a 25 - 1) = true from by rw [e25]; exact k1))).trans (by rw [er2, ← eu])))
set_option maxRecDepth 100000 in
set_option maxHeartbeats 4000000 in
theorem ct_X7_circularRules (x : XW) (a : AM) (hc : RC a x.1) (hv : VS (uN (aS a)) (aS a))  : CT MX7_circularRules 30 0 [.ref 160] (hp x) (CQ [] x (scircularRules a )) := by
  refine ct_of (by decide +kernel) (by decide) rfl (k := 2) (ls := [some (.ref 160), none, none]) rfl (Nat.le_of_ble_eq_true rfl) ?_
  obtain ⟨u, eu⟩ : ∃ u, u = uN (aS a) := ⟨_, rfl⟩
  have hvu := hv
  rw [← eu] at hvu
  have hu8 := hvu.1
  have hu : sSc (cSt x.1 0) 0 = nI u := hc.1.2.2.1.trans hvu.2.1
  have e25 : aS a 25 = nI u := hvu.2.1
  have he : scircularRules a = (0, mkM (fun i => wN (stO (aS a)) u i i) u, a) := by
    rw [mkM_cg (q := fun i => rcN (aS a) u i 8 i) u (fun i hi => (wN_IsCl (stO (aS a)) u hi).eq (rcN_IsCl (aS a) i hu8) i hi), eu]; rfl
  have L : ∀ y, RC a y.1 → y.2 = x.2 → TR y u (wN (stO (aS a)) u) → ∀ k i, i + k = u → PW MX7_circularRules 30 0 15 [some (.ref 160), some (.int (mkM (fun i => wN (stO (aS a)) u i i) i)), some (.int (nI i))] [] (hp y) (CQ [] x (scircularRules a)) := by
    intro y rc ry ty k
    induction k with
    | zero =>
      intro i hi
      obtain rfl : i = u := by omega
      refine pw_iload_n (tk tkX7_circularRules 9 rfl) rfl ?_
      refine pw_aload_n (tk tkX7_circularRules 10 rfl) rfl ?_
      refine g7_now (tk tkX7_circularRules 11 rfl) fkX7_10 ?_
      refine g4_rulesUsed (by first | assumption | decide | omega) (tk tkX7_circularRules 12 rfl) fkX7_66 ?_
      rw [show sSc (cSt y.1 0) 0 = nI i from rc.1.2.2.1.trans e25]
      refine pw_icmp_ge (tgt := 48) (tk tkX7_circularRules 13 rfl) (by decide) (fun c23 => ?_) (fun c23 => absurd (Int32.le_refl _) c23)
      refine pw_iload_n (tk tkX7_circularRules 28 rfl) rfl ?_
      exact pw_ireturn (tk tkX7_circularRules 29 rfl) rfl (by decide) rfl (CQ.ret rc ry he)
    | succ k ih =>
      intro i hi
      refine pw_iload_n (tk tkX7_circularRules 9 rfl) rfl ?_
      refine pw_aload_n (tk tkX7_circularRules 10 rfl) rfl ?_
      refine g7_now (tk tkX7_circularRules 11 rfl) fkX7_10 ?_
      refine g4_rulesUsed (by first | assumption | decide | omega) (tk tkX7_circularRules 12 rfl) fkX7_66 ?_
      rw [show sSc (cSt y.1 0) 0 = nI u from rc.1.2.2.1.trans e25]
      refine pw_icmp_ge (tgt := 48) (tk tkX7_circularRules 13 rfl) (by decide) (fun c23 => absurd c23 (nI_ge (by omega) (by omega))) (fun c23 => ?_)
      refine pw_iload_n (tk tkX7_circularRules 14 rfl) rfl ?_
      refine pw_aload_n (tk tkX7_circularRules 15 rfl) rfl ?_
      refine g7_chains (tk tkX7_circularRules 16 rfl) fkX7_26 ?_
      refine g0_table (tk tkX7_circularRules 17 rfl) fkX7_219 ?_
      refine pw_iload_n (tk tkX7_circularRules 18 rfl) rfl ?_
      refine al_table_e (e := i) (tk tkX7_circularRules 19 rfl) (by first | rfl | simp only [lit_nI, nI_add, pk_mul]) (by first | decide | omega) ?_
      rw [ty i (by omega)]
      refine pw_iconst (v := 1) (tk tkX7_circularRules 20 rfl) (by decide) ?_
      refine pw_iload_n (tk tkX7_circularRules 21 rfl) rfl ?_
      refine pw_ishl (tk tkX7_circularRules 22 rfl) ?_
      refine pw_iand (tk tkX7_circularRules 23 rfl) ?_
      rw [mk_and _ hu8 (show i < u by omega)]
      refine pw_ior (tk tkX7_circularRules 24 rfl) ?_
      refine pw_ist1 (tk tkX7_circularRules 25 rfl) rfl (by decide) ?_
      refine pw_inc2 (tk tkX7_circularRules 26 rfl) rfl (by decide) (nI_1 i) ?_
      refine pw_goto (tgt := 15) (tk tkX7_circularRules 27 rfl) (by decide) ?_
      exact ih (i + 1) (by omega)
  refine pw_aload_n (tk tkX7_circularRules 0 rfl) rfl ?_
  refine g7_chains (tk tkX7_circularRules 1 rfl) fkX7_26 ?_
  refine pw_aload_n (tk tkX7_circularRules 2 rfl) rfl ?_
  refine g7_now (tk tkX7_circularRules 3 rfl) fkX7_10 ?_
  refine pw_callV (ct_X0_fillTable x (aS a) _ u hc.1 hvu) okX0_fillTable (tk tkX7_circularRules 4 rfl) mkX7_216 imX0_fillTable seX0_fillTable (hp_ot _ 2) rfl rfl rfl (by decide) (by decide) (Nat.le_of_ble_eq_true rfl) (fun r h2 q => ?_) (fun E h2 q => by cases q.1)
  obtain ⟨ho, y, rfl, fy, ty⟩ := q
  cases ho
  obtain ⟨rc, ry⟩ := fy.rc hc
  refine pw_iconst (v := 0) (tk tkX7_circularRules 5 rfl) (by decide) ?_
  refine pw_ist1 (tk tkX7_circularRules 6 rfl) rfl (by decide) ?_
  refine pw_iconst (v := 0) (tk tkX7_circularRules 7 rfl) (by decide) ?_
  refine pw_ist2 (tk tkX7_circularRules 8 rfl) rfl (by decide) ?_
  exact L y rc ry ty u 0 (by omega)
