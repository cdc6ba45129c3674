/-! ===== AN ACT: what the law's calls of the class come to ===== -/
/-- an answer on the numbers: thrown (as the law tells it), the answer, the new numbers -/
abbrev G3 : Type := Int32 × Int32 × ST
def prj (m1 m2 m3 : Int32) (R : RS3) : G3 := (if R.1 = 0 then 0 else if R.1 = 1 then m1 else if R.1 = 2 then m2 else m3, R.2.1, aS R.2.2)
def lft (a : AM) (g : G3) : AM := if g.1 = 0 then (g.2.2, recH a (aS a), a.2.2) else a
/-- what throws changes nothing; what doesn't is recorded -/
def SPX (a : AM) (R : RS3) : Prop := (R.1 = 0 ∧ R.2.2 = (aS R.2.2, recH a (aS a), a.2.2)) ∨ (¬ R.1 = 0 ∧ R.2.2 = a)
theorem SPX.t {a : AM} {k v : Int32} (h : ¬ k = 0) : SPX a (k, v, a) := .inr ⟨h, rfl⟩
theorem SPX.r {a : AM} {v : Int32} {s : ST} : SPX a (0, v, (s, recH a (aS a), a.2.2)) := .inl ⟨rfl, rfl⟩
theorem prj_0 {m1 m2 m3 : Int32} (h1 : ¬ m1 = 0) (h2 : ¬ m2 = 0) (h3 : ¬ m3 = 0) (R : RS3) : (prj m1 m2 m3 R).1 = 0 ↔ R.1 = 0 := by
  show (if R.1 = 0 then 0 else if R.1 = 1 then m1 else if R.1 = 2 then m2 else m3) = 0 ↔ _
  by_cases h : R.1 = 0
  · rw [if_pos h]; exact ⟨fun _ => h, fun _ => rfl⟩
  · rw [if_neg h]
    refine ⟨fun q => ?_, fun q => absurd q h⟩
    split at q
    · exact absurd q h1
    · split at q
      · exact absurd q h2
      · exact absurd q h3
theorem lft_prj {m1 m2 m3 : Int32} (h1 : ¬ m1 = 0) (h2 : ¬ m2 = 0) (h3 : ¬ m3 = 0) {a : AM} {R : RS3} (sp : SPX a R) : R.2.2 = lft a (prj m1 m2 m3 R) := by
  unfold lft
  rcases sp with ⟨q1, q2⟩ | ⟨q1, q2⟩
  · rw [if_pos ((prj_0 h1 h2 h3 R).mpr q1)]; exact q2
  · rw [if_neg (fun z => q1 ((prj_0 h1 h2 h3 R).mp z))]; exact q2
def LQ (a b : AM) (g : G3) : Out → Hp → Prop := fun o h2 => ∃ y, h2 = hp y ∧ RC (lft a g) y.1 ∧ RC b y.2.1 ∧ o = .inl (some (.int g.1)) ∧ (g.1 = 0 → y.2.2 0 = g.2.1)
section LQS
variable {m1 m2 m3 : Int32} {a b : AM} {w : Int32} {x y : XW} {R : RS3}
theorem LQ.ret (h1 : ¬ m1 = 0) (h2 : ¬ m2 = 0) (h3 : ¬ m3 = 0) (hW : W2 a b w x) (sp : SPX a R) (e0 : R.1 = 0) (hy : y.2 = x.2) (hc : RC R.2.2 y.1) {z : XW} (z1 : z.1 = y.1) (z2 : z.2.1 = y.2.1) (zt : z.2.2 0 = R.2.1) : LQ a b (prj m1 m2 m3 R) (.inl (some (.int 0))) (hp z) := by
  have g0 : (prj m1 m2 m3 R).1 = 0 := (prj_0 h1 h2 h3 R).mpr e0
  refine ⟨z, rfl, by rw [← lft_prj h1 h2 h3 sp, z1]; exact hc, by rw [z2, show y.2.1 = x.2.1 from congrArg Prod.fst hy]; exact hW.2.1, by rw [g0], fun _ => zt⟩
theorem LQ.thr (h1 : ¬ m1 = 0) (h2 : ¬ m2 = 0) (h3 : ¬ m3 = 0) (hW : W2 a b w x) (sp : SPX a R) {k c : Int32} (e : R.1 = k) (hk : (if k = 0 then 0 else if k = 1 then m1 else if k = 2 then m2 else m3) = c) (hc0 : ¬ c = 0) (hy : y.2 = x.2) (hc : RC R.2.2 y.1) : LQ a b (prj m1 m2 m3 R) (.inl (some (.int c))) (hp y) := by
  have g0 : (prj m1 m2 m3 R).1 = c := by
    show (if R.1 = 0 then 0 else if R.1 = 1 then m1 else if R.1 = 2 then m2 else m3) = c
    rw [e]; exact hk
  refine ⟨y, rfl, by rw [← lft_prj h1 h2 h3 sp]; exact hc, by rw [show y.2.1 = x.2.1 from congrArg Prod.fst hy]; exact hW.2.1, by rw [g0], fun q => absurd (g0.symm.trans q) hc0⟩
end LQS
/-- fit for the class's calls -/
def HGA (a : AM) : Prop := VS (uN (aS a)) (aS a) ∧ VA a
theorem nl_at {ls : List (Option Value)} {j : Nat} {v : Option Value} (h : ls[j]? = some v) (hn : nlong v = true) : ∀ i, i + 1 = j + 1 → ∀ w, ls[i]? = some w → nlong w = true := by
  intro i hi w hw
  obtain rfl : i = j := by omega
  rw [h] at hw
  cases hw
  exact hn
abbrev PS9 (M : Mth) (E : String) (z : Nat × Nat × Nat × Nat) : Prop := z.2.2.2 ≠ 0 ∧ ∃ nm, Cond.classLink (mY M).cls z.2.2.2 nm ∈ UU ∧ (E, nm) ∈ ncs
theorem pass1 {M : Mth} {E : String} {a : Nat × Nat × Nat × Nat} (h : PS9 M E a) : ∀ z ∈ [a], PS9 M E z := fun z hz => by
  rw [List.mem_singleton.mp hz]; exact h
theorem pass2 {M : Mth} {E : String} {a b : Nat × Nat × Nat × Nat} (h : PS9 M E a) (h2 : PS9 M E b) : ∀ z ∈ [a, b], PS9 M E z := fun z hz => by
  rcases List.mem_cons.mp hz with e | hz
  · rw [e]; exact h
  · rw [List.mem_singleton.mp hz]; exact h2
theorem mute01 (a : AM) (r : Int32) : (sturnMute a r).2.1 = 0 ∨ (sturnMute a r).2.1 = 1 := by
  unfold sturnMute
  split
  · exact .inl rfl
  · show (if _ then (1 : Int32) else 0) = 0 ∨ (if _ then (1 : Int32) else 0) = 1
    split
    · exact .inr rfl
    · exact .inl rfl
theorem sp_addRule (a : AM) (e c l : Int32) : SPX a (saddRule a e c l) := by
  unfold saddRule
  repeat' (first | exact SPX.t (by decide) | exact SPX.r | split)
theorem eq_addRule {a b : AM} (h : aS a = aS b) (m1 m2 m3 e c l : Int32) : prj m1 m2 m3 (saddRule a e c l) = prj m1 m2 m3 (saddRule b e c l) := by
  obtain ⟨s, ra⟩ := a
  obtain ⟨t, rb⟩ := b
  have h2 : s = t := h
  subst h2
  unfold saddRule
  dsimp only
  repeat' (first | rfl | contradiction | split)
theorem sp_turnMute (a : AM) (r : Int32) : SPX a (sturnMute a r) := by
  unfold sturnMute
  repeat' (first | exact SPX.t (by decide) | exact SPX.r | split)
theorem eq_turnMute {a b : AM} (h : aS a = aS b) (m1 m2 m3 r : Int32) : prj m1 m2 m3 (sturnMute a r) = prj m1 m2 m3 (sturnMute b r) := by
  obtain ⟨s, ra⟩ := a
  obtain ⟨t, rb⟩ := b
  have h2 : s = t := h
  subst h2
  unfold sturnMute
  dsimp only
  repeat' (first | rfl | contradiction | split)
theorem sp_dropRule (a : AM) (r : Int32) : SPX a (sdropRule a r) := by
  unfold sdropRule
  repeat' (first | exact SPX.t (by decide) | exact SPX.r | split)
theorem eq_dropRule {a b : AM} (h : aS a = aS b) (m1 m2 m3 r : Int32) : prj m1 m2 m3 (sdropRule a r) = prj m1 m2 m3 (sdropRule b r) := by
  obtain ⟨s, ra⟩ := a
  obtain ⟨t, rb⟩ := b
  have h2 : s = t := h
  subst h2
  unfold sdropRule
  dsimp only
  repeat' (first | rfl | contradiction | split)
theorem sp_setDepth (a : AM) (r : Int32) : SPX a (ssetDepth a r) := by
  unfold ssetDepth
  repeat' (first | exact SPX.t (by decide) | exact SPX.r | split)
theorem eq_setDepth {a b : AM} (h : aS a = aS b) (m1 m2 m3 r : Int32) : prj m1 m2 m3 (ssetDepth a r) = prj m1 m2 m3 (ssetDepth b r) := by
  obtain ⟨s, ra⟩ := a
  obtain ⟨t, rb⟩ := b
  have h2 : s = t := h
  subst h2
  unfold ssetDepth
  dsimp only
  repeat' (first | rfl | contradiction | split)
theorem sp_update (a : AM) (r c v : Int32) : SPX a (supdate a r c v) := by
  unfold supdate stA
  repeat' (first | exact SPX.t (by decide) | exact SPX.r | split)
theorem eq_update {a b : AM} (h : aS a = aS b) (m1 m2 m3 r c v : Int32) : prj m1 m2 m3 (supdate a r c v) = prj m1 m2 m3 (supdate b r c v) := by
  obtain ⟨s, ra⟩ := a
  obtain ⟨t, rb⟩ := b
  have h2 : s = t := h
  subst h2
  unfold supdate stA
  dsimp only
  repeat' (first | rfl | contradiction | split)
theorem sp_remove (a : AM) (r : Int32) : SPX a (sremove a r) := by
  unfold sremove stA
  repeat' (first | exact SPX.t (by decide) | exact SPX.r | split)
theorem eq_remove {a b : AM} (h : aS a = aS b) (m1 m2 m3 r : Int32) : prj m1 m2 m3 (sremove a r) = prj m1 m2 m3 (sremove b r) := by
  obtain ⟨s, ra⟩ := a
  obtain ⟨t, rb⟩ := b
  have h2 : s = t := h
  subst h2
  unfold sremove stA
  dsimp only
  repeat' (first | rfl | contradiction | split)
theorem sp_insert (a : AM) (r p q w : Int32) : SPX a (sinsert a r p q w) := by
  unfold sinsert stA
  repeat' (first | exact SPX.t (by decide) | exact SPX.r | split)
theorem eq_insert {a b : AM} (h : aS a = aS b) (m1 m2 m3 r p q w : Int32) : prj m1 m2 m3 (sinsert a r p q w) = prj m1 m2 m3 (sinsert b r p q w) := by
  obtain ⟨s, ra⟩ := a
  obtain ⟨t, rb⟩ := b
  have h2 : s = t := h
  subst h2
  unfold sinsert stA
  dsimp only
  repeat' (first | rfl | contradiction | split)
theorem sp_setAction (a : AM) (r k ro c m : Int32) : SPX a (ssetAction a r k ro c m) := by
  unfold ssetAction
  repeat' (first | exact SPX.t (by decide) | exact SPX.r | split)
theorem eq_setAction {a b : AM} (h : aS a = aS b) (m1 m2 m3 r k ro c m : Int32) : prj m1 m2 m3 (ssetAction a r k ro c m) = prj m1 m2 m3 (ssetAction b r k ro c m) := by
  obtain ⟨s, ra⟩ := a
  obtain ⟨t, rb⟩ := b
  have h2 : s = t := h
  subst h2
  unfold ssetAction
  dsimp only
  repeat' (first | rfl | contradiction | split)
set_option maxRecDepth 100000 in
set_option maxHeartbeats 4000000 in
theorem ct_L_addRule (x : XW) {a b : AM} {w : Int32} (hW : W2 a b w x) (hg : HGA a) (u1 u2 u3 : Int32) : CT ML_changes 31 6 [.ref 160, .int 0, .int u1, .int u2, .int u3, .ref 171] (hp x) (LQ a b (prj 2 3 3 (saddRule a u1 u2 u3))) := by
  refine ct_ofH (by decide +kernel) rfl (by decide) (k := 1) (ls := [some (.ref 160), some (.int 0), some (.int u1), some (.int u2), some (.int u3), some (.ref 171), none]) rfl (Nat.le_of_ble_eq_true rfl) ?_
  refine pw_aload (tk tkL_changes 0 rfl) rfl ?_
  refine pw_iconst (v := 0) (tk tkL_changes 1 rfl) (by decide) ?_
  refine pw_iload_n (tk tkL_changes 2 rfl) rfl ?_
  refine pw_if_ne (tgt := 18) (tk tkL_changes 3 rfl) (by decide) (fun c4 => c4 (by decide) |>.elim) (fun c4 => ?_)
  refine pw_aload_n (tk tkL_changes 4 rfl) rfl ?_
  refine pw_iload_n (tk tkL_changes 5 rfl) rfl ?_
  refine pw_iload_n (tk tkL_changes 6 rfl) rfl ?_
  refine pw_iload (tk tkL_changes 7 rfl) rfl ?_
  refine pw_callV (ct_X7_addRule x a hW.1 hg.1 u1 u2 u3) okX7_addRule (tk tkL_changes 8 rfl) mkL_8 imX7_addRule seX7_addRule (hp_ot _ 0) rfl rfl rfl (by decide) (by decide) (Nat.le_of_ble_eq_true rfl) (fun r h2 q => ?_) (fun E h2 q => ?_)
  obtain ⟨y, rfl, hy, hc, e⟩ := q
  obtain ⟨e0, rfl⟩ := cq_l e
  refine pw_goto (tgt := 86) (tk tkL_changes 9 rfl) (by decide) ?_
  refine as_out_e (e := 0) (tk tkL_changes 47 rfl) rfl (by first | decide | omega) ?_
  refine pw_goto (tgt := 102) (tk tkL_changes 48 rfl) (by decide) ?_
  refine pw_iconst (v := 0) (tk tkL_changes 58 rfl) (by decide) ?_
  exact pw_ireturn (tk tkL_changes 59 rfl) rfl (by decide) rfl (LQ.ret (by decide) (by decide) (by decide) hW (sp_addRule a u1 u2 u3) e0 hy hc rfl rfl rfl)
  obtain ⟨y, rfl, hy, hc, ⟨_, e⟩ | ⟨k9, E9, hm, hk, e⟩⟩ := q
  · cases e
  · cases e
    simp only [List.mem_cons, Prod.mk.injEq, List.not_mem_nil, or_false] at hm
    rcases hm with ⟨rfl, rfl⟩ | ⟨rfl, rfl⟩
    · refine pt_catch [(0, 87, 90, 31)] (0, 87, 94, 33) [(0, 87, 98, 35)] (j := 6) (w := 2) (ls1 := [some (.ref 160), some (.int 0), some (.int u1), some (.int u2), some (.int u3), some (.ref 171), none]) rfl (pass1 ⟨by decide, _, ckL_31, List.mem_of_getElem? (i := 1) rfl⟩) ⟨by decide, by decide⟩ (by decide) ckL_33 caIAE (Or.inr ⟨rfl, (tk tkL_changes 52 rfl)⟩) (by decide) (nl_at (j := 5) rfl rfl) rfl ?_
      refine pw_iconst (v := 2) (tk tkL_changes 53 rfl) (by decide) ?_
      exact pw_ireturn (tk tkL_changes 54 rfl) rfl (by decide) rfl (LQ.thr (by decide) (by decide) (by decide) hW (sp_addRule a u1 u2 u3) hk (by decide) (by decide) hy hc)
    · refine pt_catch [(0, 87, 90, 31), (0, 87, 94, 33)] (0, 87, 98, 35) [] (j := 6) (w := 2) (ls1 := [some (.ref 160), some (.int 0), some (.int u1), some (.int u2), some (.int u3), some (.ref 171), none]) rfl (pass2 ⟨by decide, _, ckL_31, List.mem_of_getElem? (i := 3) rfl⟩ ⟨by decide, _, ckL_33, List.mem_of_getElem? (i := 2) rfl⟩) ⟨by decide, by decide⟩ (by decide) ckL_35 caISE (Or.inr ⟨rfl, (tk tkL_changes 55 rfl)⟩) (by decide) (nl_at (j := 5) rfl rfl) rfl ?_
      refine pw_iconst (v := 3) (tk tkL_changes 56 rfl) (by decide) ?_
      exact pw_ireturn (tk tkL_changes 57 rfl) rfl (by decide) rfl (LQ.thr (by decide) (by decide) (by decide) hW (sp_addRule a u1 u2 u3) hk (by decide) (by decide) hy hc)
set_option maxRecDepth 100000 in
set_option maxHeartbeats 4000000 in
theorem ct_L_turnMute (x : XW) {a b : AM} {w : Int32} (hW : W2 a b w x) (hg : HGA a) (u1 u2 u3 : Int32) : CT ML_changes 31 6 [.ref 160, .int 1, .int u1, .int u2, .int u3, .ref 171] (hp x) (LQ a b (prj 1 1 1 (sturnMute a u1))) := by
  refine ct_ofH (by decide +kernel) rfl (by decide) (k := 1) (ls := [some (.ref 160), some (.int 1), some (.int u1), some (.int u2), some (.int u3), some (.ref 171), none]) rfl (Nat.le_of_ble_eq_true rfl) ?_
  refine pw_aload (tk tkL_changes 0 rfl) rfl ?_
  refine pw_iconst (v := 0) (tk tkL_changes 1 rfl) (by decide) ?_
  refine pw_iload_n (tk tkL_changes 2 rfl) rfl ?_
  refine pw_if_ne (tgt := 18) (tk tkL_changes 3 rfl) (by decide) (fun c4 => ?_) (fun c4 => absurd c4 (by decide))
  refine pw_iload_n (tk tkL_changes 10 rfl) rfl ?_
  refine pw_iconst (v := 1) (tk tkL_changes 11 rfl) (by decide) ?_
  refine pw_icmp_ne (tgt := 39) (tk tkL_changes 12 rfl) (by decide) (fun c20 => absurd (by decide) c20) (fun c20 => ?_)
  refine pw_aload_n (tk tkL_changes 13 rfl) rfl ?_
  refine pw_iload_n (tk tkL_changes 14 rfl) rfl ?_
  refine pw_callV (ct_X7_turnMute x a hW.1 hg.1 u1) okX7_turnMute (tk tkL_changes 15 rfl) mkL_14 imX7_turnMute seX7_turnMute (hp_ot _ 0) rfl rfl rfl (by decide) (by decide) (Nat.le_of_ble_eq_true rfl) (fun r h2 q => ?_) (fun E h2 q => ?_)
  obtain ⟨y, rfl, hy, hc, e⟩ := q
  obtain ⟨e0, rfl⟩ := cq_l e
  refine pw_if_eq (tgt := 35) (tk tkL_changes 16 rfl) (by decide) (fun c28 => ?_) (fun c28 => ?_)
  · refine pw_iconst (v := 0) (tk tkL_changes 19 rfl) (by decide) ?_
    refine pw_goto (tgt := 86) (tk tkL_changes 20 rfl) (by decide) ?_
    refine as_out_e (e := 0) (tk tkL_changes 47 rfl) rfl (by first | decide | omega) ?_
    refine pw_goto (tgt := 102) (tk tkL_changes 48 rfl) (by decide) ?_
    refine pw_iconst (v := 0) (tk tkL_changes 58 rfl) (by decide) ?_
    exact pw_ireturn (tk tkL_changes 59 rfl) rfl (by decide) rfl (LQ.ret (by decide) (by decide) (by decide) hW (sp_turnMute a u1) e0 hy hc rfl rfl c28.symm)
  · refine pw_iconst (v := 1) (tk tkL_changes 17 rfl) (by decide) ?_
    refine pw_goto (tgt := 86) (tk tkL_changes 18 rfl) (by decide) ?_
    refine as_out_e (e := 0) (tk tkL_changes 47 rfl) rfl (by first | decide | omega) ?_
    refine pw_goto (tgt := 102) (tk tkL_changes 48 rfl) (by decide) ?_
    refine pw_iconst (v := 0) (tk tkL_changes 58 rfl) (by decide) ?_
    exact pw_ireturn (tk tkL_changes 59 rfl) rfl (by decide) rfl (LQ.ret (by decide) (by decide) (by decide) hW (sp_turnMute a u1) e0 hy hc rfl rfl ((mute01 a u1).resolve_left c28).symm)
  obtain ⟨y, rfl, hy, hc, ⟨_, e⟩ | ⟨k9, E9, hm, hk, e⟩⟩ := q
  · cases e
  · cases e
    simp only [List.mem_cons, Prod.mk.injEq, List.not_mem_nil, or_false] at hm
    obtain ⟨rfl, rfl⟩ := hm
    refine pt_catch [] (0, 87, 90, 31) [(0, 87, 94, 33), (0, 87, 98, 35)] (j := 6) (w := 2) (ls1 := [some (.ref 160), some (.int 1), some (.int u1), some (.int u2), some (.int u3), some (.ref 171), none]) rfl (fun z hz => by cases hz) ⟨by decide, by decide⟩ (by decide) ckL_31 caIOE (Or.inr ⟨rfl, (tk tkL_changes 49 rfl)⟩) (by decide) (nl_at (j := 5) rfl rfl) rfl ?_
    refine pw_iconst (v := 1) (tk tkL_changes 50 rfl) (by decide) ?_
    exact pw_ireturn (tk tkL_changes 51 rfl) rfl (by decide) rfl (LQ.thr (by decide) (by decide) (by decide) hW (sp_turnMute a u1) hk (by decide) (by decide) hy hc)
set_option maxRecDepth 100000 in
set_option maxHeartbeats 4000000 in
theorem ct_L_dropRule (x : XW) {a b : AM} {w : Int32} (hW : W2 a b w x) (hg : HGA a) (u1 u2 u3 : Int32) : CT ML_changes 31 6 [.ref 160, .int 2, .int u1, .int u2, .int u3, .ref 171] (hp x) (LQ a b (prj 1 1 1 (sdropRule a u1))) := by
  refine ct_ofH (by decide +kernel) rfl (by decide) (k := 1) (ls := [some (.ref 160), some (.int 2), some (.int u1), some (.int u2), some (.int u3), some (.ref 171), none]) rfl (Nat.le_of_ble_eq_true rfl) ?_
  refine pw_aload (tk tkL_changes 0 rfl) rfl ?_
  refine pw_iconst (v := 0) (tk tkL_changes 1 rfl) (by decide) ?_
  refine pw_iload_n (tk tkL_changes 2 rfl) rfl ?_
  refine pw_if_ne (tgt := 18) (tk tkL_changes 3 rfl) (by decide) (fun c4 => ?_) (fun c4 => absurd c4 (by decide))
  refine pw_iload_n (tk tkL_changes 10 rfl) rfl ?_
  refine pw_iconst (v := 1) (tk tkL_changes 11 rfl) (by decide) ?_
  refine pw_icmp_ne (tgt := 39) (tk tkL_changes 12 rfl) (by decide) (fun c20 => ?_) (fun c20 => absurd c20 (by decide))
  refine pw_iload_n (tk tkL_changes 21 rfl) rfl ?_
  refine pw_iconst (v := 2) (tk tkL_changes 22 rfl) (by decide) ?_
  refine pw_icmp_ne (tgt := 52) (tk tkL_changes 23 rfl) (by decide) (fun c41 => absurd (by decide) c41) (fun c41 => ?_)
  refine pw_aload_n (tk tkL_changes 24 rfl) rfl ?_
  refine pw_iload_n (tk tkL_changes 25 rfl) rfl ?_
  refine pw_callV (ct_X7_dropRule x a hW.1 hg.1 u1) okX7_dropRule (tk tkL_changes 26 rfl) mkL_18 imX7_dropRule seX7_dropRule (hp_ot _ 0) rfl rfl rfl (by decide) (by decide) (Nat.le_of_ble_eq_true rfl) (fun r h2 q => ?_) (fun E h2 q => ?_)
  obtain ⟨y, rfl, hy, hc, e⟩ := q
  obtain ⟨e0, rfl⟩ := cq_l e
  refine pw_goto (tgt := 86) (tk tkL_changes 27 rfl) (by decide) ?_
  refine as_out_e (e := 0) (tk tkL_changes 47 rfl) rfl (by first | decide | omega) ?_
  refine pw_goto (tgt := 102) (tk tkL_changes 48 rfl) (by decide) ?_
  refine pw_iconst (v := 0) (tk tkL_changes 58 rfl) (by decide) ?_
  exact pw_ireturn (tk tkL_changes 59 rfl) rfl (by decide) rfl (LQ.ret (by decide) (by decide) (by decide) hW (sp_dropRule a u1) e0 hy hc rfl rfl rfl)
  obtain ⟨y, rfl, hy, hc, ⟨_, e⟩ | ⟨k9, E9, hm, hk, e⟩⟩ := q
  · cases e
  · cases e
    simp only [List.mem_cons, Prod.mk.injEq, List.not_mem_nil, or_false] at hm
    obtain ⟨rfl, rfl⟩ := hm
    refine pt_catch [] (0, 87, 90, 31) [(0, 87, 94, 33), (0, 87, 98, 35)] (j := 6) (w := 2) (ls1 := [some (.ref 160), some (.int 2), some (.int u1), some (.int u2), some (.int u3), some (.ref 171), none]) rfl (fun z hz => by cases hz) ⟨by decide, by decide⟩ (by decide) ckL_31 caIOE (Or.inr ⟨rfl, (tk tkL_changes 49 rfl)⟩) (by decide) (nl_at (j := 5) rfl rfl) rfl ?_
    refine pw_iconst (v := 1) (tk tkL_changes 50 rfl) (by decide) ?_
    exact pw_ireturn (tk tkL_changes 51 rfl) rfl (by decide) rfl (LQ.thr (by decide) (by decide) (by decide) hW (sp_dropRule a u1) hk (by decide) (by decide) hy hc)
set_option maxRecDepth 100000 in
set_option maxHeartbeats 4000000 in
theorem ct_L_setDepth (x : XW) {a b : AM} {w : Int32} (hW : W2 a b w x) (hg : HGA a) (u1 u2 u3 : Int32) : CT ML_changes 31 6 [.ref 160, .int 3, .int u1, .int u2, .int u3, .ref 171] (hp x) (LQ a b (prj 2 2 2 (ssetDepth a u1))) := by
  refine ct_ofH (by decide +kernel) rfl (by decide) (k := 1) (ls := [some (.ref 160), some (.int 3), some (.int u1), some (.int u2), some (.int u3), some (.ref 171), none]) rfl (Nat.le_of_ble_eq_true rfl) ?_
  refine pw_aload (tk tkL_changes 0 rfl) rfl ?_
  refine pw_iconst (v := 0) (tk tkL_changes 1 rfl) (by decide) ?_
  refine pw_iload_n (tk tkL_changes 2 rfl) rfl ?_
  refine pw_if_ne (tgt := 18) (tk tkL_changes 3 rfl) (by decide) (fun c4 => ?_) (fun c4 => absurd c4 (by decide))
  refine pw_iload_n (tk tkL_changes 10 rfl) rfl ?_
  refine pw_iconst (v := 1) (tk tkL_changes 11 rfl) (by decide) ?_
  refine pw_icmp_ne (tgt := 39) (tk tkL_changes 12 rfl) (by decide) (fun c20 => ?_) (fun c20 => absurd c20 (by decide))
  refine pw_iload_n (tk tkL_changes 21 rfl) rfl ?_
  refine pw_iconst (v := 2) (tk tkL_changes 22 rfl) (by decide) ?_
  refine pw_icmp_ne (tgt := 52) (tk tkL_changes 23 rfl) (by decide) (fun c41 => ?_) (fun c41 => absurd c41 (by decide))
  refine pw_iload_n (tk tkL_changes 28 rfl) rfl ?_
  refine pw_iconst (v := 3) (tk tkL_changes 29 rfl) (by decide) ?_
  refine pw_icmp_ne (tgt := 65) (tk tkL_changes 30 rfl) (by decide) (fun c54 => absurd (by decide) c54) (fun c54 => ?_)
  refine pw_aload_n (tk tkL_changes 31 rfl) rfl ?_
  refine pw_iload_n (tk tkL_changes 32 rfl) rfl ?_
  refine pw_callV (ct_X7_setDepth x a hW.1 hg.1 u1) okX7_setDepth (tk tkL_changes 33 rfl) mkL_22 imX7_setDepth seX7_setDepth (hp_ot _ 0) rfl rfl rfl (by decide) (by decide) (Nat.le_of_ble_eq_true rfl) (fun r h2 q => ?_) (fun E h2 q => ?_)
  obtain ⟨y, rfl, hy, hc, e⟩ := q
  obtain ⟨e0, rfl⟩ := cq_l e
  refine pw_goto (tgt := 86) (tk tkL_changes 34 rfl) (by decide) ?_
  refine as_out_e (e := 0) (tk tkL_changes 47 rfl) rfl (by first | decide | omega) ?_
  refine pw_goto (tgt := 102) (tk tkL_changes 48 rfl) (by decide) ?_
  refine pw_iconst (v := 0) (tk tkL_changes 58 rfl) (by decide) ?_
  exact pw_ireturn (tk tkL_changes 59 rfl) rfl (by decide) rfl (LQ.ret (by decide) (by decide) (by decide) hW (sp_setDepth a u1) e0 hy hc rfl rfl rfl)
  obtain ⟨y, rfl, hy, hc, ⟨_, e⟩ | ⟨k9, E9, hm, hk, e⟩⟩ := q
  · cases e
  · cases e
    simp only [List.mem_cons, Prod.mk.injEq, List.not_mem_nil, or_false] at hm
    obtain ⟨rfl, rfl⟩ := hm
    refine pt_catch [(0, 87, 90, 31)] (0, 87, 94, 33) [(0, 87, 98, 35)] (j := 6) (w := 2) (ls1 := [some (.ref 160), some (.int 3), some (.int u1), some (.int u2), some (.int u3), some (.ref 171), none]) rfl (pass1 ⟨by decide, _, ckL_31, List.mem_of_getElem? (i := 1) rfl⟩) ⟨by decide, by decide⟩ (by decide) ckL_33 caIAE (Or.inr ⟨rfl, (tk tkL_changes 52 rfl)⟩) (by decide) (nl_at (j := 5) rfl rfl) rfl ?_
    refine pw_iconst (v := 2) (tk tkL_changes 53 rfl) (by decide) ?_
    exact pw_ireturn (tk tkL_changes 54 rfl) rfl (by decide) rfl (LQ.thr (by decide) (by decide) (by decide) hW (sp_setDepth a u1) hk (by decide) (by decide) hy hc)
set_option maxRecDepth 100000 in
set_option maxHeartbeats 4000000 in
theorem ct_L_update (x : XW) {a b : AM} {w : Int32} (hW : W2 a b w x) (hg : HGA a) (u1 u2 u3 : Int32) : CT ML_changes 31 6 [.ref 160, .int 4, .int u1, .int u2, .int u3, .ref 171] (hp x) (LQ a b (prj 1 2 3 (supdate a u1 u2 u3))) := by
  refine ct_ofH (by decide +kernel) rfl (by decide) (k := 1) (ls := [some (.ref 160), some (.int 4), some (.int u1), some (.int u2), some (.int u3), some (.ref 171), none]) rfl (Nat.le_of_ble_eq_true rfl) ?_
  refine pw_aload (tk tkL_changes 0 rfl) rfl ?_
  refine pw_iconst (v := 0) (tk tkL_changes 1 rfl) (by decide) ?_
  refine pw_iload_n (tk tkL_changes 2 rfl) rfl ?_
  refine pw_if_ne (tgt := 18) (tk tkL_changes 3 rfl) (by decide) (fun c4 => ?_) (fun c4 => absurd c4 (by decide))
  refine pw_iload_n (tk tkL_changes 10 rfl) rfl ?_
  refine pw_iconst (v := 1) (tk tkL_changes 11 rfl) (by decide) ?_
  refine pw_icmp_ne (tgt := 39) (tk tkL_changes 12 rfl) (by decide) (fun c20 => ?_) (fun c20 => absurd c20 (by decide))
  refine pw_iload_n (tk tkL_changes 21 rfl) rfl ?_
  refine pw_iconst (v := 2) (tk tkL_changes 22 rfl) (by decide) ?_
  refine pw_icmp_ne (tgt := 52) (tk tkL_changes 23 rfl) (by decide) (fun c41 => ?_) (fun c41 => absurd c41 (by decide))
  refine pw_iload_n (tk tkL_changes 28 rfl) rfl ?_
  refine pw_iconst (v := 3) (tk tkL_changes 29 rfl) (by decide) ?_
  refine pw_icmp_ne (tgt := 65) (tk tkL_changes 30 rfl) (by decide) (fun c54 => ?_) (fun c54 => absurd c54 (by decide))
  refine pw_iload_n (tk tkL_changes 35 rfl) rfl ?_
  refine pw_iconst (v := 4) (tk tkL_changes 36 rfl) (by decide) ?_
  refine pw_icmp_ne (tgt := 81) (tk tkL_changes 37 rfl) (by decide) (fun c67 => absurd (by decide) c67) (fun c67 => ?_)
  refine pw_aload_n (tk tkL_changes 38 rfl) rfl ?_
  refine pw_iload_n (tk tkL_changes 39 rfl) rfl ?_
  refine pw_iload_n (tk tkL_changes 40 rfl) rfl ?_
  refine pw_iload (tk tkL_changes 41 rfl) rfl ?_
  refine pw_callV (ct_X7_update x a hW.1 hg.1 u1 u2 u3) okX7_update (tk tkL_changes 42 rfl) mkL_25 imX7_update seX7_update (hp_ot _ 0) rfl rfl rfl (by decide) (by decide) (Nat.le_of_ble_eq_true rfl) (fun r h2 q => ?_) (fun E h2 q => ?_)
  obtain ⟨y, rfl, hy, hc, e⟩ := q
  obtain ⟨e0, rfl⟩ := cq_l e
  refine pw_goto (tgt := 86) (tk tkL_changes 43 rfl) (by decide) ?_
  refine as_out_e (e := 0) (tk tkL_changes 47 rfl) rfl (by first | decide | omega) ?_
  refine pw_goto (tgt := 102) (tk tkL_changes 48 rfl) (by decide) ?_
  refine pw_iconst (v := 0) (tk tkL_changes 58 rfl) (by decide) ?_
  exact pw_ireturn (tk tkL_changes 59 rfl) rfl (by decide) rfl (LQ.ret (by decide) (by decide) (by decide) hW (sp_update a u1 u2 u3) e0 hy hc rfl rfl rfl)
  obtain ⟨y, rfl, hy, hc, ⟨_, e⟩ | ⟨k9, E9, hm, hk, e⟩⟩ := q
  · cases e
  · cases e
    simp only [List.mem_cons, Prod.mk.injEq, List.not_mem_nil, or_false] at hm
    rcases hm with ⟨rfl, rfl⟩ | ⟨rfl, rfl⟩ | ⟨rfl, rfl⟩
    · refine pt_catch [] (0, 87, 90, 31) [(0, 87, 94, 33), (0, 87, 98, 35)] (j := 6) (w := 2) (ls1 := [some (.ref 160), some (.int 4), some (.int u1), some (.int u2), some (.int u3), some (.ref 171), none]) rfl (fun z hz => by cases hz) ⟨by decide, by decide⟩ (by decide) ckL_31 caIOE (Or.inr ⟨rfl, (tk tkL_changes 49 rfl)⟩) (by decide) (nl_at (j := 5) rfl rfl) rfl ?_
      refine pw_iconst (v := 1) (tk tkL_changes 50 rfl) (by decide) ?_
      exact pw_ireturn (tk tkL_changes 51 rfl) rfl (by decide) rfl (LQ.thr (by decide) (by decide) (by decide) hW (sp_update a u1 u2 u3) hk (by decide) (by decide) hy hc)
    · refine pt_catch [(0, 87, 90, 31)] (0, 87, 94, 33) [(0, 87, 98, 35)] (j := 6) (w := 2) (ls1 := [some (.ref 160), some (.int 4), some (.int u1), some (.int u2), some (.int u3), some (.ref 171), none]) rfl (pass1 ⟨by decide, _, ckL_31, List.mem_of_getElem? (i := 1) rfl⟩) ⟨by decide, by decide⟩ (by decide) ckL_33 caIAE (Or.inr ⟨rfl, (tk tkL_changes 52 rfl)⟩) (by decide) (nl_at (j := 5) rfl rfl) rfl ?_
      refine pw_iconst (v := 2) (tk tkL_changes 53 rfl) (by decide) ?_
      exact pw_ireturn (tk tkL_changes 54 rfl) rfl (by decide) rfl (LQ.thr (by decide) (by decide) (by decide) hW (sp_update a u1 u2 u3) hk (by decide) (by decide) hy hc)
    · refine pt_catch [(0, 87, 90, 31), (0, 87, 94, 33)] (0, 87, 98, 35) [] (j := 6) (w := 2) (ls1 := [some (.ref 160), some (.int 4), some (.int u1), some (.int u2), some (.int u3), some (.ref 171), none]) rfl (pass2 ⟨by decide, _, ckL_31, List.mem_of_getElem? (i := 3) rfl⟩ ⟨by decide, _, ckL_33, List.mem_of_getElem? (i := 2) rfl⟩) ⟨by decide, by decide⟩ (by decide) ckL_35 caISE (Or.inr ⟨rfl, (tk tkL_changes 55 rfl)⟩) (by decide) (nl_at (j := 5) rfl rfl) rfl ?_
      refine pw_iconst (v := 3) (tk tkL_changes 56 rfl) (by decide) ?_
      exact pw_ireturn (tk tkL_changes 57 rfl) rfl (by decide) rfl (LQ.thr (by decide) (by decide) (by decide) hW (sp_update a u1 u2 u3) hk (by decide) (by decide) hy hc)
set_option maxRecDepth 100000 in
set_option maxHeartbeats 4000000 in
theorem ct_L_remove (x : XW) {a b : AM} {w : Int32} (hW : W2 a b w x) (hg : HGA a) (u1 u2 u3 : Int32) : CT ML_changes 31 6 [.ref 160, .int 5, .int u1, .int u2, .int u3, .ref 171] (hp x) (LQ a b (prj 1 3 3 (sremove a u1))) := by
  refine ct_ofH (by decide +kernel) rfl (by decide) (k := 1) (ls := [some (.ref 160), some (.int 5), some (.int u1), some (.int u2), some (.int u3), some (.ref 171), none]) rfl (Nat.le_of_ble_eq_true rfl) ?_
  refine pw_aload (tk tkL_changes 0 rfl) rfl ?_
  refine pw_iconst (v := 0) (tk tkL_changes 1 rfl) (by decide) ?_
  refine pw_iload_n (tk tkL_changes 2 rfl) rfl ?_
  refine pw_if_ne (tgt := 18) (tk tkL_changes 3 rfl) (by decide) (fun c4 => ?_) (fun c4 => absurd c4 (by decide))
  refine pw_iload_n (tk tkL_changes 10 rfl) rfl ?_
  refine pw_iconst (v := 1) (tk tkL_changes 11 rfl) (by decide) ?_
  refine pw_icmp_ne (tgt := 39) (tk tkL_changes 12 rfl) (by decide) (fun c20 => ?_) (fun c20 => absurd c20 (by decide))
  refine pw_iload_n (tk tkL_changes 21 rfl) rfl ?_
  refine pw_iconst (v := 2) (tk tkL_changes 22 rfl) (by decide) ?_
  refine pw_icmp_ne (tgt := 52) (tk tkL_changes 23 rfl) (by decide) (fun c41 => ?_) (fun c41 => absurd c41 (by decide))
  refine pw_iload_n (tk tkL_changes 28 rfl) rfl ?_
  refine pw_iconst (v := 3) (tk tkL_changes 29 rfl) (by decide) ?_
  refine pw_icmp_ne (tgt := 65) (tk tkL_changes 30 rfl) (by decide) (fun c54 => ?_) (fun c54 => absurd c54 (by decide))
  refine pw_iload_n (tk tkL_changes 35 rfl) rfl ?_
  refine pw_iconst (v := 4) (tk tkL_changes 36 rfl) (by decide) ?_
  refine pw_icmp_ne (tgt := 81) (tk tkL_changes 37 rfl) (by decide) (fun c67 => ?_) (fun c67 => absurd c67 (by decide))
  refine pw_aload_n (tk tkL_changes 44 rfl) rfl ?_
  refine pw_iload_n (tk tkL_changes 45 rfl) rfl ?_
  refine pw_callV (ct_X7_remove x a hW.1 hg.1 u1) okX7_remove (tk tkL_changes 46 rfl) mkL_28 imX7_remove seX7_remove (hp_ot _ 0) rfl rfl rfl (by decide) (by decide) (Nat.le_of_ble_eq_true rfl) (fun r h2 q => ?_) (fun E h2 q => ?_)
  obtain ⟨y, rfl, hy, hc, e⟩ := q
  obtain ⟨e0, rfl⟩ := cq_l e
  refine as_out_e (e := 0) (tk tkL_changes 47 rfl) rfl (by first | decide | omega) ?_
  refine pw_goto (tgt := 102) (tk tkL_changes 48 rfl) (by decide) ?_
  refine pw_iconst (v := 0) (tk tkL_changes 58 rfl) (by decide) ?_
  exact pw_ireturn (tk tkL_changes 59 rfl) rfl (by decide) rfl (LQ.ret (by decide) (by decide) (by decide) hW (sp_remove a u1) e0 hy hc rfl rfl rfl)
  obtain ⟨y, rfl, hy, hc, ⟨_, e⟩ | ⟨k9, E9, hm, hk, e⟩⟩ := q
  · cases e
  · cases e
    simp only [List.mem_cons, Prod.mk.injEq, List.not_mem_nil, or_false] at hm
    rcases hm with ⟨rfl, rfl⟩ | ⟨rfl, rfl⟩
    · refine pt_catch [] (0, 87, 90, 31) [(0, 87, 94, 33), (0, 87, 98, 35)] (j := 6) (w := 2) (ls1 := [some (.ref 160), some (.int 5), some (.int u1), some (.int u2), some (.int u3), some (.ref 171), none]) rfl (fun z hz => by cases hz) ⟨by decide, by decide⟩ (by decide) ckL_31 caIOE (Or.inr ⟨rfl, (tk tkL_changes 49 rfl)⟩) (by decide) (nl_at (j := 5) rfl rfl) rfl ?_
      refine pw_iconst (v := 1) (tk tkL_changes 50 rfl) (by decide) ?_
      exact pw_ireturn (tk tkL_changes 51 rfl) rfl (by decide) rfl (LQ.thr (by decide) (by decide) (by decide) hW (sp_remove a u1) hk (by decide) (by decide) hy hc)
    · refine pt_catch [(0, 87, 90, 31), (0, 87, 94, 33)] (0, 87, 98, 35) [] (j := 6) (w := 2) (ls1 := [some (.ref 160), some (.int 5), some (.int u1), some (.int u2), some (.int u3), some (.ref 171), none]) rfl (pass2 ⟨by decide, _, ckL_31, List.mem_of_getElem? (i := 3) rfl⟩ ⟨by decide, _, ckL_33, List.mem_of_getElem? (i := 2) rfl⟩) ⟨by decide, by decide⟩ (by decide) ckL_35 caISE (Or.inr ⟨rfl, (tk tkL_changes 55 rfl)⟩) (by decide) (nl_at (j := 5) rfl rfl) rfl ?_
      refine pw_iconst (v := 3) (tk tkL_changes 56 rfl) (by decide) ?_
      exact pw_ireturn (tk tkL_changes 57 rfl) rfl (by decide) rfl (LQ.thr (by decide) (by decide) (by decide) hW (sp_remove a u1) hk (by decide) (by decide) hy hc)
set_option maxRecDepth 100000 in
set_option maxHeartbeats 4000000 in
theorem ct_L_inserts (x : XW) {a b : AM} {w : Int32} (hW : W2 a b w x) (hg : HGA a) (ro v : Int32) {m : Nat} (hm0 : 0 < m) (hm : m < 2 ^ 31) : CT ML_inserts 31 6 [.ref 160, .int ro, .int v, .int (nI m), .ref 171] (hp x) (LQ a b (prj 1 2 3 (sinsert a ro (nI (lwF v m)) (nI (lwF (v >>> ((4 : Int32) &&& 31)) m)) (nI (lwF (v >>> ((8 : Int32) &&& 31)) m))))) := by
  refine ct_ofH (by decide +kernel) rfl (by decide) (k := 1) (ls := [some (.ref 160), some (.int ro), some (.int v), some (.int (nI m)), some (.ref 171), none]) rfl (Nat.le_of_ble_eq_true rfl) ?_
  refine pw_aload (tk tkL_inserts 0 rfl) rfl ?_
  refine pw_iconst (v := 0) (tk tkL_inserts 1 rfl) (by decide) ?_
  refine pw_aload_n (tk tkL_inserts 2 rfl) rfl ?_
  refine pw_iload_n (tk tkL_inserts 3 rfl) rfl ?_
  refine pw_iload_n (tk tkL_inserts 4 rfl) rfl ?_
  refine pw_iload_n (tk tkL_inserts 5 rfl) rfl ?_
  refine pw_cS (ct_L_low _ _ m hm0 hm) okL_low (tk tkL_inserts 6 rfl) mkL_37 stL_low rfl rfl (by decide) (by decide) (Nat.le_of_ble_eq_true rfl) ?_
  refine pw_iload_n (tk tkL_inserts 7 rfl) rfl ?_
  refine pw_iconst (v := 4) (tk tkL_inserts 8 rfl) (by decide) ?_
  refine pw_ishr (tk tkL_inserts 9 rfl) ?_
  refine pw_iload_n (tk tkL_inserts 10 rfl) rfl ?_
  refine pw_cS (ct_L_low _ _ m hm0 hm) okL_low (tk tkL_inserts 11 rfl) mkL_37 stL_low rfl rfl (by decide) (by decide) (Nat.le_of_ble_eq_true rfl) ?_
  refine pw_iload_n (tk tkL_inserts 12 rfl) rfl ?_
  refine pw_bipush (v := 8) (tk tkL_inserts 13 rfl) (by decide) ?_
  refine pw_ishr (tk tkL_inserts 14 rfl) ?_
  refine pw_iload_n (tk tkL_inserts 15 rfl) rfl ?_
  refine pw_cS (ct_L_low _ _ m hm0 hm) okL_low (tk tkL_inserts 16 rfl) mkL_37 stL_low rfl rfl (by decide) (by decide) (Nat.le_of_ble_eq_true rfl) ?_
  refine pw_callV (ct_X7_insert x a hW.1 hg.1 ro _ _ _) okX7_insert (tk tkL_inserts 17 rfl) mkL_43 imX7_insert seX7_insert (hp_ot _ 0) rfl rfl rfl (by decide) (by decide) (Nat.le_of_ble_eq_true rfl) (fun r h2 q => ?_) (fun E h2 q => ?_)
  obtain ⟨y, rfl, hy, hc, e⟩ := q
  obtain ⟨e0, rfl⟩ := cq_l e
  refine as_out_e (e := 0) (tk tkL_inserts 18 rfl) rfl (by first | decide | omega) ?_
  refine pw_goto (tgt := 44) (tk tkL_inserts 19 rfl) (by decide) ?_
  refine pw_iconst (v := 0) (tk tkL_inserts 29 rfl) (by decide) ?_
  exact pw_ireturn (tk tkL_inserts 30 rfl) rfl (by decide) rfl (LQ.ret (by decide) (by decide) (by decide) hW (sp_insert a ro _ _ _) e0 hy hc rfl rfl rfl)
  obtain ⟨y, rfl, hy, hc, ⟨_, e⟩ | ⟨k9, E9, hm, hk, e⟩⟩ := q
  · cases e
  · cases e
    simp only [List.mem_cons, Prod.mk.injEq, List.not_mem_nil, or_false] at hm
    rcases hm with ⟨rfl, rfl⟩ | ⟨rfl, rfl⟩ | ⟨rfl, rfl⟩
    · refine pt_catch [] (0, 29, 32, 31) [(0, 29, 36, 33), (0, 29, 40, 35)] (j := 5) (w := 2) (ls1 := [some (.ref 160), some (.int ro), some (.int v), some (.int (nI m)), some (.ref 171), none]) rfl (fun z hz => by cases hz) ⟨by decide, by decide⟩ (by decide) ckL_31 caIOE (Or.inr ⟨rfl, (tk tkL_inserts 20 rfl)⟩) (by decide) (nl_at (j := 4) rfl rfl) rfl ?_
      refine pw_iconst (v := 1) (tk tkL_inserts 21 rfl) (by decide) ?_
      exact pw_ireturn (tk tkL_inserts 22 rfl) rfl (by decide) rfl (LQ.thr (by decide) (by decide) (by decide) hW (sp_insert a ro _ _ _) hk (by decide) (by decide) hy hc)
    · refine pt_catch [(0, 29, 32, 31)] (0, 29, 36, 33) [(0, 29, 40, 35)] (j := 5) (w := 2) (ls1 := [some (.ref 160), some (.int ro), some (.int v), some (.int (nI m)), some (.ref 171), none]) rfl (pass1 ⟨by decide, _, ckL_31, List.mem_of_getElem? (i := 1) rfl⟩) ⟨by decide, by decide⟩ (by decide) ckL_33 caIAE (Or.inr ⟨rfl, (tk tkL_inserts 23 rfl)⟩) (by decide) (nl_at (j := 4) rfl rfl) rfl ?_
      refine pw_iconst (v := 2) (tk tkL_inserts 24 rfl) (by decide) ?_
      exact pw_ireturn (tk tkL_inserts 25 rfl) rfl (by decide) rfl (LQ.thr (by decide) (by decide) (by decide) hW (sp_insert a ro _ _ _) hk (by decide) (by decide) hy hc)
    · refine pt_catch [(0, 29, 32, 31), (0, 29, 36, 33)] (0, 29, 40, 35) [] (j := 5) (w := 2) (ls1 := [some (.ref 160), some (.int ro), some (.int v), some (.int (nI m)), some (.ref 171), none]) rfl (pass2 ⟨by decide, _, ckL_31, List.mem_of_getElem? (i := 3) rfl⟩ ⟨by decide, _, ckL_33, List.mem_of_getElem? (i := 2) rfl⟩) ⟨by decide, by decide⟩ (by decide) ckL_35 caISE (Or.inr ⟨rfl, (tk tkL_inserts 26 rfl)⟩) (by decide) (nl_at (j := 4) rfl rfl) rfl ?_
      refine pw_iconst (v := 3) (tk tkL_inserts 27 rfl) (by decide) ?_
      exact pw_ireturn (tk tkL_inserts 28 rfl) rfl (by decide) rfl (LQ.thr (by decide) (by decide) (by decide) hW (sp_insert a ro _ _ _) hk (by decide) (by decide) hy hc)
set_option maxRecDepth 100000 in
set_option maxHeartbeats 4000000 in
theorem ct_L_actions (x : XW) {a b : AM} {w : Int32} (hW : W2 a b w x) (hg : HGA a) (ro v : Int32) (is : Bool) : CT ML_actions 31 6 [.ref 160, .int ro, .int v, .int (bI is), .ref 171] (hp x) (LQ a b (prj 1 2 2 (ssetAction a ro (if (v >>> ((11 : Int32) &&& 31)) &&& 3 ≤ 0 then nI (lwF (v >>> ((6 : Int32) &&& 31)) (cond is 4 6)) else 2) (nI (lwF v (cond is 3 7))) (nI (lwF (v >>> ((3 : Int32) &&& 31)) 3)) (nI (lwF (v >>> ((5 : Int32) &&& 31)) 160) - 60)))) := by
  cases is with
  | false =>
    show CT ML_actions 31 6 [.ref 160, .int ro, .int v, .int 0, .ref 171] (hp x) _
    refine ct_ofH (by decide +kernel) rfl (by decide) (k := 1) (ls := [some (.ref 160), some (.int ro), some (.int v), some (.int 0), some (.ref 171), none]) rfl (Nat.le_of_ble_eq_true rfl) ?_
    refine pw_aload (tk tkL_actions 0 rfl) rfl ?_
    refine pw_iconst (v := 0) (tk tkL_actions 1 rfl) (by decide) ?_
    refine pw_aload_n (tk tkL_actions 2 rfl) rfl ?_
    refine pw_iload_n (tk tkL_actions 3 rfl) rfl ?_
    refine pw_iload_n (tk tkL_actions 4 rfl) rfl ?_
    refine pw_bipush (v := 11) (tk tkL_actions 5 rfl) (by decide) ?_
    refine pw_ishr (tk tkL_actions 6 rfl) ?_
    refine pw_iconst (v := 3) (tk tkL_actions 7 rfl) (by decide) ?_
    refine pw_iand (tk tkL_actions 8 rfl) ?_
    refine pw_if_le (tgt := 18) (tk tkL_actions 9 rfl) (by decide) (fun c11 => ?_) (fun c11 => ?_)
    · rw [if_pos c11]
      refine pw_iload_n (tk tkL_actions 12 rfl) rfl ?_
      refine pw_bipush (v := 6) (tk tkL_actions 13 rfl) (by decide) ?_
      refine pw_ishr (tk tkL_actions 14 rfl) ?_
      refine pw_iload_n (tk tkL_actions 15 rfl) rfl ?_
      refine pw_if_eq (tgt := 30) (tk tkL_actions 16 rfl) (by decide) (fun c23 => ?_) (fun c23 => c23 (by decide) |>.elim)
      refine pw_bipush (v := 6) (tk tkL_actions 19 rfl) (by decide) ?_
      refine pw_cS (ct_L_low _ _ 6 (by decide) (by decide)) okL_low (tk tkL_actions 20 rfl) mkL_37 stL_low rfl rfl (by decide) (by decide) (Nat.le_of_ble_eq_true rfl) ?_
      refine pw_iload_n (tk tkL_actions 21 rfl) rfl ?_
      refine pw_iload_n (tk tkL_actions 22 rfl) rfl ?_
      refine pw_if_eq (tgt := 44) (tk tkL_actions 23 rfl) (by decide) (fun c37 => ?_) (fun c37 => c37 (by decide) |>.elim)
      refine pw_bipush (v := 7) (tk tkL_actions 26 rfl) (by decide) ?_
      refine pw_cS (ct_L_low _ _ 7 (by decide) (by decide)) okL_low (tk tkL_actions 27 rfl) mkL_37 stL_low rfl rfl (by decide) (by decide) (Nat.le_of_ble_eq_true rfl) ?_
      refine pw_iload_n (tk tkL_actions 28 rfl) rfl ?_
      refine pw_iconst (v := 3) (tk tkL_actions 29 rfl) (by decide) ?_
      refine pw_ishr (tk tkL_actions 30 rfl) ?_
      refine pw_iconst (v := 3) (tk tkL_actions 31 rfl) (by decide) ?_
      refine pw_cS (ct_L_low _ _ 3 (by decide) (by decide)) okL_low (tk tkL_actions 32 rfl) mkL_37 stL_low rfl rfl (by decide) (by decide) (Nat.le_of_ble_eq_true rfl) ?_
      refine pw_iload_n (tk tkL_actions 33 rfl) rfl ?_
      refine pw_iconst (v := 5) (tk tkL_actions 34 rfl) (by decide) ?_
      refine pw_ishr (tk tkL_actions 35 rfl) ?_
      refine pw_sipush (v := 160) (tk tkL_actions 36 rfl) (by decide) ?_
      refine pw_cS (ct_L_low _ _ 160 (by decide) (by decide)) okL_low (tk tkL_actions 37 rfl) mkL_37 stL_low rfl rfl (by decide) (by decide) (Nat.le_of_ble_eq_true rfl) ?_
      refine pw_bipush (v := 60) (tk tkL_actions 38 rfl) (by decide) ?_
      refine pw_isub (tk tkL_actions 39 rfl) ?_
      refine pw_callV (ct_X7_setAction x a hW.1 hg.1 ro _ _ _ _) okX7_setAction (tk tkL_actions 40 rfl) mkL_47 imX7_setAction seX7_setAction (hp_ot _ 0) rfl rfl rfl (by decide) (by decide) (Nat.le_of_ble_eq_true rfl) (fun r h2 q => ?_) (fun E h2 q => ?_)
      obtain ⟨y, rfl, hy, hc, e⟩ := q
      obtain ⟨e0, rfl⟩ := cq_l e
      refine as_out_e (e := 0) (tk tkL_actions 41 rfl) rfl (by first | decide | omega) ?_
      refine pw_goto (tgt := 83) (tk tkL_actions 42 rfl) (by decide) ?_
      refine pw_iconst (v := 0) (tk tkL_actions 49 rfl) (by decide) ?_
      exact pw_ireturn (tk tkL_actions 50 rfl) rfl (by decide) rfl (LQ.ret (by decide) (by decide) (by decide) hW (sp_setAction a ro _ _ _ _) e0 hy hc rfl rfl rfl)
      obtain ⟨y, rfl, hy, hc, ⟨_, e⟩ | ⟨k9, E9, hm, hk, e⟩⟩ := q
      · cases e
      · cases e
        simp only [List.mem_cons, Prod.mk.injEq, List.not_mem_nil, or_false] at hm
        rcases hm with ⟨rfl, rfl⟩ | ⟨rfl, rfl⟩
        · refine pt_catch [] (0, 72, 75, 31) [(0, 72, 79, 33)] (j := 5) (w := 2) (ls1 := [some (.ref 160), some (.int ro), some (.int v), some (.int 0), some (.ref 171), none]) rfl (fun z hz => by cases hz) ⟨by decide, by decide⟩ (by decide) ckL_31 caIOE (Or.inr ⟨rfl, (tk tkL_actions 43 rfl)⟩) (by decide) (nl_at (j := 4) rfl rfl) rfl ?_
          refine pw_iconst (v := 1) (tk tkL_actions 44 rfl) (by decide) ?_
          exact pw_ireturn (tk tkL_actions 45 rfl) rfl (by decide) rfl (LQ.thr (by decide) (by decide) (by decide) hW (sp_setAction a ro _ _ _ _) hk (by decide) (by decide) hy hc)
        · refine pt_catch [(0, 72, 75, 31)] (0, 72, 79, 33) [] (j := 5) (w := 2) (ls1 := [some (.ref 160), some (.int ro), some (.int v), some (.int 0), some (.ref 171), none]) rfl (pass1 ⟨by decide, _, ckL_31, List.mem_of_getElem? (i := 1) rfl⟩) ⟨by decide, by decide⟩ (by decide) ckL_33 caIAE (Or.inr ⟨rfl, (tk tkL_actions 46 rfl)⟩) (by decide) (nl_at (j := 4) rfl rfl) rfl ?_
          refine pw_iconst (v := 2) (tk tkL_actions 47 rfl) (by decide) ?_
          exact pw_ireturn (tk tkL_actions 48 rfl) rfl (by decide) rfl (LQ.thr (by decide) (by decide) (by decide) hW (sp_setAction a ro _ _ _ _) hk (by decide) (by decide) hy hc)
    · rw [if_neg c11]
      refine pw_iconst (v := 2) (tk tkL_actions 10 rfl) (by decide) ?_
      refine pw_goto (tgt := 35) (tk tkL_actions 11 rfl) (by decide) ?_
      refine pw_iload_n (tk tkL_actions 21 rfl) rfl ?_
      refine pw_iload_n (tk tkL_actions 22 rfl) rfl ?_
      refine pw_if_eq (tgt := 44) (tk tkL_actions 23 rfl) (by decide) (fun c37 => ?_) (fun c37 => c37 (by decide) |>.elim)
      refine pw_bipush (v := 7) (tk tkL_actions 26 rfl) (by decide) ?_
      refine pw_cS (ct_L_low _ _ 7 (by decide) (by decide)) okL_low (tk tkL_actions 27 rfl) mkL_37 stL_low rfl rfl (by decide) (by decide) (Nat.le_of_ble_eq_true rfl) ?_
      refine pw_iload_n (tk tkL_actions 28 rfl) rfl ?_
      refine pw_iconst (v := 3) (tk tkL_actions 29 rfl) (by decide) ?_
      refine pw_ishr (tk tkL_actions 30 rfl) ?_
      refine pw_iconst (v := 3) (tk tkL_actions 31 rfl) (by decide) ?_
      refine pw_cS (ct_L_low _ _ 3 (by decide) (by decide)) okL_low (tk tkL_actions 32 rfl) mkL_37 stL_low rfl rfl (by decide) (by decide) (Nat.le_of_ble_eq_true rfl) ?_
      refine pw_iload_n (tk tkL_actions 33 rfl) rfl ?_
      refine pw_iconst (v := 5) (tk tkL_actions 34 rfl) (by decide) ?_
      refine pw_ishr (tk tkL_actions 35 rfl) ?_
      refine pw_sipush (v := 160) (tk tkL_actions 36 rfl) (by decide) ?_
      refine pw_cS (ct_L_low _ _ 160 (by decide) (by decide)) okL_low (tk tkL_actions 37 rfl) mkL_37 stL_low rfl rfl (by decide) (by decide) (Nat.le_of_ble_eq_true rfl) ?_
      refine pw_bipush (v := 60) (tk tkL_actions 38 rfl) (by decide) ?_
      refine pw_isub (tk tkL_actions 39 rfl) ?_
      refine pw_callV (ct_X7_setAction x a hW.1 hg.1 ro _ _ _ _) okX7_setAction (tk tkL_actions 40 rfl) mkL_47 imX7_setAction seX7_setAction (hp_ot _ 0) rfl rfl rfl (by decide) (by decide) (Nat.le_of_ble_eq_true rfl) (fun r h2 q => ?_) (fun E h2 q => ?_)
      obtain ⟨y, rfl, hy, hc, e⟩ := q
      obtain ⟨e0, rfl⟩ := cq_l e
      refine as_out_e (e := 0) (tk tkL_actions 41 rfl) rfl (by first | decide | omega) ?_
      refine pw_goto (tgt := 83) (tk tkL_actions 42 rfl) (by decide) ?_
      refine pw_iconst (v := 0) (tk tkL_actions 49 rfl) (by decide) ?_
      exact pw_ireturn (tk tkL_actions 50 rfl) rfl (by decide) rfl (LQ.ret (by decide) (by decide) (by decide) hW (sp_setAction a ro _ _ _ _) e0 hy hc rfl rfl rfl)
      obtain ⟨y, rfl, hy, hc, ⟨_, e⟩ | ⟨k9, E9, hm, hk, e⟩⟩ := q
      · cases e
      · cases e
        simp only [List.mem_cons, Prod.mk.injEq, List.not_mem_nil, or_false] at hm
        rcases hm with ⟨rfl, rfl⟩ | ⟨rfl, rfl⟩
        · refine pt_catch [] (0, 72, 75, 31) [(0, 72, 79, 33)] (j := 5) (w := 2) (ls1 := [some (.ref 160), some (.int ro), some (.int v), some (.int 0), some (.ref 171), none]) rfl (fun z hz => by cases hz) ⟨by decide, by decide⟩ (by decide) ckL_31 caIOE (Or.inr ⟨rfl, (tk tkL_actions 43 rfl)⟩) (by decide) (nl_at (j := 4) rfl rfl) rfl ?_
          refine pw_iconst (v := 1) (tk tkL_actions 44 rfl) (by decide) ?_
          exact pw_ireturn (tk tkL_actions 45 rfl) rfl (by decide) rfl (LQ.thr (by decide) (by decide) (by decide) hW (sp_setAction a ro _ _ _ _) hk (by decide) (by decide) hy hc)
        · refine pt_catch [(0, 72, 75, 31)] (0, 72, 79, 33) [] (j := 5) (w := 2) (ls1 := [some (.ref 160), some (.int ro), some (.int v), some (.int 0), some (.ref 171), none]) rfl (pass1 ⟨by decide, _, ckL_31, List.mem_of_getElem? (i := 1) rfl⟩) ⟨by decide, by decide⟩ (by decide) ckL_33 caIAE (Or.inr ⟨rfl, (tk tkL_actions 46 rfl)⟩) (by decide) (nl_at (j := 4) rfl rfl) rfl ?_
          refine pw_iconst (v := 2) (tk tkL_actions 47 rfl) (by decide) ?_
          exact pw_ireturn (tk tkL_actions 48 rfl) rfl (by decide) rfl (LQ.thr (by decide) (by decide) (by decide) hW (sp_setAction a ro _ _ _ _) hk (by decide) (by decide) hy hc)
  | true =>
    show CT ML_actions 31 6 [.ref 160, .int ro, .int v, .int 1, .ref 171] (hp x) _
    refine ct_ofH (by decide +kernel) rfl (by decide) (k := 1) (ls := [some (.ref 160), some (.int ro), some (.int v), some (.int 1), some (.ref 171), none]) rfl (Nat.le_of_ble_eq_true rfl) ?_
    refine pw_aload (tk tkL_actions 0 rfl) rfl ?_
    refine pw_iconst (v := 0) (tk tkL_actions 1 rfl) (by decide) ?_
    refine pw_aload_n (tk tkL_actions 2 rfl) rfl ?_
    refine pw_iload_n (tk tkL_actions 3 rfl) rfl ?_
    refine pw_iload_n (tk tkL_actions 4 rfl) rfl ?_
    refine pw_bipush (v := 11) (tk tkL_actions 5 rfl) (by decide) ?_
    refine pw_ishr (tk tkL_actions 6 rfl) ?_
    refine pw_iconst (v := 3) (tk tkL_actions 7 rfl) (by decide) ?_
    refine pw_iand (tk tkL_actions 8 rfl) ?_
    refine pw_if_le (tgt := 18) (tk tkL_actions 9 rfl) (by decide) (fun c11 => ?_) (fun c11 => ?_)
    · rw [if_pos c11]
      refine pw_iload_n (tk tkL_actions 12 rfl) rfl ?_
      refine pw_bipush (v := 6) (tk tkL_actions 13 rfl) (by decide) ?_
      refine pw_ishr (tk tkL_actions 14 rfl) ?_
      refine pw_iload_n (tk tkL_actions 15 rfl) rfl ?_
      refine pw_if_eq (tgt := 30) (tk tkL_actions 16 rfl) (by decide) (fun c23 => absurd c23 (by decide)) (fun c23 => ?_)
      refine pw_iconst (v := 4) (tk tkL_actions 17 rfl) (by decide) ?_
      refine pw_goto (tgt := 32) (tk tkL_actions 18 rfl) (by decide) ?_
      refine pw_cS (ct_L_low _ _ 4 (by decide) (by decide)) okL_low (tk tkL_actions 20 rfl) mkL_37 stL_low rfl rfl (by decide) (by decide) (Nat.le_of_ble_eq_true rfl) ?_
      refine pw_iload_n (tk tkL_actions 21 rfl) rfl ?_
      refine pw_iload_n (tk tkL_actions 22 rfl) rfl ?_
      refine pw_if_eq (tgt := 44) (tk tkL_actions 23 rfl) (by decide) (fun c37 => absurd c37 (by decide)) (fun c37 => ?_)
      refine pw_iconst (v := 3) (tk tkL_actions 24 rfl) (by decide) ?_
      refine pw_goto (tgt := 46) (tk tkL_actions 25 rfl) (by decide) ?_
      refine pw_cS (ct_L_low _ _ 3 (by decide) (by decide)) okL_low (tk tkL_actions 27 rfl) mkL_37 stL_low rfl rfl (by decide) (by decide) (Nat.le_of_ble_eq_true rfl) ?_
      refine pw_iload_n (tk tkL_actions 28 rfl) rfl ?_
      refine pw_iconst (v := 3) (tk tkL_actions 29 rfl) (by decide) ?_
      refine pw_ishr (tk tkL_actions 30 rfl) ?_
      refine pw_iconst (v := 3) (tk tkL_actions 31 rfl) (by decide) ?_
      refine pw_cS (ct_L_low _ _ 3 (by decide) (by decide)) okL_low (tk tkL_actions 32 rfl) mkL_37 stL_low rfl rfl (by decide) (by decide) (Nat.le_of_ble_eq_true rfl) ?_
      refine pw_iload_n (tk tkL_actions 33 rfl) rfl ?_
      refine pw_iconst (v := 5) (tk tkL_actions 34 rfl) (by decide) ?_
      refine pw_ishr (tk tkL_actions 35 rfl) ?_
      refine pw_sipush (v := 160) (tk tkL_actions 36 rfl) (by decide) ?_
      refine pw_cS (ct_L_low _ _ 160 (by decide) (by decide)) okL_low (tk tkL_actions 37 rfl) mkL_37 stL_low rfl rfl (by decide) (by decide) (Nat.le_of_ble_eq_true rfl) ?_
      refine pw_bipush (v := 60) (tk tkL_actions 38 rfl) (by decide) ?_
      refine pw_isub (tk tkL_actions 39 rfl) ?_
      refine pw_callV (ct_X7_setAction x a hW.1 hg.1 ro _ _ _ _) okX7_setAction (tk tkL_actions 40 rfl) mkL_47 imX7_setAction seX7_setAction (hp_ot _ 0) rfl rfl rfl (by decide) (by decide) (Nat.le_of_ble_eq_true rfl) (fun r h2 q => ?_) (fun E h2 q => ?_)
      obtain ⟨y, rfl, hy, hc, e⟩ := q
      obtain ⟨e0, rfl⟩ := cq_l e
      refine as_out_e (e := 0) (tk tkL_actions 41 rfl) rfl (by first | decide | omega) ?_
      refine pw_goto (tgt := 83) (tk tkL_actions 42 rfl) (by decide) ?_
      refine pw_iconst (v := 0) (tk tkL_actions 49 rfl) (by decide) ?_
      exact pw_ireturn (tk tkL_actions 50 rfl) rfl (by decide) rfl (LQ.ret (by decide) (by decide) (by decide) hW (sp_setAction a ro _ _ _ _) e0 hy hc rfl rfl rfl)
      obtain ⟨y, rfl, hy, hc, ⟨_, e⟩ | ⟨k9, E9, hm, hk, e⟩⟩ := q
      · cases e
      · cases e
        simp only [List.mem_cons, Prod.mk.injEq, List.not_mem_nil, or_false] at hm
        rcases hm with ⟨rfl, rfl⟩ | ⟨rfl, rfl⟩
        · refine pt_catch [] (0, 72, 75, 31) [(0, 72, 79, 33)] (j := 5) (w := 2) (ls1 := [some (.ref 160), some (.int ro), some (.int v), some (.int 1), some (.ref 171), none]) rfl (fun z hz => by cases hz) ⟨by decide, by decide⟩ (by decide) ckL_31 caIOE (Or.inr ⟨rfl, (tk tkL_actions 43 rfl)⟩) (by decide) (nl_at (j := 4) rfl rfl) rfl ?_
          refine pw_iconst (v := 1) (tk tkL_actions 44 rfl) (by decide) ?_
          exact pw_ireturn (tk tkL_actions 45 rfl) rfl (by decide) rfl (LQ.thr (by decide) (by decide) (by decide) hW (sp_setAction a ro _ _ _ _) hk (by decide) (by decide) hy hc)
        · refine pt_catch [(0, 72, 75, 31)] (0, 72, 79, 33) [] (j := 5) (w := 2) (ls1 := [some (.ref 160), some (.int ro), some (.int v), some (.int 1), some (.ref 171), none]) rfl (pass1 ⟨by decide, _, ckL_31, List.mem_of_getElem? (i := 1) rfl⟩) ⟨by decide, by decide⟩ (by decide) ckL_33 caIAE (Or.inr ⟨rfl, (tk tkL_actions 46 rfl)⟩) (by decide) (nl_at (j := 4) rfl rfl) rfl ?_
          refine pw_iconst (v := 2) (tk tkL_actions 47 rfl) (by decide) ?_
          exact pw_ireturn (tk tkL_actions 48 rfl) rfl (by decide) rfl (LQ.thr (by decide) (by decide) (by decide) hW (sp_setAction a ro _ _ _ _) hk (by decide) (by decide) hy hc)
    · rw [if_neg c11]
      refine pw_iconst (v := 2) (tk tkL_actions 10 rfl) (by decide) ?_
      refine pw_goto (tgt := 35) (tk tkL_actions 11 rfl) (by decide) ?_
      refine pw_iload_n (tk tkL_actions 21 rfl) rfl ?_
      refine pw_iload_n (tk tkL_actions 22 rfl) rfl ?_
      refine pw_if_eq (tgt := 44) (tk tkL_actions 23 rfl) (by decide) (fun c37 => absurd c37 (by decide)) (fun c37 => ?_)
      refine pw_iconst (v := 3) (tk tkL_actions 24 rfl) (by decide) ?_
      refine pw_goto (tgt := 46) (tk tkL_actions 25 rfl) (by decide) ?_
      refine pw_cS (ct_L_low _ _ 3 (by decide) (by decide)) okL_low (tk tkL_actions 27 rfl) mkL_37 stL_low rfl rfl (by decide) (by decide) (Nat.le_of_ble_eq_true rfl) ?_
      refine pw_iload_n (tk tkL_actions 28 rfl) rfl ?_
      refine pw_iconst (v := 3) (tk tkL_actions 29 rfl) (by decide) ?_
      refine pw_ishr (tk tkL_actions 30 rfl) ?_
      refine pw_iconst (v := 3) (tk tkL_actions 31 rfl) (by decide) ?_
      refine pw_cS (ct_L_low _ _ 3 (by decide) (by decide)) okL_low (tk tkL_actions 32 rfl) mkL_37 stL_low rfl rfl (by decide) (by decide) (Nat.le_of_ble_eq_true rfl) ?_
      refine pw_iload_n (tk tkL_actions 33 rfl) rfl ?_
      refine pw_iconst (v := 5) (tk tkL_actions 34 rfl) (by decide) ?_
      refine pw_ishr (tk tkL_actions 35 rfl) ?_
      refine pw_sipush (v := 160) (tk tkL_actions 36 rfl) (by decide) ?_
      refine pw_cS (ct_L_low _ _ 160 (by decide) (by decide)) okL_low (tk tkL_actions 37 rfl) mkL_37 stL_low rfl rfl (by decide) (by decide) (Nat.le_of_ble_eq_true rfl) ?_
      refine pw_bipush (v := 60) (tk tkL_actions 38 rfl) (by decide) ?_
      refine pw_isub (tk tkL_actions 39 rfl) ?_
      refine pw_callV (ct_X7_setAction x a hW.1 hg.1 ro _ _ _ _) okX7_setAction (tk tkL_actions 40 rfl) mkL_47 imX7_setAction seX7_setAction (hp_ot _ 0) rfl rfl rfl (by decide) (by decide) (Nat.le_of_ble_eq_true rfl) (fun r h2 q => ?_) (fun E h2 q => ?_)
      obtain ⟨y, rfl, hy, hc, e⟩ := q
      obtain ⟨e0, rfl⟩ := cq_l e
      refine as_out_e (e := 0) (tk tkL_actions 41 rfl) rfl (by first | decide | omega) ?_
      refine pw_goto (tgt := 83) (tk tkL_actions 42 rfl) (by decide) ?_
      refine pw_iconst (v := 0) (tk tkL_actions 49 rfl) (by decide) ?_
      exact pw_ireturn (tk tkL_actions 50 rfl) rfl (by decide) rfl (LQ.ret (by decide) (by decide) (by decide) hW (sp_setAction a ro _ _ _ _) e0 hy hc rfl rfl rfl)
      obtain ⟨y, rfl, hy, hc, ⟨_, e⟩ | ⟨k9, E9, hm, hk, e⟩⟩ := q
      · cases e
      · cases e
        simp only [List.mem_cons, Prod.mk.injEq, List.not_mem_nil, or_false] at hm
        rcases hm with ⟨rfl, rfl⟩ | ⟨rfl, rfl⟩
        · refine pt_catch [] (0, 72, 75, 31) [(0, 72, 79, 33)] (j := 5) (w := 2) (ls1 := [some (.ref 160), some (.int ro), some (.int v), some (.int 1), some (.ref 171), none]) rfl (fun z hz => by cases hz) ⟨by decide, by decide⟩ (by decide) ckL_31 caIOE (Or.inr ⟨rfl, (tk tkL_actions 43 rfl)⟩) (by decide) (nl_at (j := 4) rfl rfl) rfl ?_
          refine pw_iconst (v := 1) (tk tkL_actions 44 rfl) (by decide) ?_
          exact pw_ireturn (tk tkL_actions 45 rfl) rfl (by decide) rfl (LQ.thr (by decide) (by decide) (by decide) hW (sp_setAction a ro _ _ _ _) hk (by decide) (by decide) hy hc)
        · refine pt_catch [(0, 72, 75, 31)] (0, 72, 79, 33) [] (j := 5) (w := 2) (ls1 := [some (.ref 160), some (.int ro), some (.int v), some (.int 1), some (.ref 171), none]) rfl (pass1 ⟨by decide, _, ckL_31, List.mem_of_getElem? (i := 1) rfl⟩) ⟨by decide, by decide⟩ (by decide) ckL_33 caIAE (Or.inr ⟨rfl, (tk tkL_actions 46 rfl)⟩) (by decide) (nl_at (j := 4) rfl rfl) rfl ?_
          refine pw_iconst (v := 2) (tk tkL_actions 47 rfl) (by decide) ?_
          exact pw_ireturn (tk tkL_actions 48 rfl) rfl (by decide) rfl (LQ.thr (by decide) (by decide) (by decide) hW (sp_setAction a ro _ _ _ _) hk (by decide) (by decide) hy hc)
