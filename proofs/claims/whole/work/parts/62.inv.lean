/-! ===== BETWEEN THE CALLS: the class and the model hold the same abstract machine ===== -/
theorem RS.E {σ : SS} {s t : Nat → Int32} (h : RS σ s) (hu : uN s ≤ 8) (e : E132 s t) : RS σ t := by
  show RS1 σ t (t 98)
  rw [← e 98 (by omega)]
  exact RS1.E h hu e
theorem RC.E {a b : AM} {c : CW} (h : RC a c) (e : AE a b) (hu : uN (aS a) ≤ 8) (hA : VA a) : RC b c := by
  obtain ⟨h1, ⟨nx, n1, n2, n3, n4, n5⟩, h3, h4, h5, h6⟩ := h
  obtain ⟨e1, e2, e3, e4, e5, e6, e7⟩ := e
  refine ⟨h1.E hu e1, ⟨nx, n1, by rw [← e2]; exact n2, n3, by omega, fun i hi => ?_⟩, fun i hi => ⟨by rw [← e4 i hi]; exact (h3 i hi).1, fun q => ?_⟩, by rw [← e6]; exact h4, by omega, fun i hi => ?_⟩
  · rw [← e2] at hi ⊢
    exact (n5 i hi).E (hA.1 i hi).1 (e3 i hi)
  · rw [← e4 i hi] at q
    exact ((h3 i hi).2 q).E (hA.2 i hi q).1 (e5 i hi q)
  · rw [← e6] at hi
    exact (h6 i hi).trans (e7 i hi)
theorem VA.E {a b : AM} (h : VA a) (e : AE a b) : VA b := by
  obtain ⟨e1, e2, e3, e4, e5, e6, e7⟩ := e
  refine ⟨fun i hi => ?_, fun i hi q => ?_⟩
  · rw [← e2] at hi
    exact VS.EE (h.1 i hi) (e3 i hi)
  · rw [← e4 i hi] at q
    exact VS.EE (h.2 i hi q) (e5 i hi q)
theorem VT.E {a b : AM} (h : VT a) (e : AE a b) : VT b := by
  obtain ⟨e1, e2, e3, e4, e5, e6, e7⟩ := e
  intro i hi
  rw [← e6] at hi
  rw [← e7 i hi]
  exact h i hi
abbrev GO (a : AM) : Prop := VA a ∧ VT a
abbrev HG (a : AM) : Prop := VS (uN (aS a)) (aS a) ∧ VA a ∧ VT a
theorem recH_ok {a : AM} (h : HG a) : ∀ i, i < (recH a (aS a)).1 → VS (uN ((recH a (aS a)).2 i)) ((recH a (aS a)).2 i) := by
  intro i hi
  unfold recH at hi ⊢
  by_cases e : aK a = 6
  · rw [if_pos e] at hi ⊢
    show VS (uN (if i = 5 then aS a else aH a (i + 1))) (if i = 5 then aS a else aH a (i + 1))
    have hi2 : i < 6 := hi
    by_cases e2 : i = 5
    · rw [if_pos e2]; exact h.1
    · rw [if_neg e2]; exact h.2.1.1 _ (by omega)
  · rw [if_neg e] at hi ⊢
    show VS (uN (if i = aK a then aS a else aH a i)) (if i = aK a then aS a else aH a i)
    have hi2 : i < aK a + 1 := hi
    by_cases e2 : i = aK a
    · rw [if_pos e2]; exact h.1
    · rw [if_neg e2]; exact h.2.1.1 _ (by omega)
theorem GO_self {a : AM} (h : HG a) : GO a := h.2
theorem GO_rec {a : AM} (h : HG a) (s : Nat → Int32) : GO (s, recH a (aS a), a.2.2) := ⟨⟨recH_ok h, h.2.1.2⟩, h.2.2⟩
theorem go_hasRow {a : AM} (h : HG a) (r : Int32) : GO (shasRow a r).2.2 := by
  unfold shasRow
  repeat' (first | exact GO_self h | exact GO_rec h _ | split)
theorem go_valueAt {a : AM} (h : HG a) (r c : Int32) : GO (svalueAt a r c).2.2 := by
  unfold svalueAt
  repeat' (first | exact GO_self h | exact GO_rec h _ | split)
theorem go_actionOf {a : AM} (h : HG a) (r : Int32) : GO (sactionOf a r).2.2 := by
  unfold sactionOf
  repeat' (first | exact GO_self h | exact GO_rec h _ | split)
theorem go_actsOf {a : AM} (h : HG a) (r : Int32) : GO (sactsOf a r).2.2 := by
  unfold sactsOf
  repeat' (first | exact GO_self h | exact GO_rec h _ | split)
theorem go_isMuted {a : AM} (h : HG a) (r : Int32) : GO (sisMuted a r).2.2 := by
  unfold sisMuted
  repeat' (first | exact GO_self h | exact GO_rec h _ | split)
theorem go_loggedRule {a : AM} (h : HG a) (r : Int32) : GO (sloggedRule a r).2.2 := by
  unfold sloggedRule
  repeat' (first | exact GO_self h | exact GO_rec h _ | split)
theorem go_loggedDepth {a : AM} (h : HG a) (r : Int32) : GO (sloggedDepth a r).2.2 := by
  unfold sloggedDepth
  repeat' (first | exact GO_self h | exact GO_rec h _ | split)
theorem go_ruleCount {a : AM} (h : HG a) : GO (sruleCount a ).2.2 := by
  unfold sruleCount
  repeat' (first | exact GO_self h | exact GO_rec h _ | split)
theorem go_eventCount {a : AM} (h : HG a) : GO (seventCount a ).2.2 := by
  unfold seventCount
  repeat' (first | exact GO_self h | exact GO_rec h _ | split)
theorem go_logSize {a : AM} (h : HG a) : GO (slogSize a ).2.2 := by
  unfold slogSize
  repeat' (first | exact GO_self h | exact GO_rec h _ | split)
theorem go_rowCount {a : AM} (h : HG a) : GO (srowCount a ).2.2 := by
  unfold srowCount
  repeat' (first | exact GO_self h | exact GO_rec h _ | split)
theorem go_textLength {a : AM} (h : HG a) : GO (stextLength a ).2.2 := by
  unfold stextLength
  repeat' (first | exact GO_self h | exact GO_rec h _ | split)
theorem go_undoCount {a : AM} (h : HG a) : GO (sundoCount a ).2.2 := by
  unfold sundoCount
  repeat' (first | exact GO_self h | exact GO_rec h _ | split)
theorem go_setDepth {a : AM} (h : HG a) (r : Int32) : GO (ssetDepth a r).2.2 := by
  unfold ssetDepth
  repeat' (first | exact GO_self h | exact GO_rec h _ | split)
theorem go_turnMute {a : AM} (h : HG a) (r : Int32) : GO (sturnMute a r).2.2 := by
  unfold sturnMute
  repeat' (first | exact GO_self h | exact GO_rec h _ | split)
theorem go_setAction {a : AM} (h : HG a) (r k ro c m : Int32) : GO (ssetAction a r k ro c m).2.2 := by
  unfold ssetAction
  repeat' (first | exact GO_self h | exact GO_rec h _ | split)
theorem go_addRule {a : AM} (h : HG a) (e c l : Int32) : GO (saddRule a e c l).2.2 := by
  unfold saddRule
  repeat' (first | exact GO_self h | exact GO_rec h _ | split)
theorem go_loadState {a : AM} (h : HG a) (r : Int32) : GO (sloadState a r).2.2 := by
  unfold sloadState
  repeat' (first | exact GO_self h | exact GO_rec h _ | split)
theorem go_insert {a : AM} (h : HG a) (r p q w : Int32) : GO (sinsert a r p q w).2.2 := by
  unfold sinsert stA
  repeat' (first | exact GO_self h | exact GO_rec h _ | split)
theorem go_update {a : AM} (h : HG a) (r c v : Int32) : GO (supdate a r c v).2.2 := by
  unfold supdate stA
  repeat' (first | exact GO_self h | exact GO_rec h _ | split)
theorem go_remove {a : AM} (h : HG a) (r : Int32) : GO (sremove a r).2.2 := by
  unfold sremove stA
  repeat' (first | exact GO_self h | exact GO_rec h _ | split)
theorem go_whyNotUpdate {a : AM} (h : HG a) (r c v : Int32) : GO (swhyNotUpdate a r c v).2.2 := by
  unfold swhyNotUpdate
  repeat' (first | exact GO_self h | exact GO_rec h _ | split)
theorem go_eventsOfUpdate {a : AM} (h : HG a) (r c v : Int32) : GO (seventsOfUpdate a r c v).2.2 := by
  unfold seventsOfUpdate
  repeat' (first | exact GO_self h | exact GO_rec h _ | split)
theorem go_depthOfUpdate {a : AM} (h : HG a) (r c v : Int32) : GO (sdepthOfUpdate a r c v).2.2 := by
  unfold sdepthOfUpdate
  repeat' (first | exact GO_self h | exact GO_rec h _ | split)
theorem go_sumOf {a : AM} (h : HG a) (c : Int32) : GO (ssumOf a c).2.2 := by
  unfold ssumOf
  repeat' (first | exact GO_self h | exact GO_rec h _ | split)
theorem go_canSetOff {a : AM} (h : HG a) (r q : Int32) : GO (scanSetOff a r q).2.2 := by
  unfold scanSetOff
  repeat' (first | exact GO_self h | exact GO_rec h _ | split)
theorem go_reachOf {a : AM} (h : HG a) (r : Int32) : GO (sreachOf a r).2.2 := by
  unfold sreachOf
  repeat' (first | exact GO_self h | exact GO_rec h _ | split)
theorem go_reachByTable {a : AM} (h : HG a) (r : Int32) : GO (sreachByTable a r).2.2 := by
  unfold sreachByTable sreachOf
  repeat' (first | exact GO_self h | exact GO_rec h _ | split)
theorem go_circularRules {a : AM} (h : HG a) : GO (scircularRules a ).2.2 := by
  unfold scircularRules
  repeat' (first | exact GO_self h | exact GO_rec h _ | split)
theorem go_dropRule {a : AM} (h : HG a) (r : Int32) : GO (sdropRule a r).2.2 := by
  unfold sdropRule
  repeat' (first | exact GO_self h | exact GO_rec h _ | split)
theorem go_textError {a : AM} (h : HG a) : GO (stextError a ).2.2 := by
  unfold stextError
  repeat' (first | exact GO_self h | exact GO_rec h _ | split)
theorem go_undo {a : AM} (h : HG a) : GO (sundo a).2.2 := by
  unfold sundo
  split
  · exact GO_self h
  · exact ⟨⟨fun i hi => h.2.1.1 i (by have hi2 : i < aK a - 1 := hi; omega), h.2.1.2⟩, h.2.2⟩
theorem go_saveState {a : AM} (h : HG a) (r : Int32) : GO (ssaveState a r).2.2 := by
  unfold ssaveState
  split
  · exact GO_self h
  · refine ⟨⟨h.2.1.1, fun i hi q => ?_⟩, h.2.2⟩
    show VS (uN (if i = r.toNatClampNeg then aS a else aL a i)) (if i = r.toNatClampNeg then aS a else aL a i)
    have q2 : (if i = r.toNatClampNeg then true else aB a i) = true := q
    by_cases e : i = r.toNatClampNeg
    · rw [if_pos e]; exact h.1
    · rw [if_neg e] at q2 ⊢; exact h.2.1.2 i hi q2
theorem go_clearText {a : AM} (h : HG a) : GO (sclearText a).2.2 := ⟨h.2.1, fun i hi => absurd (show i < 0 from hi) (by omega)⟩
theorem go_runText {a : AM} (h : HG a) : GO (srunText a).2.2 := by
  unfold srunText
  split
  · exact GO_self h
  · exact ⟨⟨recH_ok h, h.2.1.2⟩, fun i hi => absurd (show i < 0 from hi) (by omega)⟩
theorem go_appendText {a : AM} (h : HG a) (c : Int64) : GO (sappendText a c).2.2 := by
  unfold sappendText
  split
  · exact GO_self h
  · split
    · exact GO_self h
    · split
      · exact GO_self h
      · refine ⟨⟨h.2.1.1, h.2.1.2⟩, fun i hi => ?_⟩
        have hi2 : i < aN a + mnF 8 c.toBitVec.toNat := hi
        show ∃ d, d < 65536 ∧ apT (aT a) (aN a) (mnF 8 c.toBitVec.toNat) c.toBitVec.toNat (mnF 8 c.toBitVec.toNat) i = nI d
        unfold apT
        by_cases e : aN a ≤ i ∧ i < aN a + mnF 8 c.toBitVec.toNat
        · rw [if_pos e]; exact ⟨_, Nat.lt_trans (cb_lt _ _) (by decide), rfl⟩
        · rw [if_neg e]; exact h.2.2 i (by omega)
/-- between two calls -/
def REL (x : XW) : Prop := RC (aOf x.2.1) x.1 ∧ VM x.2.1 ∧ VA (aOf x.2.1) ∧ VT (aOf x.2.1)
theorem REL.hg {x : XW} (h : REL x) : HG (aOf x.2.1) := ⟨h.2.1.2.2.2.2.2, h.2.2⟩
theorem REL.step {y z : XW} {R : RS3} (hc : RC R.2.2 y.1) (z1 : z.1 = y.1) (hv : VM z.2.1) (ae : AE R.2.2 (aOf z.2.1)) (go : GO R.2.2) : REL z := by
  have hu : uN (aS R.2.2) ≤ 8 := by
    rw [← uN_E ae.1]
    exact hv.2.2.2.2.2.1
  exact ⟨by rw [z1]; exact hc.E ae hu go.1, hv, go.1.E ae, go.2.E ae⟩
/-- the start -/
theorem aK0 : aK (aOf mF8) = 0 := by decide
theorem aN0 : aN (aOf mF8) = 0 := by decide
theorem aB0 : ∀ i, i < 2 → aB (aOf mF8) i = false := by decide
theorem uN0 : uN (mS mF8) = 0 := by decide
theorem VM_0 : VM mF8 := by
  refine ⟨by rw [aK0]; rfl, by rw [aK0]; omega, by rw [aN0]; rfl, by rw [aN0]; omega, ⟨0, by omega, rfl⟩, ?_⟩
  rw [uN0]
  refine ⟨by omega, rfl, ⟨3, by omega, rfl⟩, ⟨0, by omega, rfl⟩, fun j hj => Or.inl (if_neg (by omega)), fun i hi => absurd hi (by omega)⟩
theorem REL_0 : REL x0 := by
  refine ⟨?_, VM_0, ⟨fun i hi => ?_, fun i hi q => ?_⟩, fun i hi => ?_⟩
  · refine ⟨⟨fun j hj => (if_neg (show ¬ j = 24 by omega)).symm, fun j hj => (if_neg (show ¬ 6 + j = 24 by omega)).symm, rfl, rfl, rfl, fun i k hi _ => ?_, [], ?_, ?_⟩, ⟨0, by omega, ?_, rfl, by show aK (aOf mF8) ≤ 6; rw [aK0]; omega, fun i hi => ?_⟩, fun i hi => ⟨?_, fun q => ?_⟩, ?_, by show aN (aOf mF8) ≤ 80; rw [aN0]; omega, fun i hi => ?_⟩
    · have hi2 : i < uN (mS mF8) := hi
      rw [uN0] at hi2; omega
    · exact ⟨by simp, rfl, 0, by omega, rfl, fun k p hk => by simp at hk⟩
    · exact ⟨by simp, rfl, fun k p hk => by simp at hk⟩
    · show (0 : Int32) = nI (aK (aOf mF8)); rw [aK0]; rfl
    · have hi2 : i < aK (aOf mF8) := hi
      rw [aK0] at hi2; omega
    · show (0 : Int32) = bI (aB (aOf mF8) i); rw [aB0 i hi]; rfl
    · have q2 : aB (aOf mF8) i = true := q
      rw [aB0 i hi] at q2; cases q2
    · show (0 : Int32) = nI (aN (aOf mF8)); rw [aN0]; rfl
    · have hi2 : i < aN (aOf mF8) := hi
      rw [aN0] at hi2; omega
  · have hi2 : i < aK (aOf mF8) := hi
    rw [aK0] at hi2; omega
  · have q2 : aB (aOf mF8) i = true := q
    rw [aB0 i hi] at q2; cases q2
  · have hi2 : i < aN (aOf mF8) := hi
    rw [aN0] at hi2; omega
