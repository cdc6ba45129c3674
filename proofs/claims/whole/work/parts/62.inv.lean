/-! ===== BETWEEN THE CALLS: the class and the model hold the same abstract machine ===== -/
theorem RS.E {σ : SS} {s t : Nat → Int32} (h : RS σ s) (hu : uN s ≤ 8) (e : E132 s t) : RS σ t := by
  show RS1 σ t (t 98)
  rw [← e 98 (by omega)]
  exact RS1.E h hu e
theorem RC.E {a b : AM} {c : CW} (h : RC a c) (e : AE a b) (hu : uN (aS a) ≤ 8) (hA : VA a) : RC b c := by
  obtain ⟨h1, ⟨nx, n1, n2, n3, n4, n5⟩, h3, h4, h5, h6⟩ := h
  obtain ⟨e1, e2, e3, e4, e5, e6, e7⟩ := e
  refine ⟨h1.E hu e1, ⟨nx, n1, by rw [← e2]; exact n2, n3, by omega, fun i hi => ?_⟩, fun i hi => ⟨by rw [← e4 i hi]; exact (h3 i hi).1, fun q => ?_⟩, by rw [← e6]; exact h4, by omega, fun i hi => ?_⟩
  · rw [← e2] at hi ⊢
    exact (n5 i hi).E (hA.1 i hi).1 (e3 i hi)
  · rw [← e4 i hi] at q
    exact ((h3 i hi).2 q).E (hA.2 i hi q).1 (e5 i hi q)
  · rw [← e6] at hi
    exact (h6 i hi).trans (e7 i hi)
theorem VA.E {a b : AM} (h : VA a) (e : AE a b) : VA b := by
  obtain ⟨e1, e2, e3, e4, e5, e6, e7⟩ := e
  refine ⟨fun i hi => ?_, fun i hi q => ?_⟩
  · rw [← e2] at hi
    exact VS.EE (h.1 i hi) (e3 i hi)
  · rw [← e4 i hi] at q
    exact VS.EE (h.2 i hi q) (e5 i hi q)
theorem VT.E {a b : AM} (h : VT a) (e : AE a b) : VT b := by
  obtain ⟨e1, e2, e3, e4, e5, e6, e7⟩ := e
  intro i hi
  rw [← e6] at hi
  rw [← e7 i hi]
  exact h i hi
abbrev GO (a : AM) : Prop := VA a ∧ VT a
abbrev HG (a : AM) : Prop := VS (uN (aS a)) (aS a) ∧ VA a ∧ VT a
theorem recH_ok {a : AM} (h : HG a) : ∀ i, i < (recH a (aS a)).1 → VS (uN ((recH a (aS a)).2 i)) ((recH a (aS a)).2 i) := by
  intro i hi
  unfold recH at hi ⊢
  by_cases e : aK a = 6
  · rw [if_pos e] at hi ⊢
    show VS (uN (if i = 5 then aS a else aH a (i + 1))) (if i = 5 then aS a else aH a (i + 1))
    have hi2 : i < 6 := hi
    by_cases e2 : i = 5
    · rw [if_pos e2]; exact h.1
    · rw [if_neg e2]; exact h.2.1.1 _ (by omega)
  · rw [if_neg e] at hi ⊢
    show VS (uN (if i = aK a then aS a else aH a i)) (if i = aK a then aS a else aH a i)
    have hi2 : i < aK a + 1 := hi
    by_cases e2 : i = aK a
    · rw [if_pos e2]; exact h.1
    · rw [if_neg e2]; exact h.2.1.1 _ (by omega)
theorem GO_self {a : AM} (h : HG a) : GO a := h.2
theorem GO_rec {a : AM} (h : HG a) (s : Nat → Int32) : GO (s, recH a (aS a), a.2.2) := ⟨⟨recH_ok h, h.2.1.2⟩, h.2.2⟩
theorem go_hasRow {a : AM} (h : HG a) (r : Int32) : GO (shasRow a r).2.2 := by
  unfold shasRow
  repeat' (first | exact GO_self h | exact GO_rec h _ | split)
theorem go_valueAt {a : AM} (h : HG a) (r c : Int32) : GO (svalueAt a r c).2.2 := by
  unfold svalueAt
  repeat' (first | exact GO_self h | exact GO_rec h _ | split)
theorem go_actionOf {a : AM} (h : HG a) (r : Int32) : GO (sactionOf a r).2.2 := by
  unfold sactionOf
  repeat' (first | exact GO_self h | exact GO_rec h _ | split)
theorem go_actsOf {a : AM} (h : HG a) (r : Int32) : GO (sactsOf a r).2.2 := by
  unfold sactsOf
  repeat' (first | exact GO_self h | exact GO_rec h _ | split)
theorem go_isMuted {a : AM} (h : HG a) (r : Int32) : GO (sisMuted a r).2.2 := by
  unfold sisMuted
  repeat' (first | exact GO_self h | exact GO_rec h _ | split)
theorem go_loggedRule {a : AM} (h : HG a) (r : Int32) : GO (sloggedRule a r).2.2 := by
  unfold sloggedRule
  repeat' (first | exact GO_self h | exact GO_rec h _ | split)
theorem go_loggedDepth {a : AM} (h : HG a) (r : Int32) : GO (sloggedDepth a r).2.2 := by
  unfold sloggedDepth
  repeat' (first | exact GO_self h | exact GO_rec h _ | split)
theorem go_ruleCount {a : AM} (h : HG a) : GO (sruleCount a ).2.2 := by
  unfold sruleCount
  repeat' (first | exact GO_self h | exact GO_rec h _ | split)
theorem go_eventCount {a : AM} (h : HG a) : GO (seventCount a ).2.2 := by
  unfold seventCount
  repeat' (first | exact GO_self h | exact GO_rec h _ | split)
theorem go_logSize {a : AM} (h : HG a) : GO (slogSize a ).2.2 := by
  unfold slogSize
  repeat' (first | exact GO_self h | exact GO_rec h _ | split)
theorem go_rowCount {a : AM} (h : HG a) : GO (srowCount a ).2.2 := by
  unfold srowCount
  repeat' (first | exact GO_self h | exact GO_rec h _ | split)
theorem go_textLength {a : AM} (h : HG a) : GO (stextLength a ).2.2 := by
  unfold stextLength
  repeat' (first | exact GO_self h | exact GO_rec h _ | split)
theorem go_undoCount {a : AM} (h : HG a) : GO (sundoCount a ).2.2 := by
  unfold sundoCount
  repeat' (first | exact GO_self h | exact GO_rec h _ | split)
theorem go_setDepth {a : AM} (h : HG a) (r : Int32) : GO (ssetDepth a r).2.2 := by
  unfold ssetDepth
  repeat' (first | exact GO_self h | exact GO_rec h _ | split)
theorem go_turnMute {a : AM} (h : HG a) (r : Int32) : GO (sturnMute a r).2.2 := by
  unfold sturnMute
  repeat' (first | exact GO_self h | exact GO_rec h _ | split)
theorem go_setAction {a : AM} (h : HG a) (r k ro c m : Int32) : GO (ssetAction a r k ro c m).2.2 := by
  unfold ssetAction
  repeat' (first | exact GO_self h | exact GO_rec h _ | split)
theorem go_addRule {a : AM} (h : HG a) (e c l : Int32) : GO (saddRule a e c l).2.2 := by
  unfold saddRule
  repeat' (first | exact GO_self h | exact GO_rec h _ | split)
theorem go_loadState {a : AM} (h : HG a) (r : Int32) : GO (sloadState a r).2.2 := by
  unfold sloadState
  repeat' (first | exact GO_self h | exact GO_rec h _ | split)
theorem go_insert {a : AM} (h : HG a) (r p q w : Int32) : GO (sinsert a r p q w).2.2 := by
  unfold sinsert stA
  repeat' (first | exact GO_self h | exact GO_rec h _ | split)
theorem go_update {a : AM} (h : HG a) (r c v : Int32) : GO (supdate a r c v).2.2 := by
  unfold supdate stA
  repeat' (first | exact GO_self h | exact GO_rec h _ | split)
theorem go_remove {a : AM} (h : HG a) (r : Int32) : GO (sremove a r).2.2 := by
  unfold sremove stA
  repeat' (first | exact GO_self h | exact GO_rec h _ | split)
theorem go_whyNotUpdate {a : AM} (h : HG a) (r c v : Int32) : GO (swhyNotUpdate a r c v).2.2 := by
  unfold swhyNotUpdate
  repeat' (first | exact GO_self h | exact GO_rec h _ | split)
theorem go_eventsOfUpdate {a : AM} (h : HG a) (r c v : Int32) : GO (seventsOfUpdate a r c v).2.2 := by
  unfold seventsOfUpdate
  repeat' (first | exact GO_self h | exact GO_rec h _ | split)
theorem go_depthOfUpdate {a : AM} (h : HG a) (r c v : Int32) : GO (sdepthOfUpdate a r c v).2.2 := by
  unfold sdepthOfUpdate
  repeat' (first | exact GO_self h | exact GO_rec h _ | split)
theorem go_sumOf {a : AM} (h : HG a) (c : Int32) : GO (ssumOf a c).2.2 := by
  unfold ssumOf
  repeat' (first | exact GO_self h | exact GO_rec h _ | split)
theorem go_canSetOff {a : AM} (h : HG a) (r q : Int32) : GO (scanSetOff a r q).2.2 := by
  unfold scanSetOff
  repeat' (first | exact GO_self h | exact GO_rec h _ | split)
theorem go_reachOf {a : AM} (h : HG a) (r : Int32) : GO (sreachOf a r).2.2 := by
  unfold sreachOf
  repeat' (first | exact GO_self h | exact GO_rec h _ | split)
theorem go_reachByTable {a : AM} (h : HG a) (r : Int32) : GO (sreachByTable a r).2.2 := by
  unfold sreachByTable sreachOf
  repeat' (first | exact GO_self h | exact GO_rec h _ | split)
theorem go_circularRules {a : AM} (h : HG a) : GO (scircularRules a ).2.2 := by
  unfold scircularRules
  repeat' (first | exact GO_self h | exact GO_rec h _ | split)
theorem go_dropRule {a : AM} (h : HG a) (r : Int32) : GO (sdropRule a r).2.2 := by
  unfold sdropRule
  repeat' (first | exact GO_self h | exact GO_rec h _ | split)
theorem go_textError {a : AM} (h : HG a) : GO (stextError a ).2.2 := by
  unfold stextError
  repeat' (first | exact GO_self h | exact GO_rec h _ | split)
theorem go_undo {a : AM} (h : HG a) : GO (sundo a).2.2 := by
  unfold sundo
  split
  · exact GO_self h
  · exact ⟨⟨fun i hi => h.2.1.1 i (by have hi2 : i < aK a - 1 := hi; omega), h.2.1.2⟩, h.2.2⟩
theorem go_saveState {a : AM} (h : HG a) (r : Int32) : GO (ssaveState a r).2.2 := by
  unfold ssaveState
  split
  · exact GO_self h
  · refine ⟨⟨h.2.1.1, fun i hi q => ?_⟩, h.2.2⟩
    show VS (uN (if i = r.toNatClampNeg then aS a else aL a i)) (if i = r.toNatClampNeg then aS a else aL a i)
    have q2 : (if i = r.toNatClampNeg then true else aB a i) = true := q
    by_cases e : i = r.toNatClampNeg
    · rw [if_pos e]; exact h.1
    · rw [if_neg e] at q2 ⊢; exact h.2.1.2 i hi q2
theorem go_clearText {a : AM} (h : HG a) : GO (sclearText a).2.2 := ⟨h.2.1, fun i hi => absurd (show i < 0 from hi) (by omega)⟩
theorem go_runText {a : AM} (h : HG a) : GO (srunText a).2.2 := by
  unfold srunText
  split
  · exact GO_self h
  · exact ⟨⟨recH_ok h, h.2.1.2⟩, fun i hi => absurd (show i < 0 from hi) (by omega)⟩
theorem apT_ok {t : Nat → Int32} {n c v : Nat} (ht : ∀ i, i < n → ∃ c, c < 65536 ∧ t i = nI c) : ∀ k i, i < n + c → (i < n ∨ c ≤ k + (i - n) ∨ True) → True := fun _ _ _ _ => trivial
