/-! ===== AN UPDATE COMES AS IT WAS TOLD; IT IS UNDONE ===== -/
theorem pw_ist14 {M : Mth} {d n pc : Nat} {ls : List (Option Value)} {st : List Value} {h : Hp} {Q : Out → Hp → Prop} {a0 a1 a2 a3 a4 a5 a6 a7 a8 a9 a10 a11 a12 a13 z : Option Value} {x : Int32} (hd : decode (mC M) pc = .ok (.istore 14, 2)) (hp : nlong a13 = true) (hn : 14 < mL M) (kk : PW M d n (pc + 2) (a0 :: a1 :: a2 :: a3 :: a4 :: a5 :: a6 :: a7 :: a8 :: a9 :: a10 :: a11 :: a12 :: a13 :: some (.int x) :: ls) st h Q) : PW M d n pc (a0 :: a1 :: a2 :: a3 :: a4 :: a5 :: a6 :: a7 :: a8 :: a9 :: a10 :: a11 :: a12 :: a13 :: z :: ls) (.int x :: st) h Q :=
  pw_istore (k := 14) hd (fun j hj w hw => by cases hj; rw [show (a0 :: a1 :: a2 :: a3 :: a4 :: a5 :: a6 :: a7 :: a8 :: a9 :: a10 :: a11 :: a12 :: a13 :: z :: ls)[13]? = some a13 from rfl] at hw; cases hw; exact hp) hn rfl kk
def kM (k : Nat) : Nat := if k = 6 then 5 else k
theorem recH_top (a : AM) (s : ST) : (recH a s).1 - 1 = kM (aK a) ∧ (recH a s).2 ((recH a s).1 - 1) = s ∧ 0 < (recH a s).1 := by
  unfold recH kM
  by_cases e : aK a = 6
  · rw [if_pos e, if_pos e]
    exact ⟨rfl, rfl, Nat.succ_pos _⟩
  · rw [if_neg e, if_neg e]
    exact ⟨rfl, if_pos rfl, Nat.succ_pos _⟩
/-- what was recorded comes back -/
theorem undo_rec (a : AM) (S : ST) : ∃ H, sundo (S, recH a (aS a), a.2.2) = (0, nI (kM (aK a)), (aS a, (kM (aK a), H), a.2.2)) ∧ kM (aK a) < (recH a (aS a)).1 ∧ H = (recH a (aS a)).2 := by
  obtain ⟨h1, h2, h3⟩ := recH_top a (aS a)
  refine ⟨(recH a (aS a)).2, ?_, by omega, rfl⟩
  show (if (recH a (aS a)).1 = 0 then ((1 : Int32), (0 : Int32), ((S, recH a (aS a), a.2.2) : AM)) else (0, nI ((recH a (aS a)).1 - 1), ((recH a (aS a)).2 ((recH a (aS a)).1 - 1), ((recH a (aS a)).1 - 1, (recH a (aS a)).2), a.2.2))) = _
  rw [if_neg (by omega), h2, h1]
theorem kM_le {k : Nat} (h : k ≤ 6) : kM k < 2 ^ 31 := by unfold kM; split <;> omega
/-- the one object after an act and its undoing -/
theorem undo_HG {a : AM} (hg : HGA a) {H : Nat → Nat → Int32} (hk : kM (aK a) < (recH a (aS a)).1) (hH : H = (recH a (aS a)).2) : HGA (aS a, (kM (aK a), H), a.2.2) := by
  refine ⟨hg.1, fun i hi => ?_, hg.2.2⟩
  have hi2 : i < kM (aK a) := hi
  have q := recH_ok hg i (by omega)
  subst hH
  exact q
theorem ct_u (x : XW) {a : AM} (S : ST) {y : Int32} (hc : RC (S, recH a (aS a), a.2.2) x.1) (hv : VS (uN S) S) (hg : HGA a) : CT MX7_undo 30 6 [.ref 160] (hp x) (CQ [(1, "java/lang/IllegalStateException")] x (sundo (S, recH a (aS a), a.2.2))) :=
  ct_X7_undo x (S, recH a (aS a), a.2.2) hc hv ⟨recH_ok hg, hg.2.2⟩
section UPD
variable {a : AM} {r c v : Nat}
theorem tu_0 (hr : r < 4) (hc : c < 3) (hv : v < 1000) : tuC (nI r) (nI c) (nI v) = 0 := by
  unfold tuC
  rw [if_neg (ne_f (show inR (nI r) 0 5 = true from inR_t (n := 5) (by omega) (by decide))), if_neg (ne_f (show inR (nI c) 0 2 = true from inR_t (n := 2) (by omega) (by decide))), if_neg (ne_f (show inR (nI v) 0 999 = true from inR_t (n := 999) (by omega) (by decide)))]
theorem tu_R (hr : r < 4) (hc : c < 3) : tuR a (nI r) (nI c) (nI v) = updR (uN (aS a)) (aS a) r c (nI v) := by
  unfold tuR
  rw [nI_clamp (by omega), nI_clamp (by omega)]
theorem tu_upd (hr : r < 4) (hc : c < 3) (hv : v < 1000) : supdate a (nI r) (nI c) (nI v) = stA a (updR (uN (aS a)) (aS a) r c (nI v)) 3 := by
  unfold supdate
  rw [if_neg (ne_f (show inR (nI r) 0 5 = true from inR_t (n := 5) (by omega) (by decide))), if_neg (ne_f (show inR (nI c) 0 2 = true from inR_t (n := 2) (by omega) (by decide))), if_neg (ne_f (show inR (nI v) 0 999 = true from inR_t (n := 999) (by omega) (by decide))), nI_clamp (by omega), nI_clamp (by omega)]
/-- the three tellings, from the statement's end T -/
theorem tu_why {T : TT} (hT : updR (uN (aS a)) (aS a) r c (nI v) = T) (hr : r < 4) (hc : c < 3) (hv : v < 1000) : swhyNotUpdate a (nI r) (nI c) (nI v) = (0, T.2.2.2, a) := by
  unfold swhyNotUpdate
  rw [tu_0 hr hc hv, if_pos rfl, tu_R hr hc, hT]
theorem tu_ev {T : TT} (hT : updR (uN (aS a)) (aS a) r c (nI v) = T) (hr : r < 4) (hc : c < 3) (hv : v < 1000) : seventsOfUpdate a (nI r) (nI c) (nI v) = (0, if T.2.2.2 ≤ 0 then T.2.1 else -1, a) := by
  unfold seventsOfUpdate
  rw [tu_0 hr hc hv, if_pos rfl, tu_R hr hc, hT]
theorem tu_de {T : TT} (hT : updR (uN (aS a)) (aS a) r c (nI v) = T) (hr : r < 4) (hc : c < 3) (hv : v < 1000) : sdepthOfUpdate a (nI r) (nI c) (nI v) = (0, if T.2.2.2 ≤ 0 then T.2.2.1 else -1, a) := by
  unfold sdepthOfUpdate
  rw [tu_0 hr hc hv, if_pos rfl, tu_R hr hc, hT]
theorem tu_bad {T : TT} (hT : updR (uN (aS a)) (aS a) r c (nI v) = T) (hr : r < 4) (hc : c < 3) (hv : v < 1000) (h : ¬ T.2.2.2 = 0) : prj 1 2 3 (supdate a (nI r) (nI c) (nI v)) = (3, 0, aS a) := by
  rw [tu_upd hr hc hv, hT, stA_bad 3 (decide_eq_false h)]
  show ((if (3 : Int32) = 0 then 0 else if (3 : Int32) = 1 then 1 else if (3 : Int32) = 2 then 2 else 3), (0 : Int32), aS a) = _
  rfl
theorem tu_ok {T : TT} (hT : updR (uN (aS a)) (aS a) r c (nI v) = T) (hr : r < 4) (hc : c < 3) (hv : v < 1000) (h : T.2.2.2 = 0) : prj 1 2 3 (supdate a (nI r) (nI c) (nI v)) = (0, T.2.1, fin T (aS a)) := by
  rw [tu_upd hr hc hv, hT, stA_ok 3 (decide_eq_true h)]
  rfl
end UPD
/-- what holds of an update's end T that isn't refused: S: the new numbers, k: its events -/
def UO (s : ST) (T : TT) (k : Nat) : Prop := T.2.1 = nI k ∧ k ≤ 100 ∧ (fin T s) 98 = s 98 + nI k ∧ (∃ p q, p ≤ q ∧ q ≤ 16 ∧ s 99 = nI p ∧ (fin T s) 99 = nI q) ∧ uN (fin T s) = uN s ∧ (fin T s) 25 = nI (uN s) ∧ (uN s = 0 → k ≤ 1)
theorem UO_of {B : Nat} {s : ST} {T : TT} {k : Nat} (hT : SI2 B (uN s) s T) (h0 : T.2.2.2 = 0) (hk : T.2.1 = nI k) (hk1 : k ≤ 100) (hu : uN s = 0 → k ≤ 1) : UO s T k := by
  have ef : fin T s = upd T.1 98 (T.1 98 + T.2.1) := if_pos h0
  obtain ⟨h1, h2, p, q, h3, h4, h5, h6⟩ := hT
  have e25 : fin T s 25 = nI (uN s) := by rw [ef, upd_nt _ _ (by decide)]; exact h1.1.2.1
  refine ⟨hk, hk1, by rw [ef, upd_at, h2, hk], ⟨p, q, h3, h4, h5, by rw [ef, upd_nt _ _ (by decide)]; exact h6⟩, ?_, e25, hu⟩
  have hu8 := h1.1.1
  unfold uN at e25 ⊢
  rw [e25, nI_clamp (by unfold uN at hu8; omega)]
set_option maxRecDepth 100000 in
set_option maxHeartbeats 4000000 in
theorem ct_L_uso_bad (x : XW) {a b : AM} {w : Int32} (hW : W2 a b w x) (hg : HGA a) {B : Nat} (iv : IV B (aS a)) {r c v : Nat} (hr : r < 4) (hc : c < 3) (hv9 : v < 1000) {T : TT} {k : Nat} (hT : updR (uN (aS a)) (aS a) r c (nI v) = T) (hk : T.2.2.2 = nI k) (hk1 : 1 ≤ k) (hk5 : k ≤ 5) (had : Bool) (h1 : k = 1 ↔ had = false) (hrow : aS a r = if had = true then 1 else 0) (hne : had = true → ¬ aS a (6 + 3 * r + c) = nI v) : CT ML_isUpdateSo 33 30 [.ref 160, .int (nI r), .int (nI c), .int (nI v), .ref 171] (hp x) (fun o h2 => ∃ y a2 w2, h2 = hp y ∧ W2 a2 b w2 y ∧ aS a2 = aS a ∧ HGA a2 ∧ o = .inl (some (.int 1))) := by
  refine ct_of (by decide +kernel) (by decide) rfl (k := 10) (ls := [some (.ref 160), some (.int (nI r)), some (.int (nI c)), some (.int (nI v)), some (.ref 171), none, none, none, none, none, none, none, none, none, none]) rfl (Nat.le_of_ble_eq_true rfl) ?_
  have hv := hg.1
  have kne : ¬ nI k = 0 := fun q => by have := (nI_eq (b := 0) (by omega) (by decide)).mp q; omega
  have kle : ¬ nI k ≤ 0 := fun q => by have := (nI_leI (b := 0) (by omega) (by decide)).mp q; omega
  cases had with
  | false =>
    have k1 : nI k = 1 := by rw [h1.mpr rfl]; rfl
    refine pw_aload_n (tk tkL_isUpdateSo 0 rfl) rfl ?_
    refine pw_iload_n (tk tkL_isUpdateSo 1 rfl) rfl ?_
    refine pw_iload_n (tk tkL_isUpdateSo 2 rfl) rfl ?_
    refine pw_iload_n (tk tkL_isUpdateSo 3 rfl) rfl ?_
    have z9 := tu_why hT hr hc hv9
    refine rdO (v := nI k) hW (ct_X7_whyNotUpdate x a hW.1 hv _ _ _) (by rw [z9]) nz2 (by rw [z9]; exact hk) okX7_whyNotUpdate (tk tkL_isUpdateSo 4 rfl) mkL_113 imX7_whyNotUpdate seX7_whyNotUpdate rfl rfl rfl (by decide) (by decide) (Nat.le_of_ble_eq_true rfl) (fun x hW => ?_)
    rw [z9] at hW
    clear z9
    refine pw_ist5 (tk tkL_isUpdateSo 5 rfl) rfl (by decide) ?_
    refine pw_aload_n (tk tkL_isUpdateSo 6 rfl) rfl ?_
    refine pw_iload_n (tk tkL_isUpdateSo 7 rfl) rfl ?_
    refine pw_iload_n (tk tkL_isUpdateSo 8 rfl) rfl ?_
    refine pw_iload_n (tk tkL_isUpdateSo 9 rfl) rfl ?_
    have z9 := tu_ev hT hr hc hv9
    refine rdO (v := -1) hW (ct_X7_eventsOfUpdate x a hW.1 hv _ _ _) (by rw [z9]) nz2 (by rw [z9]; exact if_neg (by rw [hk]; exact kle)) okX7_eventsOfUpdate (tk tkL_isUpdateSo 10 rfl) mkL_116 imX7_eventsOfUpdate seX7_eventsOfUpdate rfl rfl rfl (by decide) (by decide) (Nat.le_of_ble_eq_true rfl) (fun x hW => ?_)
    rw [z9] at hW
    clear z9
    refine pw_ist6 (tk tkL_isUpdateSo 11 rfl) rfl (by decide) ?_
    refine pw_aload_n (tk tkL_isUpdateSo 12 rfl) rfl ?_
    refine pw_iload_n (tk tkL_isUpdateSo 13 rfl) rfl ?_
    refine pw_iload_n (tk tkL_isUpdateSo 14 rfl) rfl ?_
    refine pw_iload_n (tk tkL_isUpdateSo 15 rfl) rfl ?_
    have z9 := tu_de hT hr hc hv9
    refine rdO (v := -1) hW (ct_X7_depthOfUpdate x a hW.1 hv _ _ _) (by rw [z9]) nz2 (by rw [z9]; exact if_neg (by rw [hk]; exact kle)) okX7_depthOfUpdate (tk tkL_isUpdateSo 16 rfl) mkL_119 imX7_depthOfUpdate seX7_depthOfUpdate rfl rfl rfl (by decide) (by decide) (Nat.le_of_ble_eq_true rfl) (fun x hW => ?_)
    rw [z9] at hW
    clear z9
    refine pw_ist7 (tk tkL_isUpdateSo 17 rfl) rfl (by decide) ?_
    refine pw_aload_n (tk tkL_isUpdateSo 18 rfl) rfl ?_
    refine rO_eventCount hW hv  (v := aS a 98) rfl rfl (tk tkL_isUpdateSo 19 rfl) (by decide) (Nat.le_of_ble_eq_true rfl) (fun x hW => ?_)
    refine pw_ist8 (tk tkL_isUpdateSo 20 rfl) rfl (by decide) ?_
    refine pw_aload_n (tk tkL_isUpdateSo 21 rfl) rfl ?_
    refine rO_logSize hW hv  (v := aS a 99) rfl rfl (tk tkL_isUpdateSo 22 rfl) (by decide) (Nat.le_of_ble_eq_true rfl) (fun x hW => ?_)
    refine pw_ist9 (tk tkL_isUpdateSo 23 rfl) rfl (by decide) ?_
    refine pw_aload_n (tk tkL_isUpdateSo 24 rfl) rfl ?_
    refine rO_undoCount hW hv  (v := nI (aK a)) rfl rfl (tk tkL_isUpdateSo 25 rfl) (by decide) (Nat.le_of_ble_eq_true rfl) (fun x hW => ?_)
    refine pw_ist10 (tk tkL_isUpdateSo 26 rfl) rfl (by decide) ?_
    refine pw_aload_n (tk tkL_isUpdateSo 27 rfl) rfl ?_
    refine pw_iload_n (tk tkL_isUpdateSo 28 rfl) rfl ?_
    refine rO_hasRow hW hv (inR_r (n := 5) (show r ≤ 5 by omega) (by decide)) ((v_hasRow (show r < 6 by omega)).trans (show (if aS a r = 1 then (1 : Int32) else 0) = 0 by rw [hrow] <;> rfl)) rfl (tk tkL_isUpdateSo 29 rfl) (by decide) (Nat.le_of_ble_eq_true rfl) (fun x hW => ?_)
    refine pw_ist11 (tk tkL_isUpdateSo 30 rfl) rfl (by decide) ?_
    refine pw_iload (tk tkL_isUpdateSo 31 rfl) rfl ?_
    refine pw_if_eq (tgt := 71) (tk tkL_isUpdateSo 32 rfl) (by decide) (fun c54 => ?_) (fun c54 => c54 (by decide) |>.elim)
    refine pw_iconst (v := 0) (tk tkL_isUpdateSo 41 rfl) (by decide) ?_
    refine pw_ist12 (tk tkL_isUpdateSo 42 rfl) rfl (by decide) ?_
    refine pw_aload_n (tk tkL_isUpdateSo 43 rfl) rfl ?_
    refine pw_iconst (v := 4) (tk tkL_isUpdateSo 44 rfl) (by decide) ?_
    refine pw_iload_n (tk tkL_isUpdateSo 45 rfl) rfl ?_
    refine pw_iload_n (tk tkL_isUpdateSo 46 rfl) rfl ?_
    refine pw_iload_n (tk tkL_isUpdateSo 47 rfl) rfl ?_
    refine pw_aload (tk tkL_isUpdateSo 48 rfl) rfl ?_
    refine pw_callSW (k := 6) (ct_L_update x hW hg _ _ _) rfl (List.cons_ne_nil _ _) cwL_changes iiL ⟨by decide +kernel, by decide +kernel, by decide +kernel⟩ (by decide) (tk tkL_isUpdateSo 49 rfl) mkL_55 stL_changes rfl rfl (by decide) (by decide) (Nat.le_of_ble_eq_true rfl) (fun r9 h9 q9 => ?_)
    rw [tu_bad hT hr hc hv9 (by rw [hk]; exact kne)] at q9
    obtain ⟨x, rfl, g1, g2, e, g3⟩ := q9
    cases e
    show PW ML_isUpdateSo 33 _ _ _ [.int 3] (hp x) _
    have hW : W2 a b (x.2.2 0) x := ⟨g1, g2, rfl⟩
    refine pw_ist13 (tk tkL_isUpdateSo 50 rfl) rfl (by decide) ?_
    refine pw_iload (tk tkL_isUpdateSo 51 rfl) rfl ?_
    refine pw_iload (tk tkL_isUpdateSo 52 rfl) rfl ?_
    refine pw_if_ne (tgt := 97) (tk tkL_isUpdateSo 53 rfl) (by decide) (fun c90 => ?_) (fun c90 => absurd c90 kne)
    refine pw_iconst (v := 3) (tk tkL_isUpdateSo 56 rfl) (by decide) ?_
    refine pw_icmp_ne (tgt := 229) (tk tkL_isUpdateSo 57 rfl) (by decide) (fun c98 => absurd (by decide) c98) (fun c98 => ?_)
    refine pw_iload (tk tkL_isUpdateSo 58 rfl) rfl ?_
    refine pw_iconst (v := 1) (tk tkL_isUpdateSo 59 rfl) (by decide) ?_
    refine pw_icmp_ne (tgt := 111) (tk tkL_isUpdateSo 60 rfl) (by decide) (fun c104 => absurd k1 c104) (fun c104 => ?_)
    refine pw_iconst (v := 1) (tk tkL_isUpdateSo 61 rfl) (by decide) ?_
    refine pw_goto (tgt := 112) (tk tkL_isUpdateSo 62 rfl) (by decide) ?_
    refine pw_iload (tk tkL_isUpdateSo 64 rfl) rfl ?_
    refine pw_if_ne (tgt := 121) (tk tkL_isUpdateSo 65 rfl) (by decide) (fun c114 => c114 (by decide) |>.elim) (fun c114 => ?_)
    refine pw_iconst (v := 1) (tk tkL_isUpdateSo 66 rfl) (by decide) ?_
    refine pw_goto (tgt := 122) (tk tkL_isUpdateSo 67 rfl) (by decide) ?_
    refine pw_icmp_ne (tgt := 229) (tk tkL_isUpdateSo 69 rfl) (by decide) (fun c122 => absurd (by decide) c122) (fun c122 => ?_)
    refine pw_iload (tk tkL_isUpdateSo 70 rfl) rfl ?_
    refine pw_if_eq (tgt := 140) (tk tkL_isUpdateSo 71 rfl) (by decide) (fun c127 => ?_) (fun c127 => c127 (by decide) |>.elim)
    refine pw_iload (tk tkL_isUpdateSo 76 rfl) rfl ?_
    refine pw_if_ne (tgt := 206) (tk tkL_isUpdateSo 77 rfl) (by decide) (fun c142 => ?_) (fun c142 => absurd c142 kne)
    refine pw_iload (tk tkL_isUpdateSo 106 rfl) rfl ?_
    refine pw_iconst (v := (-1)) (tk tkL_isUpdateSo 107 rfl) (by decide) ?_
    refine pw_icmp_ne (tgt := 229) (tk tkL_isUpdateSo 108 rfl) (by decide) (fun c209 => absurd (by decide) c209) (fun c209 => ?_)
    refine pw_iload (tk tkL_isUpdateSo 109 rfl) rfl ?_
    refine pw_iconst (v := (-1)) (tk tkL_isUpdateSo 110 rfl) (by decide) ?_
    refine pw_icmp_ne (tgt := 229) (tk tkL_isUpdateSo 111 rfl) (by decide) (fun c215 => absurd (by decide) c215) (fun c215 => ?_)
    refine pw_iload (tk tkL_isUpdateSo 112 rfl) rfl ?_
    refine pw_bipush (v := 6) (tk tkL_isUpdateSo 113 rfl) (by decide) ?_
    refine pw_icmp_ge (tgt := 229) (tk tkL_isUpdateSo 114 rfl) (by decide) (fun c222 => absurd c222 (nI_ge (b := 6) (by omega) (by decide))) (fun c222 => ?_)
    refine pw_iconst (v := 1) (tk tkL_isUpdateSo 115 rfl) (by decide) ?_
    refine pw_goto (tgt := 230) (tk tkL_isUpdateSo 116 rfl) (by decide) ?_
    refine pw_ist14 (tk tkL_isUpdateSo 118 rfl) rfl (by decide) ?_
    refine pw_iload (tk tkL_isUpdateSo 119 rfl) rfl ?_
    refine pw_if_eq (tgt := 275) (tk tkL_isUpdateSo 120 rfl) (by decide) (fun c234 => absurd c234 (by decide)) (fun c234 => ?_)
    refine pw_iload (tk tkL_isUpdateSo 121 rfl) rfl ?_
    refine pw_if_eq (tgt := 273) (tk tkL_isUpdateSo 122 rfl) (by decide) (fun c239 => absurd c239 (by decide)) (fun c239 => ?_)
    refine pw_aload_n (tk tkL_isUpdateSo 123 rfl) rfl ?_
    refine rO_eventCount hW hv  (v := aS a 98) rfl rfl (tk tkL_isUpdateSo 124 rfl) (by decide) (Nat.le_of_ble_eq_true rfl) (fun x hW => ?_)
    refine pw_iload (tk tkL_isUpdateSo 125 rfl) rfl ?_
    refine pw_icmp_ne (tgt := 273) (tk tkL_isUpdateSo 126 rfl) (by decide) (fun c248 => absurd rfl c248) (fun c248 => ?_)
    refine pw_aload_n (tk tkL_isUpdateSo 127 rfl) rfl ?_
    refine rO_logSize hW hv  (v := aS a 99) rfl rfl (tk tkL_isUpdateSo 128 rfl) (by decide) (Nat.le_of_ble_eq_true rfl) (fun x hW => ?_)
    refine pw_iload (tk tkL_isUpdateSo 129 rfl) rfl ?_
    refine pw_icmp_ne (tgt := 273) (tk tkL_isUpdateSo 130 rfl) (by decide) (fun c257 => absurd rfl c257) (fun c257 => ?_)
    refine pw_aload_n (tk tkL_isUpdateSo 131 rfl) rfl ?_
    refine rO_undoCount hW hv  (v := nI (aK a)) rfl rfl (tk tkL_isUpdateSo 132 rfl) (by decide) (Nat.le_of_ble_eq_true rfl) (fun x hW => ?_)
    refine pw_iload (tk tkL_isUpdateSo 133 rfl) rfl ?_
    refine pw_icmp_ne (tgt := 273) (tk tkL_isUpdateSo 134 rfl) (by decide) (fun c266 => absurd rfl c266) (fun c266 => ?_)
    refine pw_iconst (v := 1) (tk tkL_isUpdateSo 135 rfl) (by decide) ?_
    refine pw_goto (tgt := 274) (tk tkL_isUpdateSo 136 rfl) (by decide) ?_
    exact pw_ireturn (tk tkL_isUpdateSo 138 rfl) rfl (by decide) (by first | rfl | exact nar_bI _) ⟨_, a, _, rfl, hW, rfl, hg, rfl⟩
  | true =>
    have k1 : ¬ nI k = 1 := fun q => by have := h1.mp ((nI_eq (b := 1) (by omega) (by decide)).mp q); cases this
    refine pw_aload_n (tk tkL_isUpdateSo 0 rfl) rfl ?_
    refine pw_iload_n (tk tkL_isUpdateSo 1 rfl) rfl ?_
    refine pw_iload_n (tk tkL_isUpdateSo 2 rfl) rfl ?_
    refine pw_iload_n (tk tkL_isUpdateSo 3 rfl) rfl ?_
    have z9 := tu_why hT hr hc hv9
    refine rdO (v := nI k) hW (ct_X7_whyNotUpdate x a hW.1 hv _ _ _) (by rw [z9]) nz2 (by rw [z9]; exact hk) okX7_whyNotUpdate (tk tkL_isUpdateSo 4 rfl) mkL_113 imX7_whyNotUpdate seX7_whyNotUpdate rfl rfl rfl (by decide) (by decide) (Nat.le_of_ble_eq_true rfl) (fun x hW => ?_)
    rw [z9] at hW
    clear z9
    refine pw_ist5 (tk tkL_isUpdateSo 5 rfl) rfl (by decide) ?_
    refine pw_aload_n (tk tkL_isUpdateSo 6 rfl) rfl ?_
    refine pw_iload_n (tk tkL_isUpdateSo 7 rfl) rfl ?_
    refine pw_iload_n (tk tkL_isUpdateSo 8 rfl) rfl ?_
    refine pw_iload_n (tk tkL_isUpdateSo 9 rfl) rfl ?_
    have z9 := tu_ev hT hr hc hv9
    refine rdO (v := -1) hW (ct_X7_eventsOfUpdate x a hW.1 hv _ _ _) (by rw [z9]) nz2 (by rw [z9]; exact if_neg (by rw [hk]; exact kle)) okX7_eventsOfUpdate (tk tkL_isUpdateSo 10 rfl) mkL_116 imX7_eventsOfUpdate seX7_eventsOfUpdate rfl rfl rfl (by decide) (by decide) (Nat.le_of_ble_eq_true rfl) (fun x hW => ?_)
    rw [z9] at hW
    clear z9
    refine pw_ist6 (tk tkL_isUpdateSo 11 rfl) rfl (by decide) ?_
    refine pw_aload_n (tk tkL_isUpdateSo 12 rfl) rfl ?_
    refine pw_iload_n (tk tkL_isUpdateSo 13 rfl) rfl ?_
    refine pw_iload_n (tk tkL_isUpdateSo 14 rfl) rfl ?_
    refine pw_iload_n (tk tkL_isUpdateSo 15 rfl) rfl ?_
    have z9 := tu_de hT hr hc hv9
    refine rdO (v := -1) hW (ct_X7_depthOfUpdate x a hW.1 hv _ _ _) (by rw [z9]) nz2 (by rw [z9]; exact if_neg (by rw [hk]; exact kle)) okX7_depthOfUpdate (tk tkL_isUpdateSo 16 rfl) mkL_119 imX7_depthOfUpdate seX7_depthOfUpdate rfl rfl rfl (by decide) (by decide) (Nat.le_of_ble_eq_true rfl) (fun x hW => ?_)
    rw [z9] at hW
    clear z9
    refine pw_ist7 (tk tkL_isUpdateSo 17 rfl) rfl (by decide) ?_
    refine pw_aload_n (tk tkL_isUpdateSo 18 rfl) rfl ?_
    refine rO_eventCount hW hv  (v := aS a 98) rfl rfl (tk tkL_isUpdateSo 19 rfl) (by decide) (Nat.le_of_ble_eq_true rfl) (fun x hW => ?_)
    refine pw_ist8 (tk tkL_isUpdateSo 20 rfl) rfl (by decide) ?_
    refine pw_aload_n (tk tkL_isUpdateSo 21 rfl) rfl ?_
    refine rO_logSize hW hv  (v := aS a 99) rfl rfl (tk tkL_isUpdateSo 22 rfl) (by decide) (Nat.le_of_ble_eq_true rfl) (fun x hW => ?_)
    refine pw_ist9 (tk tkL_isUpdateSo 23 rfl) rfl (by decide) ?_
    refine pw_aload_n (tk tkL_isUpdateSo 24 rfl) rfl ?_
    refine rO_undoCount hW hv  (v := nI (aK a)) rfl rfl (tk tkL_isUpdateSo 25 rfl) (by decide) (Nat.le_of_ble_eq_true rfl) (fun x hW => ?_)
    refine pw_ist10 (tk tkL_isUpdateSo 26 rfl) rfl (by decide) ?_
    refine pw_aload_n (tk tkL_isUpdateSo 27 rfl) rfl ?_
    refine pw_iload_n (tk tkL_isUpdateSo 28 rfl) rfl ?_
    refine rO_hasRow hW hv (inR_r (n := 5) (show r ≤ 5 by omega) (by decide)) ((v_hasRow (show r < 6 by omega)).trans (show (if aS a r = 1 then (1 : Int32) else 0) = 1 by rw [hrow] <;> rfl)) rfl (tk tkL_isUpdateSo 29 rfl) (by decide) (Nat.le_of_ble_eq_true rfl) (fun x hW => ?_)
    refine pw_ist11 (tk tkL_isUpdateSo 30 rfl) rfl (by decide) ?_
    refine pw_iload (tk tkL_isUpdateSo 31 rfl) rfl ?_
    refine pw_if_eq (tgt := 71) (tk tkL_isUpdateSo 32 rfl) (by decide) (fun c54 => absurd c54 (by decide)) (fun c54 => ?_)
    refine pw_aload_n (tk tkL_isUpdateSo 33 rfl) rfl ?_
    refine pw_iload_n (tk tkL_isUpdateSo 34 rfl) rfl ?_
    refine pw_iload_n (tk tkL_isUpdateSo 35 rfl) rfl ?_
    refine rO_valueAt hW hv (inR_r (n := 5) (show r ≤ 5 by omega) (by decide)) (inR_r (n := 2) (show c ≤ 2 by omega) (by decide)) (by rw [nI_clamp (by omega), hrow]; decide) (v_valueAt (show r < 6 by omega) hc (by rw [hrow]; decide)) rfl (tk tkL_isUpdateSo 36 rfl) (by decide) (Nat.le_of_ble_eq_true rfl) (fun x hW => ?_)
    refine pw_iload_n (tk tkL_isUpdateSo 37 rfl) rfl ?_
    refine pw_icmp_ne (tgt := 71) (tk tkL_isUpdateSo 38 rfl) (by decide) (fun c64 => ?_) (fun c64 => absurd c64 (hne rfl))
    refine pw_iconst (v := 0) (tk tkL_isUpdateSo 41 rfl) (by decide) ?_
    refine pw_ist12 (tk tkL_isUpdateSo 42 rfl) rfl (by decide) ?_
    refine pw_aload_n (tk tkL_isUpdateSo 43 rfl) rfl ?_
    refine pw_iconst (v := 4) (tk tkL_isUpdateSo 44 rfl) (by decide) ?_
    refine pw_iload_n (tk tkL_isUpdateSo 45 rfl) rfl ?_
    refine pw_iload_n (tk tkL_isUpdateSo 46 rfl) rfl ?_
    refine pw_iload_n (tk tkL_isUpdateSo 47 rfl) rfl ?_
    refine pw_aload (tk tkL_isUpdateSo 48 rfl) rfl ?_
    refine pw_callSW (k := 6) (ct_L_update x hW hg _ _ _) rfl (List.cons_ne_nil _ _) cwL_changes iiL ⟨by decide +kernel, by decide +kernel, by decide +kernel⟩ (by decide) (tk tkL_isUpdateSo 49 rfl) mkL_55 stL_changes rfl rfl (by decide) (by decide) (Nat.le_of_ble_eq_true rfl) (fun r9 h9 q9 => ?_)
    rw [tu_bad hT hr hc hv9 (by rw [hk]; exact kne)] at q9
    obtain ⟨x, rfl, g1, g2, e, g3⟩ := q9
    cases e
    show PW ML_isUpdateSo 33 _ _ _ [.int 3] (hp x) _
    have hW : W2 a b (x.2.2 0) x := ⟨g1, g2, rfl⟩
    refine pw_ist13 (tk tkL_isUpdateSo 50 rfl) rfl (by decide) ?_
    refine pw_iload (tk tkL_isUpdateSo 51 rfl) rfl ?_
    refine pw_iload (tk tkL_isUpdateSo 52 rfl) rfl ?_
    refine pw_if_ne (tgt := 97) (tk tkL_isUpdateSo 53 rfl) (by decide) (fun c90 => ?_) (fun c90 => absurd c90 kne)
    refine pw_iconst (v := 3) (tk tkL_isUpdateSo 56 rfl) (by decide) ?_
    refine pw_icmp_ne (tgt := 229) (tk tkL_isUpdateSo 57 rfl) (by decide) (fun c98 => absurd (by decide) c98) (fun c98 => ?_)
    refine pw_iload (tk tkL_isUpdateSo 58 rfl) rfl ?_
    refine pw_iconst (v := 1) (tk tkL_isUpdateSo 59 rfl) (by decide) ?_
    refine pw_icmp_ne (tgt := 111) (tk tkL_isUpdateSo 60 rfl) (by decide) (fun c104 => ?_) (fun c104 => absurd c104 k1)
    refine pw_iconst (v := 0) (tk tkL_isUpdateSo 63 rfl) (by decide) ?_
    refine pw_iload (tk tkL_isUpdateSo 64 rfl) rfl ?_
    refine pw_if_ne (tgt := 121) (tk tkL_isUpdateSo 65 rfl) (by decide) (fun c114 => ?_) (fun c114 => absurd c114 (by decide))
    refine pw_iconst (v := 0) (tk tkL_isUpdateSo 68 rfl) (by decide) ?_
    refine pw_icmp_ne (tgt := 229) (tk tkL_isUpdateSo 69 rfl) (by decide) (fun c122 => absurd (by decide) c122) (fun c122 => ?_)
    refine pw_iload (tk tkL_isUpdateSo 70 rfl) rfl ?_
    refine pw_if_eq (tgt := 140) (tk tkL_isUpdateSo 71 rfl) (by decide) (fun c127 => ?_) (fun c127 => c127 (by decide) |>.elim)
    refine pw_iload (tk tkL_isUpdateSo 76 rfl) rfl ?_
    refine pw_if_ne (tgt := 206) (tk tkL_isUpdateSo 77 rfl) (by decide) (fun c142 => ?_) (fun c142 => absurd c142 kne)
    refine pw_iload (tk tkL_isUpdateSo 106 rfl) rfl ?_
    refine pw_iconst (v := (-1)) (tk tkL_isUpdateSo 107 rfl) (by decide) ?_
    refine pw_icmp_ne (tgt := 229) (tk tkL_isUpdateSo 108 rfl) (by decide) (fun c209 => absurd (by decide) c209) (fun c209 => ?_)
    refine pw_iload (tk tkL_isUpdateSo 109 rfl) rfl ?_
    refine pw_iconst (v := (-1)) (tk tkL_isUpdateSo 110 rfl) (by decide) ?_
    refine pw_icmp_ne (tgt := 229) (tk tkL_isUpdateSo 111 rfl) (by decide) (fun c215 => absurd (by decide) c215) (fun c215 => ?_)
    refine pw_iload (tk tkL_isUpdateSo 112 rfl) rfl ?_
    refine pw_bipush (v := 6) (tk tkL_isUpdateSo 113 rfl) (by decide) ?_
    refine pw_icmp_ge (tgt := 229) (tk tkL_isUpdateSo 114 rfl) (by decide) (fun c222 => absurd c222 (nI_ge (b := 6) (by omega) (by decide))) (fun c222 => ?_)
    refine pw_iconst (v := 1) (tk tkL_isUpdateSo 115 rfl) (by decide) ?_
    refine pw_goto (tgt := 230) (tk tkL_isUpdateSo 116 rfl) (by decide) ?_
    refine pw_ist14 (tk tkL_isUpdateSo 118 rfl) rfl (by decide) ?_
    refine pw_iload (tk tkL_isUpdateSo 119 rfl) rfl ?_
    refine pw_if_eq (tgt := 275) (tk tkL_isUpdateSo 120 rfl) (by decide) (fun c234 => absurd c234 (by decide)) (fun c234 => ?_)
    refine pw_iload (tk tkL_isUpdateSo 121 rfl) rfl ?_
    refine pw_if_eq (tgt := 273) (tk tkL_isUpdateSo 122 rfl) (by decide) (fun c239 => absurd c239 (by decide)) (fun c239 => ?_)
    refine pw_aload_n (tk tkL_isUpdateSo 123 rfl) rfl ?_
    refine rO_eventCount hW hv  (v := aS a 98) rfl rfl (tk tkL_isUpdateSo 124 rfl) (by decide) (Nat.le_of_ble_eq_true rfl) (fun x hW => ?_)
    refine pw_iload (tk tkL_isUpdateSo 125 rfl) rfl ?_
    refine pw_icmp_ne (tgt := 273) (tk tkL_isUpdateSo 126 rfl) (by decide) (fun c248 => absurd rfl c248) (fun c248 => ?_)
    refine pw_aload_n (tk tkL_isUpdateSo 127 rfl) rfl ?_
    refine rO_logSize hW hv  (v := aS a 99) rfl rfl (tk tkL_isUpdateSo 128 rfl) (by decide) (Nat.le_of_ble_eq_true rfl) (fun x hW => ?_)
    refine pw_iload (tk tkL_isUpdateSo 129 rfl) rfl ?_
    refine pw_icmp_ne (tgt := 273) (tk tkL_isUpdateSo 130 rfl) (by decide) (fun c257 => absurd rfl c257) (fun c257 => ?_)
    refine pw_aload_n (tk tkL_isUpdateSo 131 rfl) rfl ?_
    refine rO_undoCount hW hv  (v := nI (aK a)) rfl rfl (tk tkL_isUpdateSo 132 rfl) (by decide) (Nat.le_of_ble_eq_true rfl) (fun x hW => ?_)
    refine pw_iload (tk tkL_isUpdateSo 133 rfl) rfl ?_
    refine pw_icmp_ne (tgt := 273) (tk tkL_isUpdateSo 134 rfl) (by decide) (fun c266 => absurd rfl c266) (fun c266 => ?_)
    refine pw_iconst (v := 1) (tk tkL_isUpdateSo 135 rfl) (by decide) ?_
    refine pw_goto (tgt := 274) (tk tkL_isUpdateSo 136 rfl) (by decide) ?_
    exact pw_ireturn (tk tkL_isUpdateSo 138 rfl) rfl (by decide) (by first | rfl | exact nar_bI _) ⟨_, a, _, rfl, hW, rfl, hg, rfl⟩
set_option maxRecDepth 100000 in
set_option maxHeartbeats 4000000 in
theorem ct_L_uso_ok (x : XW) {a b : AM} {w : Int32} (hW : W2 a b w x) (hg : HGA a) {B : Nat} (iv : IV B (aS a)) {r c v : Nat} (hr : r < 4) (hc : c < 3) (hv9 : v < 1000) {T : TT} {k : Nat} (hT : updR (uN (aS a)) (aS a) r c (nI v) = T) (h0 : T.2.2.2 = 0) (uo : UO (aS a) T k) (hS : VS (uN (fin T (aS a))) (fin T (aS a))) (hrow : aS a r = 1) (same : Bool) (hs : same = true → k = 0 ∧ T.2.2.1 = -1 ∧ aS a (6 + 3 * r + c) = nI v) (hs2 : same = false → 1 ≤ k ∧ (∃ d, d ≤ 5 ∧ T.2.2.1 = nI d) ∧ ¬ aS a (6 + 3 * r + c) = nI v) : CT ML_isUpdateSo 33 30 [.ref 160, .int (nI r), .int (nI c), .int (nI v), .ref 171] (hp x) (fun o h2 => ∃ y a2 w2, h2 = hp y ∧ W2 a2 b w2 y ∧ aS a2 = aS a ∧ HGA a2 ∧ o = .inl (some (.int 1))) := by
  refine ct_of (by decide +kernel) (by decide) rfl (k := 10) (ls := [some (.ref 160), some (.int (nI r)), some (.int (nI c)), some (.int (nI v)), some (.ref 171), none, none, none, none, none, none, none, none, none, none]) rfl (Nat.le_of_ble_eq_true rfl) ?_
  have hv := hg.1
  have hle : T.2.2.2 ≤ 0 := by rw [h0]; exact Int32.le_refl _
  obtain ⟨uk, uk1, u98, ⟨p, q, upq, uq, up99, uq99⟩, uu, u25, u0⟩ := uo
  obtain ⟨H, hun, hk2, hH⟩ := undo_rec a (fin T (aS a))
  have hg2 := undo_HG hg hk2 hH
  have hKle := hW.1.2.1
  have hK6 : aK a ≤ 6 := by obtain ⟨nx, _, _, _, h6, _⟩ := hKle; exact h6
  cases same with
  | false =>
    obtain ⟨k0, ⟨d, hd, d1⟩, hval⟩ := hs2 rfl
    have kne : ¬ nI k = 0 := fun q => by have := (nI_eq (b := 0) (by omega) (by decide)).mp q; omega
    refine pw_aload_n (tk tkL_isUpdateSo 0 rfl) rfl ?_
    refine pw_iload_n (tk tkL_isUpdateSo 1 rfl) rfl ?_
    refine pw_iload_n (tk tkL_isUpdateSo 2 rfl) rfl ?_
    refine pw_iload_n (tk tkL_isUpdateSo 3 rfl) rfl ?_
    have z9 := tu_why hT hr hc hv9
    refine rdO (v := 0) hW (ct_X7_whyNotUpdate x a hW.1 hv _ _ _) (by rw [z9]) nz2 (by rw [z9]; exact h0) okX7_whyNotUpdate (tk tkL_isUpdateSo 4 rfl) mkL_113 imX7_whyNotUpdate seX7_whyNotUpdate rfl rfl rfl (by decide) (by decide) (Nat.le_of_ble_eq_true rfl) (fun x hW => ?_)
    rw [z9] at hW
    clear z9
    refine pw_ist5 (tk tkL_isUpdateSo 5 rfl) rfl (by decide) ?_
    refine pw_aload_n (tk tkL_isUpdateSo 6 rfl) rfl ?_
    refine pw_iload_n (tk tkL_isUpdateSo 7 rfl) rfl ?_
    refine pw_iload_n (tk tkL_isUpdateSo 8 rfl) rfl ?_
    refine pw_iload_n (tk tkL_isUpdateSo 9 rfl) rfl ?_
    have z9 := tu_ev hT hr hc hv9
    refine rdO (v := nI k) hW (ct_X7_eventsOfUpdate x a hW.1 hv _ _ _) (by rw [z9]) nz2 (by rw [z9]; exact (if_pos hle).trans uk) okX7_eventsOfUpdate (tk tkL_isUpdateSo 10 rfl) mkL_116 imX7_eventsOfUpdate seX7_eventsOfUpdate rfl rfl rfl (by decide) (by decide) (Nat.le_of_ble_eq_true rfl) (fun x hW => ?_)
    rw [z9] at hW
    clear z9
    refine pw_ist6 (tk tkL_isUpdateSo 11 rfl) rfl (by decide) ?_
    refine pw_aload_n (tk tkL_isUpdateSo 12 rfl) rfl ?_
    refine pw_iload_n (tk tkL_isUpdateSo 13 rfl) rfl ?_
    refine pw_iload_n (tk tkL_isUpdateSo 14 rfl) rfl ?_
    refine pw_iload_n (tk tkL_isUpdateSo 15 rfl) rfl ?_
    have z9 := tu_de hT hr hc hv9
    refine rdO (v := nI d) hW (ct_X7_depthOfUpdate x a hW.1 hv _ _ _) (by rw [z9]) nz2 (by rw [z9]; exact (if_pos hle).trans d1) okX7_depthOfUpdate (tk tkL_isUpdateSo 16 rfl) mkL_119 imX7_depthOfUpdate seX7_depthOfUpdate rfl rfl rfl (by decide) (by decide) (Nat.le_of_ble_eq_true rfl) (fun x hW => ?_)
    rw [z9] at hW
    clear z9
    refine pw_ist7 (tk tkL_isUpdateSo 17 rfl) rfl (by decide) ?_
    refine pw_aload_n (tk tkL_isUpdateSo 18 rfl) rfl ?_
    refine rO_eventCount hW hv  (v := aS a 98) rfl rfl (tk tkL_isUpdateSo 19 rfl) (by decide) (Nat.le_of_ble_eq_true rfl) (fun x hW => ?_)
    refine pw_ist8 (tk tkL_isUpdateSo 20 rfl) rfl (by decide) ?_
    refine pw_aload_n (tk tkL_isUpdateSo 21 rfl) rfl ?_
    refine rO_logSize hW hv  (v := aS a 99) rfl rfl (tk tkL_isUpdateSo 22 rfl) (by decide) (Nat.le_of_ble_eq_true rfl) (fun x hW => ?_)
    refine pw_ist9 (tk tkL_isUpdateSo 23 rfl) rfl (by decide) ?_
    refine pw_aload_n (tk tkL_isUpdateSo 24 rfl) rfl ?_
    refine rO_undoCount hW hv  (v := nI (aK a)) rfl rfl (tk tkL_isUpdateSo 25 rfl) (by decide) (Nat.le_of_ble_eq_true rfl) (fun x hW => ?_)
    refine pw_ist10 (tk tkL_isUpdateSo 26 rfl) rfl (by decide) ?_
    refine pw_aload_n (tk tkL_isUpdateSo 27 rfl) rfl ?_
    refine pw_iload_n (tk tkL_isUpdateSo 28 rfl) rfl ?_
    refine rO_hasRow hW hv (inR_r (n := 5) (show r ≤ 5 by omega) (by decide)) ((v_hasRow (show r < 6 by omega)).trans (if_pos hrow)) rfl (tk tkL_isUpdateSo 29 rfl) (by decide) (Nat.le_of_ble_eq_true rfl) (fun x hW => ?_)
    refine pw_ist11 (tk tkL_isUpdateSo 30 rfl) rfl (by decide) ?_
    refine pw_iload (tk tkL_isUpdateSo 31 rfl) rfl ?_
    refine pw_if_eq (tgt := 71) (tk tkL_isUpdateSo 32 rfl) (by decide) (fun c54 => absurd c54 (by decide)) (fun c54 => ?_)
    refine pw_aload_n (tk tkL_isUpdateSo 33 rfl) rfl ?_
    refine pw_iload_n (tk tkL_isUpdateSo 34 rfl) rfl ?_
    refine pw_iload_n (tk tkL_isUpdateSo 35 rfl) rfl ?_
    refine rO_valueAt hW hv (inR_r (n := 5) (show r ≤ 5 by omega) (by decide)) (inR_r (n := 2) (show c ≤ 2 by omega) (by decide)) (by rw [nI_clamp (by omega), hrow]; decide) (v_valueAt (show r < 6 by omega) hc (by rw [hrow]; decide)) rfl (tk tkL_isUpdateSo 36 rfl) (by decide) (Nat.le_of_ble_eq_true rfl) (fun x hW => ?_)
    refine pw_iload_n (tk tkL_isUpdateSo 37 rfl) rfl ?_
    refine pw_icmp_ne (tgt := 71) (tk tkL_isUpdateSo 38 rfl) (by decide) (fun c64 => ?_) (fun c64 => absurd c64 hval)
    refine pw_iconst (v := 0) (tk tkL_isUpdateSo 41 rfl) (by decide) ?_
    refine pw_ist12 (tk tkL_isUpdateSo 42 rfl) rfl (by decide) ?_
    refine pw_aload_n (tk tkL_isUpdateSo 43 rfl) rfl ?_
    refine pw_iconst (v := 4) (tk tkL_isUpdateSo 44 rfl) (by decide) ?_
    refine pw_iload_n (tk tkL_isUpdateSo 45 rfl) rfl ?_
    refine pw_iload_n (tk tkL_isUpdateSo 46 rfl) rfl ?_
    refine pw_iload_n (tk tkL_isUpdateSo 47 rfl) rfl ?_
    refine pw_aload (tk tkL_isUpdateSo 48 rfl) rfl ?_
    refine pw_callSW (k := 6) (ct_L_update x hW hg _ _ _) rfl (List.cons_ne_nil _ _) cwL_changes iiL ⟨by decide +kernel, by decide +kernel, by decide +kernel⟩ (by decide) (tk tkL_isUpdateSo 49 rfl) mkL_55 stL_changes rfl rfl (by decide) (by decide) (Nat.le_of_ble_eq_true rfl) (fun r9 h9 q9 => ?_)
    rw [tu_ok hT hr hc hv9 h0] at q9
    obtain ⟨x, rfl, g1, g2, e, g3⟩ := q9
    cases e
    show PW ML_isUpdateSo 33 _ _ _ [.int 0] (hp x) _
    have hW : W2 (fin T (aS a), recH a (aS a), a.2.2) b (x.2.2 0) x := ⟨g1, g2, rfl⟩
    have hout : x.2.2 0 = T.2.1 := g3 rfl
    clear g1 g2 g3
    refine pw_ist13 (tk tkL_isUpdateSo 50 rfl) rfl (by decide) ?_
    refine pw_iload (tk tkL_isUpdateSo 51 rfl) rfl ?_
    refine pw_iload (tk tkL_isUpdateSo 52 rfl) rfl ?_
    refine pw_if_ne (tgt := 97) (tk tkL_isUpdateSo 53 rfl) (by decide) (fun c90 => c90 (by decide) |>.elim) (fun c90 => ?_)
    refine pw_iconst (v := 0) (tk tkL_isUpdateSo 54 rfl) (by decide) ?_
    refine pw_goto (tgt := 98) (tk tkL_isUpdateSo 55 rfl) (by decide) ?_
    refine pw_icmp_ne (tgt := 229) (tk tkL_isUpdateSo 57 rfl) (by decide) (fun c98 => absurd (by decide) c98) (fun c98 => ?_)
    refine pw_iload (tk tkL_isUpdateSo 58 rfl) rfl ?_
    refine pw_iconst (v := 1) (tk tkL_isUpdateSo 59 rfl) (by decide) ?_
    refine pw_icmp_ne (tgt := 111) (tk tkL_isUpdateSo 60 rfl) (by decide) (fun c104 => ?_) (fun c104 => absurd c104 (by decide))
    refine pw_iconst (v := 0) (tk tkL_isUpdateSo 63 rfl) (by decide) ?_
    refine pw_iload (tk tkL_isUpdateSo 64 rfl) rfl ?_
    refine pw_if_ne (tgt := 121) (tk tkL_isUpdateSo 65 rfl) (by decide) (fun c114 => ?_) (fun c114 => absurd c114 (by decide))
    refine pw_iconst (v := 0) (tk tkL_isUpdateSo 68 rfl) (by decide) ?_
    refine pw_icmp_ne (tgt := 229) (tk tkL_isUpdateSo 69 rfl) (by decide) (fun c122 => absurd (by decide) c122) (fun c122 => ?_)
    refine pw_iload (tk tkL_isUpdateSo 70 rfl) rfl ?_
    refine pw_if_eq (tgt := 140) (tk tkL_isUpdateSo 71 rfl) (by decide) (fun c127 => ?_) (fun c127 => c127 (by decide) |>.elim)
    refine pw_iload (tk tkL_isUpdateSo 76 rfl) rfl ?_
    refine pw_if_ne (tgt := 206) (tk tkL_isUpdateSo 77 rfl) (by decide) (fun c142 => c142 (by decide) |>.elim) (fun c142 => ?_)
    refine pw_iload (tk tkL_isUpdateSo 78 rfl) rfl ?_
    refine pw_if_lt (tgt := 229) (tk tkL_isUpdateSo 79 rfl) (by decide) (fun c147 => absurd c147 (nI_pos (by omega))) (fun c147 => ?_)
    refine pw_iload (tk tkL_isUpdateSo 80 rfl) rfl ?_
    refine pw_bipush (v := 100) (tk tkL_isUpdateSo 81 rfl) (by decide) ?_
    refine pw_icmp_gt (tgt := 229) (tk tkL_isUpdateSo 82 rfl) (by decide) (fun c154 => absurd c154 (nI_nlt (a := 100) (by omega) (by decide))) (fun c154 => ?_)
    refine pw_iload (tk tkL_isUpdateSo 83 rfl) rfl ?_
    refine pw_if_ne (tgt := 166) (tk tkL_isUpdateSo 84 rfl) (by decide) (fun c159 => ?_) (fun c159 => absurd c159 kne)
    refine pw_iconst (v := 0) (tk tkL_isUpdateSo 87 rfl) (by decide) ?_
    refine pw_iload (tk tkL_isUpdateSo 88 rfl) rfl ?_
    refine pw_icmp_ne (tgt := 229) (tk tkL_isUpdateSo 89 rfl) (by decide) (fun c169 => absurd (by decide) c169) (fun c169 => ?_)
    refine pw_iload (tk tkL_isUpdateSo 90 rfl) rfl ?_
    refine pw_iconst (v := (-1)) (tk tkL_isUpdateSo 91 rfl) (by decide) ?_
    refine pw_icmp_ne (tgt := 182) (tk tkL_isUpdateSo 92 rfl) (by decide) (fun c175 => ?_) (fun c175 => absurd (show nI d = -1 from c175) (fun z => absurd (show (0 : Int32) ≤ -1 from by rw [← z]; exact nI_pos' (by omega)) (by decide)))
    refine pw_iconst (v := 0) (tk tkL_isUpdateSo 95 rfl) (by decide) ?_
    refine pw_iload (tk tkL_isUpdateSo 96 rfl) rfl ?_
    refine pw_if_ne (tgt := 192) (tk tkL_isUpdateSo 97 rfl) (by decide) (fun c185 => ?_) (fun c185 => absurd c185 kne)
    refine pw_iconst (v := 0) (tk tkL_isUpdateSo 100 rfl) (by decide) ?_
    refine pw_icmp_ne (tgt := 229) (tk tkL_isUpdateSo 101 rfl) (by decide) (fun c193 => absurd (by decide) c193) (fun c193 => ?_)
    refine pw_iload (tk tkL_isUpdateSo 102 rfl) rfl ?_
    refine pw_bipush (v := 6) (tk tkL_isUpdateSo 103 rfl) (by decide) ?_
    refine pw_icmp_ge (tgt := 229) (tk tkL_isUpdateSo 104 rfl) (by decide) (fun c200 => absurd c200 (nI_ge (b := 6) (by omega) (by decide))) (fun c200 => ?_)
    refine pw_goto (tgt := 225) (tk tkL_isUpdateSo 105 rfl) (by decide) ?_
    refine pw_iconst (v := 1) (tk tkL_isUpdateSo 115 rfl) (by decide) ?_
    refine pw_goto (tgt := 230) (tk tkL_isUpdateSo 116 rfl) (by decide) ?_
    refine pw_ist14 (tk tkL_isUpdateSo 118 rfl) rfl (by decide) ?_
    refine pw_iload (tk tkL_isUpdateSo 119 rfl) rfl ?_
    refine pw_if_eq (tgt := 275) (tk tkL_isUpdateSo 120 rfl) (by decide) (fun c234 => ?_) (fun c234 => c234 (by decide) |>.elim)
    refine pw_iload (tk tkL_isUpdateSo 139 rfl) rfl ?_
    refine pw_if_eq (tgt := 339) (tk tkL_isUpdateSo 140 rfl) (by decide) (fun c277 => absurd c277 (by decide)) (fun c277 => ?_)
    refine pw_aload (tk tkL_isUpdateSo 141 rfl) rfl ?_
    refine pw_iconst (v := 0) (tk tkL_isUpdateSo 142 rfl) (by decide) ?_
    refine al_out_e (e := 0) (tk tkL_isUpdateSo 143 rfl) rfl (by first | decide | omega) ?_
    refine pw_iload (tk tkL_isUpdateSo 144 rfl) rfl ?_
    refine pw_icmp_ne (tgt := 339) (tk tkL_isUpdateSo 145 rfl) (by decide) (fun c286 => absurd (show x.2.2 0 = nI k from hout.trans uk) c286) (fun c286 => ?_)
    refine pw_aload_n (tk tkL_isUpdateSo 146 rfl) rfl ?_
    refine rO_eventCount hW hS  (v := fin T (aS a) 98) rfl rfl (tk tkL_isUpdateSo 147 rfl) (by decide) (Nat.le_of_ble_eq_true rfl) (fun x hW => ?_)
    refine pw_iload (tk tkL_isUpdateSo 148 rfl) rfl ?_
    refine pw_iload (tk tkL_isUpdateSo 149 rfl) rfl ?_
    refine pw_iadd (tk tkL_isUpdateSo 150 rfl) ?_
    refine pw_icmp_ne (tgt := 339) (tk tkL_isUpdateSo 151 rfl) (by decide) (fun c298 => absurd u98 c298) (fun c298 => ?_)
    refine pw_aload_n (tk tkL_isUpdateSo 152 rfl) rfl ?_
    refine rO_logSize hW hS  (v := fin T (aS a) 99) rfl rfl (tk tkL_isUpdateSo 153 rfl) (by decide) (Nat.le_of_ble_eq_true rfl) (fun x hW => ?_)
    refine pw_iload (tk tkL_isUpdateSo 154 rfl) rfl ?_
    refine pw_bipush (v := 16) (tk tkL_isUpdateSo 155 rfl) (by decide) ?_
    refine pw_icmp_ge (tgt := 317) (tk tkL_isUpdateSo 156 rfl) (by decide) (fun c309 => ?_) (fun c309 => ?_)
    · refine pw_bipush (v := 16) (tk tkL_isUpdateSo 159 rfl) (by decide) ?_
      refine pw_icmp_lt (tgt := 339) (tk tkL_isUpdateSo 160 rfl) (by decide) (fun c319 => absurd c319 (by rw [uq99, show (16 : Int32) = nI 16 from rfl]; have z : 16 ≤ p := nIle (by decide) (by omega) (show nI 16 ≤ nI p by rw [← up99]; exact c309); exact nI_nlt (by omega) (by omega))) (fun c319 => ?_)
      refine pw_aload_n (tk tkL_isUpdateSo 161 rfl) rfl ?_
      refine rO_ruleCount hW hS  (v := nI (uN (aS a))) u25 rfl (tk tkL_isUpdateSo 162 rfl) (by decide) (Nat.le_of_ble_eq_true rfl) (fun x hW => ?_)
      refine pw_if_gt (tgt := 335) (tk tkL_isUpdateSo 163 rfl) (by decide) (fun c326 => ?_) (fun c326 => ?_)
      · refine pw_iconst (v := 1) (tk tkL_isUpdateSo 167 rfl) (by decide) ?_
        refine pw_goto (tgt := 340) (tk tkL_isUpdateSo 168 rfl) (by decide) ?_
        refine pw_ist14 (tk tkL_isUpdateSo 170 rfl) rfl (by decide) ?_
        refine pw_iload (tk tkL_isUpdateSo 171 rfl) rfl ?_
        refine pw_if_eq (tgt := 401) (tk tkL_isUpdateSo 172 rfl) (by decide) (fun c344 => absurd c344 (by decide)) (fun c344 => ?_)
        refine pw_aload_n (tk tkL_isUpdateSo 173 rfl) rfl ?_
        refine rdO (v := nI (kM (aK a))) hW (ct_u x (y := 0) (fin T (aS a)) hW.1 hS hg) (by rw [hun]) nz1 (by rw [hun]) okX7_undo (tk tkL_isUpdateSo 174 rfl) mkL_125 imX7_undo seX7_undo rfl rfl rfl (by decide) (by decide) (Nat.le_of_ble_eq_true rfl) (fun x hW => ?_)
        rw [hun] at hW
        refine pw_if_lt (tgt := 401) (tk tkL_isUpdateSo 175 rfl) (by decide) (fun c351 => absurd c351 (nI_pos (kM_le hK6))) (fun c351 => ?_)
        refine pw_aload_n (tk tkL_isUpdateSo 176 rfl) rfl ?_
        refine rO_eventCount hW hg2.1  (v := aS a 98) rfl rfl (tk tkL_isUpdateSo 177 rfl) (by decide) (Nat.le_of_ble_eq_true rfl) (fun x hW => ?_)
        refine pw_iload (tk tkL_isUpdateSo 178 rfl) rfl ?_
        refine pw_icmp_ne (tgt := 401) (tk tkL_isUpdateSo 179 rfl) (by decide) (fun c360 => absurd rfl c360) (fun c360 => ?_)
        refine pw_aload_n (tk tkL_isUpdateSo 180 rfl) rfl ?_
        refine rO_logSize hW hv  (v := aS a 99) rfl rfl (tk tkL_isUpdateSo 181 rfl) (by decide) (Nat.le_of_ble_eq_true rfl) (fun x hW => ?_)
        refine pw_iload (tk tkL_isUpdateSo 182 rfl) rfl ?_
        refine pw_icmp_ne (tgt := 401) (tk tkL_isUpdateSo 183 rfl) (by decide) (fun c369 => absurd rfl c369) (fun c369 => ?_)
        refine pw_iload (tk tkL_isUpdateSo 184 rfl) rfl ?_
        refine pw_if_eq (tgt := 397) (tk tkL_isUpdateSo 185 rfl) (by decide) (fun c374 => absurd c374 (by decide)) (fun c374 => ?_)
        refine pw_aload_n (tk tkL_isUpdateSo 186 rfl) rfl ?_
        refine pw_iload_n (tk tkL_isUpdateSo 187 rfl) rfl ?_
        refine pw_iload_n (tk tkL_isUpdateSo 188 rfl) rfl ?_
        refine rO_valueAt hW hg2.1 (inR_r (n := 5) (show r ≤ 5 by omega) (by decide)) (inR_r (n := 2) (show c ≤ 2 by omega) (by decide)) (by show ¬ aS a (nI r).toNatClampNeg = 0; rw [nI_clamp (by omega), hrow]; decide) ((v_valueAt (a := (aS a, (kM (aK a), H), a.2.2)) (show r < 6 by omega) hc (show ¬ aS a r = 0 by rw [hrow]; decide))) rfl (tk tkL_isUpdateSo 189 rfl) (by decide) (Nat.le_of_ble_eq_true rfl) (fun x hW => ?_)
        refine pw_iload_n (tk tkL_isUpdateSo 190 rfl) rfl ?_
        refine pw_icmp_ne (tgt := 391) (tk tkL_isUpdateSo 191 rfl) (by decide) (fun c384 => ?_) (fun c384 => absurd c384 hval)
        refine pw_iconst (v := 0) (tk tkL_isUpdateSo 194 rfl) (by decide) ?_
        refine pw_iload (tk tkL_isUpdateSo 195 rfl) rfl ?_
        refine pw_icmp_ne (tgt := 401) (tk tkL_isUpdateSo 196 rfl) (by decide) (fun c394 => absurd (by decide) c394) (fun c394 => ?_)
        refine pw_iconst (v := 1) (tk tkL_isUpdateSo 197 rfl) (by decide) ?_
        refine pw_goto (tgt := 402) (tk tkL_isUpdateSo 198 rfl) (by decide) ?_
        exact pw_ireturn (tk tkL_isUpdateSo 200 rfl) rfl (by decide) (by first | rfl | exact nar_bI _) ⟨_, (aS a, (kM (aK a), H), a.2.2), _, rfl, hW, rfl, hg2, rfl⟩
      · refine pw_iload (tk tkL_isUpdateSo 164 rfl) rfl ?_
        refine pw_iconst (v := 1) (tk tkL_isUpdateSo 165 rfl) (by decide) ?_
        refine pw_icmp_gt (tgt := 339) (tk tkL_isUpdateSo 166 rfl) (by decide) (fun c332 => absurd c332 (by rw [show (1 : Int32) = nI 1 from rfl]; exact nI_nlt (a := 1) (u0 ((lwF_0 (by have := hv.1; omega)).mp (Int32.not_lt.mp c326))) (by decide))) (fun c332 => ?_)
        refine pw_iconst (v := 1) (tk tkL_isUpdateSo 167 rfl) (by decide) ?_
        refine pw_goto (tgt := 340) (tk tkL_isUpdateSo 168 rfl) (by decide) ?_
        refine pw_ist14 (tk tkL_isUpdateSo 170 rfl) rfl (by decide) ?_
        refine pw_iload (tk tkL_isUpdateSo 171 rfl) rfl ?_
        refine pw_if_eq (tgt := 401) (tk tkL_isUpdateSo 172 rfl) (by decide) (fun c344 => absurd c344 (by decide)) (fun c344 => ?_)
        refine pw_aload_n (tk tkL_isUpdateSo 173 rfl) rfl ?_
        refine rdO (v := nI (kM (aK a))) hW (ct_u x (y := 0) (fin T (aS a)) hW.1 hS hg) (by rw [hun]) nz1 (by rw [hun]) okX7_undo (tk tkL_isUpdateSo 174 rfl) mkL_125 imX7_undo seX7_undo rfl rfl rfl (by decide) (by decide) (Nat.le_of_ble_eq_true rfl) (fun x hW => ?_)
        rw [hun] at hW
        refine pw_if_lt (tgt := 401) (tk tkL_isUpdateSo 175 rfl) (by decide) (fun c351 => absurd c351 (nI_pos (kM_le hK6))) (fun c351 => ?_)
        refine pw_aload_n (tk tkL_isUpdateSo 176 rfl) rfl ?_
        refine rO_eventCount hW hg2.1  (v := aS a 98) rfl rfl (tk tkL_isUpdateSo 177 rfl) (by decide) (Nat.le_of_ble_eq_true rfl) (fun x hW => ?_)
        refine pw_iload (tk tkL_isUpdateSo 178 rfl) rfl ?_
        refine pw_icmp_ne (tgt := 401) (tk tkL_isUpdateSo 179 rfl) (by decide) (fun c360 => absurd rfl c360) (fun c360 => ?_)
        refine pw_aload_n (tk tkL_isUpdateSo 180 rfl) rfl ?_
        refine rO_logSize hW hv  (v := aS a 99) rfl rfl (tk tkL_isUpdateSo 181 rfl) (by decide) (Nat.le_of_ble_eq_true rfl) (fun x hW => ?_)
        refine pw_iload (tk tkL_isUpdateSo 182 rfl) rfl ?_
        refine pw_icmp_ne (tgt := 401) (tk tkL_isUpdateSo 183 rfl) (by decide) (fun c369 => absurd rfl c369) (fun c369 => ?_)
        refine pw_iload (tk tkL_isUpdateSo 184 rfl) rfl ?_
        refine pw_if_eq (tgt := 397) (tk tkL_isUpdateSo 185 rfl) (by decide) (fun c374 => absurd c374 (by decide)) (fun c374 => ?_)
        refine pw_aload_n (tk tkL_isUpdateSo 186 rfl) rfl ?_
        refine pw_iload_n (tk tkL_isUpdateSo 187 rfl) rfl ?_
        refine pw_iload_n (tk tkL_isUpdateSo 188 rfl) rfl ?_
        refine rO_valueAt hW hg2.1 (inR_r (n := 5) (show r ≤ 5 by omega) (by decide)) (inR_r (n := 2) (show c ≤ 2 by omega) (by decide)) (by show ¬ aS a (nI r).toNatClampNeg = 0; rw [nI_clamp (by omega), hrow]; decide) ((v_valueAt (a := (aS a, (kM (aK a), H), a.2.2)) (show r < 6 by omega) hc (show ¬ aS a r = 0 by rw [hrow]; decide))) rfl (tk tkL_isUpdateSo 189 rfl) (by decide) (Nat.le_of_ble_eq_true rfl) (fun x hW => ?_)
        refine pw_iload_n (tk tkL_isUpdateSo 190 rfl) rfl ?_
        refine pw_icmp_ne (tgt := 391) (tk tkL_isUpdateSo 191 rfl) (by decide) (fun c384 => ?_) (fun c384 => absurd c384 hval)
        refine pw_iconst (v := 0) (tk tkL_isUpdateSo 194 rfl) (by decide) ?_
        refine pw_iload (tk tkL_isUpdateSo 195 rfl) rfl ?_
        refine pw_icmp_ne (tgt := 401) (tk tkL_isUpdateSo 196 rfl) (by decide) (fun c394 => absurd (by decide) c394) (fun c394 => ?_)
        refine pw_iconst (v := 1) (tk tkL_isUpdateSo 197 rfl) (by decide) ?_
        refine pw_goto (tgt := 402) (tk tkL_isUpdateSo 198 rfl) (by decide) ?_
        exact pw_ireturn (tk tkL_isUpdateSo 200 rfl) rfl (by decide) (by first | rfl | exact nar_bI _) ⟨_, (aS a, (kM (aK a), H), a.2.2), _, rfl, hW, rfl, hg2, rfl⟩
    · refine pw_iload (tk tkL_isUpdateSo 157 rfl) rfl ?_
      refine pw_goto (tgt := 319) (tk tkL_isUpdateSo 158 rfl) (by decide) ?_
      refine pw_icmp_lt (tgt := 339) (tk tkL_isUpdateSo 160 rfl) (by decide) (fun c319 => absurd c319 (by rw [uq99, up99]; exact nI_nlt upq (by omega))) (fun c319 => ?_)
      refine pw_aload_n (tk tkL_isUpdateSo 161 rfl) rfl ?_
      refine rO_ruleCount hW hS  (v := nI (uN (aS a))) u25 rfl (tk tkL_isUpdateSo 162 rfl) (by decide) (Nat.le_of_ble_eq_true rfl) (fun x hW => ?_)
      refine pw_if_gt (tgt := 335) (tk tkL_isUpdateSo 163 rfl) (by decide) (fun c326 => ?_) (fun c326 => ?_)
      · refine pw_iconst (v := 1) (tk tkL_isUpdateSo 167 rfl) (by decide) ?_
        refine pw_goto (tgt := 340) (tk tkL_isUpdateSo 168 rfl) (by decide) ?_
        refine pw_ist14 (tk tkL_isUpdateSo 170 rfl) rfl (by decide) ?_
        refine pw_iload (tk tkL_isUpdateSo 171 rfl) rfl ?_
        refine pw_if_eq (tgt := 401) (tk tkL_isUpdateSo 172 rfl) (by decide) (fun c344 => absurd c344 (by decide)) (fun c344 => ?_)
        refine pw_aload_n (tk tkL_isUpdateSo 173 rfl) rfl ?_
        refine rdO (v := nI (kM (aK a))) hW (ct_u x (y := 0) (fin T (aS a)) hW.1 hS hg) (by rw [hun]) nz1 (by rw [hun]) okX7_undo (tk tkL_isUpdateSo 174 rfl) mkL_125 imX7_undo seX7_undo rfl rfl rfl (by decide) (by decide) (Nat.le_of_ble_eq_true rfl) (fun x hW => ?_)
        rw [hun] at hW
        refine pw_if_lt (tgt := 401) (tk tkL_isUpdateSo 175 rfl) (by decide) (fun c351 => absurd c351 (nI_pos (kM_le hK6))) (fun c351 => ?_)
        refine pw_aload_n (tk tkL_isUpdateSo 176 rfl) rfl ?_
        refine rO_eventCount hW hg2.1  (v := aS a 98) rfl rfl (tk tkL_isUpdateSo 177 rfl) (by decide) (Nat.le_of_ble_eq_true rfl) (fun x hW => ?_)
        refine pw_iload (tk tkL_isUpdateSo 178 rfl) rfl ?_
        refine pw_icmp_ne (tgt := 401) (tk tkL_isUpdateSo 179 rfl) (by decide) (fun c360 => absurd rfl c360) (fun c360 => ?_)
        refine pw_aload_n (tk tkL_isUpdateSo 180 rfl) rfl ?_
        refine rO_logSize hW hv  (v := aS a 99) rfl rfl (tk tkL_isUpdateSo 181 rfl) (by decide) (Nat.le_of_ble_eq_true rfl) (fun x hW => ?_)
        refine pw_iload (tk tkL_isUpdateSo 182 rfl) rfl ?_
        refine pw_icmp_ne (tgt := 401) (tk tkL_isUpdateSo 183 rfl) (by decide) (fun c369 => absurd rfl c369) (fun c369 => ?_)
        refine pw_iload (tk tkL_isUpdateSo 184 rfl) rfl ?_
        refine pw_if_eq (tgt := 397) (tk tkL_isUpdateSo 185 rfl) (by decide) (fun c374 => absurd c374 (by decide)) (fun c374 => ?_)
        refine pw_aload_n (tk tkL_isUpdateSo 186 rfl) rfl ?_
        refine pw_iload_n (tk tkL_isUpdateSo 187 rfl) rfl ?_
        refine pw_iload_n (tk tkL_isUpdateSo 188 rfl) rfl ?_
        refine rO_valueAt hW hg2.1 (inR_r (n := 5) (show r ≤ 5 by omega) (by decide)) (inR_r (n := 2) (show c ≤ 2 by omega) (by decide)) (by show ¬ aS a (nI r).toNatClampNeg = 0; rw [nI_clamp (by omega), hrow]; decide) ((v_valueAt (a := (aS a, (kM (aK a), H), a.2.2)) (show r < 6 by omega) hc (show ¬ aS a r = 0 by rw [hrow]; decide))) rfl (tk tkL_isUpdateSo 189 rfl) (by decide) (Nat.le_of_ble_eq_true rfl) (fun x hW => ?_)
        refine pw_iload_n (tk tkL_isUpdateSo 190 rfl) rfl ?_
        refine pw_icmp_ne (tgt := 391) (tk tkL_isUpdateSo 191 rfl) (by decide) (fun c384 => ?_) (fun c384 => absurd c384 hval)
        refine pw_iconst (v := 0) (tk tkL_isUpdateSo 194 rfl) (by decide) ?_
        refine pw_iload (tk tkL_isUpdateSo 195 rfl) rfl ?_
        refine pw_icmp_ne (tgt := 401) (tk tkL_isUpdateSo 196 rfl) (by decide) (fun c394 => absurd (by decide) c394) (fun c394 => ?_)
        refine pw_iconst (v := 1) (tk tkL_isUpdateSo 197 rfl) (by decide) ?_
        refine pw_goto (tgt := 402) (tk tkL_isUpdateSo 198 rfl) (by decide) ?_
        exact pw_ireturn (tk tkL_isUpdateSo 200 rfl) rfl (by decide) (by first | rfl | exact nar_bI _) ⟨_, (aS a, (kM (aK a), H), a.2.2), _, rfl, hW, rfl, hg2, rfl⟩
      · refine pw_iload (tk tkL_isUpdateSo 164 rfl) rfl ?_
        refine pw_iconst (v := 1) (tk tkL_isUpdateSo 165 rfl) (by decide) ?_
        refine pw_icmp_gt (tgt := 339) (tk tkL_isUpdateSo 166 rfl) (by decide) (fun c332 => absurd c332 (by rw [show (1 : Int32) = nI 1 from rfl]; exact nI_nlt (a := 1) (u0 ((lwF_0 (by have := hv.1; omega)).mp (Int32.not_lt.mp c326))) (by decide))) (fun c332 => ?_)
        refine pw_iconst (v := 1) (tk tkL_isUpdateSo 167 rfl) (by decide) ?_
        refine pw_goto (tgt := 340) (tk tkL_isUpdateSo 168 rfl) (by decide) ?_
        refine pw_ist14 (tk tkL_isUpdateSo 170 rfl) rfl (by decide) ?_
        refine pw_iload (tk tkL_isUpdateSo 171 rfl) rfl ?_
        refine pw_if_eq (tgt := 401) (tk tkL_isUpdateSo 172 rfl) (by decide) (fun c344 => absurd c344 (by decide)) (fun c344 => ?_)
        refine pw_aload_n (tk tkL_isUpdateSo 173 rfl) rfl ?_
        refine rdO (v := nI (kM (aK a))) hW (ct_u x (y := 0) (fin T (aS a)) hW.1 hS hg) (by rw [hun]) nz1 (by rw [hun]) okX7_undo (tk tkL_isUpdateSo 174 rfl) mkL_125 imX7_undo seX7_undo rfl rfl rfl (by decide) (by decide) (Nat.le_of_ble_eq_true rfl) (fun x hW => ?_)
        rw [hun] at hW
        refine pw_if_lt (tgt := 401) (tk tkL_isUpdateSo 175 rfl) (by decide) (fun c351 => absurd c351 (nI_pos (kM_le hK6))) (fun c351 => ?_)
        refine pw_aload_n (tk tkL_isUpdateSo 176 rfl) rfl ?_
        refine rO_eventCount hW hg2.1  (v := aS a 98) rfl rfl (tk tkL_isUpdateSo 177 rfl) (by decide) (Nat.le_of_ble_eq_true rfl) (fun x hW => ?_)
        refine pw_iload (tk tkL_isUpdateSo 178 rfl) rfl ?_
        refine pw_icmp_ne (tgt := 401) (tk tkL_isUpdateSo 179 rfl) (by decide) (fun c360 => absurd rfl c360) (fun c360 => ?_)
        refine pw_aload_n (tk tkL_isUpdateSo 180 rfl) rfl ?_
        refine rO_logSize hW hv  (v := aS a 99) rfl rfl (tk tkL_isUpdateSo 181 rfl) (by decide) (Nat.le_of_ble_eq_true rfl) (fun x hW => ?_)
        refine pw_iload (tk tkL_isUpdateSo 182 rfl) rfl ?_
        refine pw_icmp_ne (tgt := 401) (tk tkL_isUpdateSo 183 rfl) (by decide) (fun c369 => absurd rfl c369) (fun c369 => ?_)
        refine pw_iload (tk tkL_isUpdateSo 184 rfl) rfl ?_
        refine pw_if_eq (tgt := 397) (tk tkL_isUpdateSo 185 rfl) (by decide) (fun c374 => absurd c374 (by decide)) (fun c374 => ?_)
        refine pw_aload_n (tk tkL_isUpdateSo 186 rfl) rfl ?_
        refine pw_iload_n (tk tkL_isUpdateSo 187 rfl) rfl ?_
        refine pw_iload_n (tk tkL_isUpdateSo 188 rfl) rfl ?_
        refine rO_valueAt hW hg2.1 (inR_r (n := 5) (show r ≤ 5 by omega) (by decide)) (inR_r (n := 2) (show c ≤ 2 by omega) (by decide)) (by show ¬ aS a (nI r).toNatClampNeg = 0; rw [nI_clamp (by omega), hrow]; decide) ((v_valueAt (a := (aS a, (kM (aK a), H), a.2.2)) (show r < 6 by omega) hc (show ¬ aS a r = 0 by rw [hrow]; decide))) rfl (tk tkL_isUpdateSo 189 rfl) (by decide) (Nat.le_of_ble_eq_true rfl) (fun x hW => ?_)
        refine pw_iload_n (tk tkL_isUpdateSo 190 rfl) rfl ?_
        refine pw_icmp_ne (tgt := 391) (tk tkL_isUpdateSo 191 rfl) (by decide) (fun c384 => ?_) (fun c384 => absurd c384 hval)
        refine pw_iconst (v := 0) (tk tkL_isUpdateSo 194 rfl) (by decide) ?_
        refine pw_iload (tk tkL_isUpdateSo 195 rfl) rfl ?_
        refine pw_icmp_ne (tgt := 401) (tk tkL_isUpdateSo 196 rfl) (by decide) (fun c394 => absurd (by decide) c394) (fun c394 => ?_)
        refine pw_iconst (v := 1) (tk tkL_isUpdateSo 197 rfl) (by decide) ?_
        refine pw_goto (tgt := 402) (tk tkL_isUpdateSo 198 rfl) (by decide) ?_
        exact pw_ireturn (tk tkL_isUpdateSo 200 rfl) rfl (by decide) (by first | rfl | exact nar_bI _) ⟨_, (aS a, (kM (aK a), H), a.2.2), _, rfl, hW, rfl, hg2, rfl⟩
  | true =>
    obtain ⟨k0, d1, hval⟩ := hs rfl
    subst k0
    refine pw_aload_n (tk tkL_isUpdateSo 0 rfl) rfl ?_
    refine pw_iload_n (tk tkL_isUpdateSo 1 rfl) rfl ?_
    refine pw_iload_n (tk tkL_isUpdateSo 2 rfl) rfl ?_
    refine pw_iload_n (tk tkL_isUpdateSo 3 rfl) rfl ?_
    have z9 := tu_why hT hr hc hv9
    refine rdO (v := 0) hW (ct_X7_whyNotUpdate x a hW.1 hv _ _ _) (by rw [z9]) nz2 (by rw [z9]; exact h0) okX7_whyNotUpdate (tk tkL_isUpdateSo 4 rfl) mkL_113 imX7_whyNotUpdate seX7_whyNotUpdate rfl rfl rfl (by decide) (by decide) (Nat.le_of_ble_eq_true rfl) (fun x hW => ?_)
    rw [z9] at hW
    clear z9
    refine pw_ist5 (tk tkL_isUpdateSo 5 rfl) rfl (by decide) ?_
    refine pw_aload_n (tk tkL_isUpdateSo 6 rfl) rfl ?_
    refine pw_iload_n (tk tkL_isUpdateSo 7 rfl) rfl ?_
    refine pw_iload_n (tk tkL_isUpdateSo 8 rfl) rfl ?_
    refine pw_iload_n (tk tkL_isUpdateSo 9 rfl) rfl ?_
    have z9 := tu_ev hT hr hc hv9
    refine rdO (v := nI 0) hW (ct_X7_eventsOfUpdate x a hW.1 hv _ _ _) (by rw [z9]) nz2 (by rw [z9]; exact (if_pos hle).trans uk) okX7_eventsOfUpdate (tk tkL_isUpdateSo 10 rfl) mkL_116 imX7_eventsOfUpdate seX7_eventsOfUpdate rfl rfl rfl (by decide) (by decide) (Nat.le_of_ble_eq_true rfl) (fun x hW => ?_)
    rw [z9] at hW
    clear z9
    refine pw_ist6 (tk tkL_isUpdateSo 11 rfl) rfl (by decide) ?_
    refine pw_aload_n (tk tkL_isUpdateSo 12 rfl) rfl ?_
    refine pw_iload_n (tk tkL_isUpdateSo 13 rfl) rfl ?_
    refine pw_iload_n (tk tkL_isUpdateSo 14 rfl) rfl ?_
    refine pw_iload_n (tk tkL_isUpdateSo 15 rfl) rfl ?_
    have z9 := tu_de hT hr hc hv9
    refine rdO (v := -1) hW (ct_X7_depthOfUpdate x a hW.1 hv _ _ _) (by rw [z9]) nz2 (by rw [z9]; exact (if_pos hle).trans d1) okX7_depthOfUpdate (tk tkL_isUpdateSo 16 rfl) mkL_119 imX7_depthOfUpdate seX7_depthOfUpdate rfl rfl rfl (by decide) (by decide) (Nat.le_of_ble_eq_true rfl) (fun x hW => ?_)
    rw [z9] at hW
    clear z9
    refine pw_ist7 (tk tkL_isUpdateSo 17 rfl) rfl (by decide) ?_
    refine pw_aload_n (tk tkL_isUpdateSo 18 rfl) rfl ?_
    refine rO_eventCount hW hv  (v := aS a 98) rfl rfl (tk tkL_isUpdateSo 19 rfl) (by decide) (Nat.le_of_ble_eq_true rfl) (fun x hW => ?_)
    refine pw_ist8 (tk tkL_isUpdateSo 20 rfl) rfl (by decide) ?_
    refine pw_aload_n (tk tkL_isUpdateSo 21 rfl) rfl ?_
    refine rO_logSize hW hv  (v := aS a 99) rfl rfl (tk tkL_isUpdateSo 22 rfl) (by decide) (Nat.le_of_ble_eq_true rfl) (fun x hW => ?_)
    refine pw_ist9 (tk tkL_isUpdateSo 23 rfl) rfl (by decide) ?_
    refine pw_aload_n (tk tkL_isUpdateSo 24 rfl) rfl ?_
    refine rO_undoCount hW hv  (v := nI (aK a)) rfl rfl (tk tkL_isUpdateSo 25 rfl) (by decide) (Nat.le_of_ble_eq_true rfl) (fun x hW => ?_)
    refine pw_ist10 (tk tkL_isUpdateSo 26 rfl) rfl (by decide) ?_
    refine pw_aload_n (tk tkL_isUpdateSo 27 rfl) rfl ?_
    refine pw_iload_n (tk tkL_isUpdateSo 28 rfl) rfl ?_
    refine rO_hasRow hW hv (inR_r (n := 5) (show r ≤ 5 by omega) (by decide)) ((v_hasRow (show r < 6 by omega)).trans (if_pos hrow)) rfl (tk tkL_isUpdateSo 29 rfl) (by decide) (Nat.le_of_ble_eq_true rfl) (fun x hW => ?_)
    refine pw_ist11 (tk tkL_isUpdateSo 30 rfl) rfl (by decide) ?_
    refine pw_iload (tk tkL_isUpdateSo 31 rfl) rfl ?_
    refine pw_if_eq (tgt := 71) (tk tkL_isUpdateSo 32 rfl) (by decide) (fun c54 => absurd c54 (by decide)) (fun c54 => ?_)
    refine pw_aload_n (tk tkL_isUpdateSo 33 rfl) rfl ?_
    refine pw_iload_n (tk tkL_isUpdateSo 34 rfl) rfl ?_
    refine pw_iload_n (tk tkL_isUpdateSo 35 rfl) rfl ?_
    refine rO_valueAt hW hv (inR_r (n := 5) (show r ≤ 5 by omega) (by decide)) (inR_r (n := 2) (show c ≤ 2 by omega) (by decide)) (by rw [nI_clamp (by omega), hrow]; decide) (v_valueAt (show r < 6 by omega) hc (by rw [hrow]; decide)) rfl (tk tkL_isUpdateSo 36 rfl) (by decide) (Nat.le_of_ble_eq_true rfl) (fun x hW => ?_)
    refine pw_iload_n (tk tkL_isUpdateSo 37 rfl) rfl ?_
    refine pw_icmp_ne (tgt := 71) (tk tkL_isUpdateSo 38 rfl) (by decide) (fun c64 => absurd hval c64) (fun c64 => ?_)
    refine pw_iconst (v := 1) (tk tkL_isUpdateSo 39 rfl) (by decide) ?_
    refine pw_goto (tgt := 72) (tk tkL_isUpdateSo 40 rfl) (by decide) ?_
    refine pw_ist12 (tk tkL_isUpdateSo 42 rfl) rfl (by decide) ?_
    refine pw_aload_n (tk tkL_isUpdateSo 43 rfl) rfl ?_
    refine pw_iconst (v := 4) (tk tkL_isUpdateSo 44 rfl) (by decide) ?_
    refine pw_iload_n (tk tkL_isUpdateSo 45 rfl) rfl ?_
    refine pw_iload_n (tk tkL_isUpdateSo 46 rfl) rfl ?_
    refine pw_iload_n (tk tkL_isUpdateSo 47 rfl) rfl ?_
    refine pw_aload (tk tkL_isUpdateSo 48 rfl) rfl ?_
    refine pw_callSW (k := 6) (ct_L_update x hW hg _ _ _) rfl (List.cons_ne_nil _ _) cwL_changes iiL ⟨by decide +kernel, by decide +kernel, by decide +kernel⟩ (by decide) (tk tkL_isUpdateSo 49 rfl) mkL_55 stL_changes rfl rfl (by decide) (by decide) (Nat.le_of_ble_eq_true rfl) (fun r9 h9 q9 => ?_)
    rw [tu_ok hT hr hc hv9 h0] at q9
    obtain ⟨x, rfl, g1, g2, e, g3⟩ := q9
    cases e
    show PW ML_isUpdateSo 33 _ _ _ [.int 0] (hp x) _
    have hW : W2 (fin T (aS a), recH a (aS a), a.2.2) b (x.2.2 0) x := ⟨g1, g2, rfl⟩
    have hout : x.2.2 0 = T.2.1 := g3 rfl
    clear g1 g2 g3
    refine pw_ist13 (tk tkL_isUpdateSo 50 rfl) rfl (by decide) ?_
    refine pw_iload (tk tkL_isUpdateSo 51 rfl) rfl ?_
    refine pw_iload (tk tkL_isUpdateSo 52 rfl) rfl ?_
    refine pw_if_ne (tgt := 97) (tk tkL_isUpdateSo 53 rfl) (by decide) (fun c90 => c90 (by decide) |>.elim) (fun c90 => ?_)
    refine pw_iconst (v := 0) (tk tkL_isUpdateSo 54 rfl) (by decide) ?_
    refine pw_goto (tgt := 98) (tk tkL_isUpdateSo 55 rfl) (by decide) ?_
    refine pw_icmp_ne (tgt := 229) (tk tkL_isUpdateSo 57 rfl) (by decide) (fun c98 => absurd (by decide) c98) (fun c98 => ?_)
    refine pw_iload (tk tkL_isUpdateSo 58 rfl) rfl ?_
    refine pw_iconst (v := 1) (tk tkL_isUpdateSo 59 rfl) (by decide) ?_
    refine pw_icmp_ne (tgt := 111) (tk tkL_isUpdateSo 60 rfl) (by decide) (fun c104 => ?_) (fun c104 => absurd c104 (by decide))
    refine pw_iconst (v := 0) (tk tkL_isUpdateSo 63 rfl) (by decide) ?_
    refine pw_iload (tk tkL_isUpdateSo 64 rfl) rfl ?_
    refine pw_if_ne (tgt := 121) (tk tkL_isUpdateSo 65 rfl) (by decide) (fun c114 => ?_) (fun c114 => absurd c114 (by decide))
    refine pw_iconst (v := 0) (tk tkL_isUpdateSo 68 rfl) (by decide) ?_
    refine pw_icmp_ne (tgt := 229) (tk tkL_isUpdateSo 69 rfl) (by decide) (fun c122 => absurd (by decide) c122) (fun c122 => ?_)
    refine pw_iload (tk tkL_isUpdateSo 70 rfl) rfl ?_
    refine pw_if_eq (tgt := 140) (tk tkL_isUpdateSo 71 rfl) (by decide) (fun c127 => absurd c127 (by decide)) (fun c127 => ?_)
    refine pw_iload (tk tkL_isUpdateSo 72 rfl) rfl ?_
    refine pw_if_ne (tgt := 229) (tk tkL_isUpdateSo 73 rfl) (by decide) (fun c132 => c132 (by decide) |>.elim) (fun c132 => ?_)
    refine pw_iload (tk tkL_isUpdateSo 74 rfl) rfl ?_
    refine pw_if_ne (tgt := 229) (tk tkL_isUpdateSo 75 rfl) (by decide) (fun c137 => c137 (by decide) |>.elim) (fun c137 => ?_)
    refine pw_iload (tk tkL_isUpdateSo 76 rfl) rfl ?_
    refine pw_if_ne (tgt := 206) (tk tkL_isUpdateSo 77 rfl) (by decide) (fun c142 => c142 (by decide) |>.elim) (fun c142 => ?_)
    refine pw_iload (tk tkL_isUpdateSo 78 rfl) rfl ?_
    refine pw_if_lt (tgt := 229) (tk tkL_isUpdateSo 79 rfl) (by decide) (fun c147 => absurd c147 (by decide)) (fun c147 => ?_)
    refine pw_iload (tk tkL_isUpdateSo 80 rfl) rfl ?_
    refine pw_bipush (v := 100) (tk tkL_isUpdateSo 81 rfl) (by decide) ?_
    refine pw_icmp_gt (tgt := 229) (tk tkL_isUpdateSo 82 rfl) (by decide) (fun c154 => absurd c154 (by decide)) (fun c154 => ?_)
    refine pw_iload (tk tkL_isUpdateSo 83 rfl) rfl ?_
    refine pw_if_ne (tgt := 166) (tk tkL_isUpdateSo 84 rfl) (by decide) (fun c159 => c159 (by decide) |>.elim) (fun c159 => ?_)
    refine pw_iconst (v := 1) (tk tkL_isUpdateSo 85 rfl) (by decide) ?_
    refine pw_goto (tgt := 167) (tk tkL_isUpdateSo 86 rfl) (by decide) ?_
    refine pw_iload (tk tkL_isUpdateSo 88 rfl) rfl ?_
    refine pw_icmp_ne (tgt := 229) (tk tkL_isUpdateSo 89 rfl) (by decide) (fun c169 => absurd (by decide) c169) (fun c169 => ?_)
    refine pw_iload (tk tkL_isUpdateSo 90 rfl) rfl ?_
    refine pw_iconst (v := (-1)) (tk tkL_isUpdateSo 91 rfl) (by decide) ?_
    refine pw_icmp_ne (tgt := 182) (tk tkL_isUpdateSo 92 rfl) (by decide) (fun c175 => absurd (by decide) c175) (fun c175 => ?_)
    refine pw_iconst (v := 1) (tk tkL_isUpdateSo 93 rfl) (by decide) ?_
    refine pw_goto (tgt := 183) (tk tkL_isUpdateSo 94 rfl) (by decide) ?_
    refine pw_iload (tk tkL_isUpdateSo 96 rfl) rfl ?_
    refine pw_if_ne (tgt := 192) (tk tkL_isUpdateSo 97 rfl) (by decide) (fun c185 => c185 (by decide) |>.elim) (fun c185 => ?_)
    refine pw_iconst (v := 1) (tk tkL_isUpdateSo 98 rfl) (by decide) ?_
    refine pw_goto (tgt := 193) (tk tkL_isUpdateSo 99 rfl) (by decide) ?_
    refine pw_icmp_ne (tgt := 229) (tk tkL_isUpdateSo 101 rfl) (by decide) (fun c193 => absurd (by decide) c193) (fun c193 => ?_)
    refine pw_iload (tk tkL_isUpdateSo 102 rfl) rfl ?_
    refine pw_bipush (v := 6) (tk tkL_isUpdateSo 103 rfl) (by decide) ?_
    refine pw_icmp_ge (tgt := 229) (tk tkL_isUpdateSo 104 rfl) (by decide) (fun c200 => absurd c200 (by decide)) (fun c200 => ?_)
    refine pw_goto (tgt := 225) (tk tkL_isUpdateSo 105 rfl) (by decide) ?_
    refine pw_iconst (v := 1) (tk tkL_isUpdateSo 115 rfl) (by decide) ?_
    refine pw_goto (tgt := 230) (tk tkL_isUpdateSo 116 rfl) (by decide) ?_
    refine pw_ist14 (tk tkL_isUpdateSo 118 rfl) rfl (by decide) ?_
    refine pw_iload (tk tkL_isUpdateSo 119 rfl) rfl ?_
    refine pw_if_eq (tgt := 275) (tk tkL_isUpdateSo 120 rfl) (by decide) (fun c234 => ?_) (fun c234 => c234 (by decide) |>.elim)
    refine pw_iload (tk tkL_isUpdateSo 139 rfl) rfl ?_
    refine pw_if_eq (tgt := 339) (tk tkL_isUpdateSo 140 rfl) (by decide) (fun c277 => absurd c277 (by decide)) (fun c277 => ?_)
    refine pw_aload (tk tkL_isUpdateSo 141 rfl) rfl ?_
    refine pw_iconst (v := 0) (tk tkL_isUpdateSo 142 rfl) (by decide) ?_
    refine al_out_e (e := 0) (tk tkL_isUpdateSo 143 rfl) rfl (by first | decide | omega) ?_
    refine pw_iload (tk tkL_isUpdateSo 144 rfl) rfl ?_
    refine pw_icmp_ne (tgt := 339) (tk tkL_isUpdateSo 145 rfl) (by decide) (fun c286 => absurd (show x.2.2 0 = nI 0 from hout.trans uk) c286) (fun c286 => ?_)
    refine pw_aload_n (tk tkL_isUpdateSo 146 rfl) rfl ?_
    refine rO_eventCount hW hS  (v := fin T (aS a) 98) rfl rfl (tk tkL_isUpdateSo 147 rfl) (by decide) (Nat.le_of_ble_eq_true rfl) (fun x hW => ?_)
    refine pw_iload (tk tkL_isUpdateSo 148 rfl) rfl ?_
    refine pw_iload (tk tkL_isUpdateSo 149 rfl) rfl ?_
    refine pw_iadd (tk tkL_isUpdateSo 150 rfl) ?_
    refine pw_icmp_ne (tgt := 339) (tk tkL_isUpdateSo 151 rfl) (by decide) (fun c298 => absurd u98 c298) (fun c298 => ?_)
    refine pw_aload_n (tk tkL_isUpdateSo 152 rfl) rfl ?_
    refine rO_logSize hW hS  (v := fin T (aS a) 99) rfl rfl (tk tkL_isUpdateSo 153 rfl) (by decide) (Nat.le_of_ble_eq_true rfl) (fun x hW => ?_)
    refine pw_iload (tk tkL_isUpdateSo 154 rfl) rfl ?_
    refine pw_bipush (v := 16) (tk tkL_isUpdateSo 155 rfl) (by decide) ?_
    refine pw_icmp_ge (tgt := 317) (tk tkL_isUpdateSo 156 rfl) (by decide) (fun c309 => ?_) (fun c309 => ?_)
    · refine pw_bipush (v := 16) (tk tkL_isUpdateSo 159 rfl) (by decide) ?_
      refine pw_icmp_lt (tgt := 339) (tk tkL_isUpdateSo 160 rfl) (by decide) (fun c319 => absurd c319 (by rw [uq99, show (16 : Int32) = nI 16 from rfl]; have z : 16 ≤ p := nIle (by decide) (by omega) (show nI 16 ≤ nI p by rw [← up99]; exact c309); exact nI_nlt (by omega) (by omega))) (fun c319 => ?_)
      refine pw_aload_n (tk tkL_isUpdateSo 161 rfl) rfl ?_
      refine rO_ruleCount hW hS  (v := nI (uN (aS a))) u25 rfl (tk tkL_isUpdateSo 162 rfl) (by decide) (Nat.le_of_ble_eq_true rfl) (fun x hW => ?_)
      refine pw_if_gt (tgt := 335) (tk tkL_isUpdateSo 163 rfl) (by decide) (fun c326 => ?_) (fun c326 => ?_)
      · refine pw_iconst (v := 1) (tk tkL_isUpdateSo 167 rfl) (by decide) ?_
        refine pw_goto (tgt := 340) (tk tkL_isUpdateSo 168 rfl) (by decide) ?_
        refine pw_ist14 (tk tkL_isUpdateSo 170 rfl) rfl (by decide) ?_
        refine pw_iload (tk tkL_isUpdateSo 171 rfl) rfl ?_
        refine pw_if_eq (tgt := 401) (tk tkL_isUpdateSo 172 rfl) (by decide) (fun c344 => absurd c344 (by decide)) (fun c344 => ?_)
        refine pw_aload_n (tk tkL_isUpdateSo 173 rfl) rfl ?_
        refine rdO (v := nI (kM (aK a))) hW (ct_u x (y := 0) (fin T (aS a)) hW.1 hS hg) (by rw [hun]) nz1 (by rw [hun]) okX7_undo (tk tkL_isUpdateSo 174 rfl) mkL_125 imX7_undo seX7_undo rfl rfl rfl (by decide) (by decide) (Nat.le_of_ble_eq_true rfl) (fun x hW => ?_)
        rw [hun] at hW
        refine pw_if_lt (tgt := 401) (tk tkL_isUpdateSo 175 rfl) (by decide) (fun c351 => absurd c351 (nI_pos (kM_le hK6))) (fun c351 => ?_)
        refine pw_aload_n (tk tkL_isUpdateSo 176 rfl) rfl ?_
        refine rO_eventCount hW hg2.1  (v := aS a 98) rfl rfl (tk tkL_isUpdateSo 177 rfl) (by decide) (Nat.le_of_ble_eq_true rfl) (fun x hW => ?_)
        refine pw_iload (tk tkL_isUpdateSo 178 rfl) rfl ?_
        refine pw_icmp_ne (tgt := 401) (tk tkL_isUpdateSo 179 rfl) (by decide) (fun c360 => absurd rfl c360) (fun c360 => ?_)
        refine pw_aload_n (tk tkL_isUpdateSo 180 rfl) rfl ?_
        refine rO_logSize hW hv  (v := aS a 99) rfl rfl (tk tkL_isUpdateSo 181 rfl) (by decide) (Nat.le_of_ble_eq_true rfl) (fun x hW => ?_)
        refine pw_iload (tk tkL_isUpdateSo 182 rfl) rfl ?_
        refine pw_icmp_ne (tgt := 401) (tk tkL_isUpdateSo 183 rfl) (by decide) (fun c369 => absurd rfl c369) (fun c369 => ?_)
        refine pw_iload (tk tkL_isUpdateSo 184 rfl) rfl ?_
        refine pw_if_eq (tgt := 397) (tk tkL_isUpdateSo 185 rfl) (by decide) (fun c374 => absurd c374 (by decide)) (fun c374 => ?_)
        refine pw_aload_n (tk tkL_isUpdateSo 186 rfl) rfl ?_
        refine pw_iload_n (tk tkL_isUpdateSo 187 rfl) rfl ?_
        refine pw_iload_n (tk tkL_isUpdateSo 188 rfl) rfl ?_
        refine rO_valueAt hW hg2.1 (inR_r (n := 5) (show r ≤ 5 by omega) (by decide)) (inR_r (n := 2) (show c ≤ 2 by omega) (by decide)) (by show ¬ aS a (nI r).toNatClampNeg = 0; rw [nI_clamp (by omega), hrow]; decide) ((v_valueAt (a := (aS a, (kM (aK a), H), a.2.2)) (show r < 6 by omega) hc (show ¬ aS a r = 0 by rw [hrow]; decide))) rfl (tk tkL_isUpdateSo 189 rfl) (by decide) (Nat.le_of_ble_eq_true rfl) (fun x hW => ?_)
        refine pw_iload_n (tk tkL_isUpdateSo 190 rfl) rfl ?_
        refine pw_icmp_ne (tgt := 391) (tk tkL_isUpdateSo 191 rfl) (by decide) (fun c384 => absurd hval c384) (fun c384 => ?_)
        refine pw_iconst (v := 1) (tk tkL_isUpdateSo 192 rfl) (by decide) ?_
        refine pw_goto (tgt := 392) (tk tkL_isUpdateSo 193 rfl) (by decide) ?_
        refine pw_iload (tk tkL_isUpdateSo 195 rfl) rfl ?_
        refine pw_icmp_ne (tgt := 401) (tk tkL_isUpdateSo 196 rfl) (by decide) (fun c394 => absurd (by decide) c394) (fun c394 => ?_)
        refine pw_iconst (v := 1) (tk tkL_isUpdateSo 197 rfl) (by decide) ?_
        refine pw_goto (tgt := 402) (tk tkL_isUpdateSo 198 rfl) (by decide) ?_
        exact pw_ireturn (tk tkL_isUpdateSo 200 rfl) rfl (by decide) (by first | rfl | exact nar_bI _) ⟨_, (aS a, (kM (aK a), H), a.2.2), _, rfl, hW, rfl, hg2, rfl⟩
      · refine pw_iload (tk tkL_isUpdateSo 164 rfl) rfl ?_
        refine pw_iconst (v := 1) (tk tkL_isUpdateSo 165 rfl) (by decide) ?_
        refine pw_icmp_gt (tgt := 339) (tk tkL_isUpdateSo 166 rfl) (by decide) (fun c332 => absurd c332 (by decide)) (fun c332 => ?_)
        refine pw_iconst (v := 1) (tk tkL_isUpdateSo 167 rfl) (by decide) ?_
        refine pw_goto (tgt := 340) (tk tkL_isUpdateSo 168 rfl) (by decide) ?_
        refine pw_ist14 (tk tkL_isUpdateSo 170 rfl) rfl (by decide) ?_
        refine pw_iload (tk tkL_isUpdateSo 171 rfl) rfl ?_
        refine pw_if_eq (tgt := 401) (tk tkL_isUpdateSo 172 rfl) (by decide) (fun c344 => absurd c344 (by decide)) (fun c344 => ?_)
        refine pw_aload_n (tk tkL_isUpdateSo 173 rfl) rfl ?_
        refine rdO (v := nI (kM (aK a))) hW (ct_u x (y := 0) (fin T (aS a)) hW.1 hS hg) (by rw [hun]) nz1 (by rw [hun]) okX7_undo (tk tkL_isUpdateSo 174 rfl) mkL_125 imX7_undo seX7_undo rfl rfl rfl (by decide) (by decide) (Nat.le_of_ble_eq_true rfl) (fun x hW => ?_)
        rw [hun] at hW
        refine pw_if_lt (tgt := 401) (tk tkL_isUpdateSo 175 rfl) (by decide) (fun c351 => absurd c351 (nI_pos (kM_le hK6))) (fun c351 => ?_)
        refine pw_aload_n (tk tkL_isUpdateSo 176 rfl) rfl ?_
        refine rO_eventCount hW hg2.1  (v := aS a 98) rfl rfl (tk tkL_isUpdateSo 177 rfl) (by decide) (Nat.le_of_ble_eq_true rfl) (fun x hW => ?_)
        refine pw_iload (tk tkL_isUpdateSo 178 rfl) rfl ?_
        refine pw_icmp_ne (tgt := 401) (tk tkL_isUpdateSo 179 rfl) (by decide) (fun c360 => absurd rfl c360) (fun c360 => ?_)
        refine pw_aload_n (tk tkL_isUpdateSo 180 rfl) rfl ?_
        refine rO_logSize hW hv  (v := aS a 99) rfl rfl (tk tkL_isUpdateSo 181 rfl) (by decide) (Nat.le_of_ble_eq_true rfl) (fun x hW => ?_)
        refine pw_iload (tk tkL_isUpdateSo 182 rfl) rfl ?_
        refine pw_icmp_ne (tgt := 401) (tk tkL_isUpdateSo 183 rfl) (by decide) (fun c369 => absurd rfl c369) (fun c369 => ?_)
        refine pw_iload (tk tkL_isUpdateSo 184 rfl) rfl ?_
        refine pw_if_eq (tgt := 397) (tk tkL_isUpdateSo 185 rfl) (by decide) (fun c374 => absurd c374 (by decide)) (fun c374 => ?_)
        refine pw_aload_n (tk tkL_isUpdateSo 186 rfl) rfl ?_
        refine pw_iload_n (tk tkL_isUpdateSo 187 rfl) rfl ?_
        refine pw_iload_n (tk tkL_isUpdateSo 188 rfl) rfl ?_
        refine rO_valueAt hW hg2.1 (inR_r (n := 5) (show r ≤ 5 by omega) (by decide)) (inR_r (n := 2) (show c ≤ 2 by omega) (by decide)) (by show ¬ aS a (nI r).toNatClampNeg = 0; rw [nI_clamp (by omega), hrow]; decide) ((v_valueAt (a := (aS a, (kM (aK a), H), a.2.2)) (show r < 6 by omega) hc (show ¬ aS a r = 0 by rw [hrow]; decide))) rfl (tk tkL_isUpdateSo 189 rfl) (by decide) (Nat.le_of_ble_eq_true rfl) (fun x hW => ?_)
        refine pw_iload_n (tk tkL_isUpdateSo 190 rfl) rfl ?_
        refine pw_icmp_ne (tgt := 391) (tk tkL_isUpdateSo 191 rfl) (by decide) (fun c384 => absurd hval c384) (fun c384 => ?_)
        refine pw_iconst (v := 1) (tk tkL_isUpdateSo 192 rfl) (by decide) ?_
        refine pw_goto (tgt := 392) (tk tkL_isUpdateSo 193 rfl) (by decide) ?_
        refine pw_iload (tk tkL_isUpdateSo 195 rfl) rfl ?_
        refine pw_icmp_ne (tgt := 401) (tk tkL_isUpdateSo 196 rfl) (by decide) (fun c394 => absurd (by decide) c394) (fun c394 => ?_)
        refine pw_iconst (v := 1) (tk tkL_isUpdateSo 197 rfl) (by decide) ?_
        refine pw_goto (tgt := 402) (tk tkL_isUpdateSo 198 rfl) (by decide) ?_
        exact pw_ireturn (tk tkL_isUpdateSo 200 rfl) rfl (by decide) (by first | rfl | exact nar_bI _) ⟨_, (aS a, (kM (aK a), H), a.2.2), _, rfl, hW, rfl, hg2, rfl⟩
    · refine pw_iload (tk tkL_isUpdateSo 157 rfl) rfl ?_
      refine pw_goto (tgt := 319) (tk tkL_isUpdateSo 158 rfl) (by decide) ?_
      refine pw_icmp_lt (tgt := 339) (tk tkL_isUpdateSo 160 rfl) (by decide) (fun c319 => absurd c319 (by rw [uq99, up99]; exact nI_nlt upq (by omega))) (fun c319 => ?_)
      refine pw_aload_n (tk tkL_isUpdateSo 161 rfl) rfl ?_
      refine rO_ruleCount hW hS  (v := nI (uN (aS a))) u25 rfl (tk tkL_isUpdateSo 162 rfl) (by decide) (Nat.le_of_ble_eq_true rfl) (fun x hW => ?_)
      refine pw_if_gt (tgt := 335) (tk tkL_isUpdateSo 163 rfl) (by decide) (fun c326 => ?_) (fun c326 => ?_)
      · refine pw_iconst (v := 1) (tk tkL_isUpdateSo 167 rfl) (by decide) ?_
        refine pw_goto (tgt := 340) (tk tkL_isUpdateSo 168 rfl) (by decide) ?_
        refine pw_ist14 (tk tkL_isUpdateSo 170 rfl) rfl (by decide) ?_
        refine pw_iload (tk tkL_isUpdateSo 171 rfl) rfl ?_
        refine pw_if_eq (tgt := 401) (tk tkL_isUpdateSo 172 rfl) (by decide) (fun c344 => absurd c344 (by decide)) (fun c344 => ?_)
        refine pw_aload_n (tk tkL_isUpdateSo 173 rfl) rfl ?_
        refine rdO (v := nI (kM (aK a))) hW (ct_u x (y := 0) (fin T (aS a)) hW.1 hS hg) (by rw [hun]) nz1 (by rw [hun]) okX7_undo (tk tkL_isUpdateSo 174 rfl) mkL_125 imX7_undo seX7_undo rfl rfl rfl (by decide) (by decide) (Nat.le_of_ble_eq_true rfl) (fun x hW => ?_)
        rw [hun] at hW
        refine pw_if_lt (tgt := 401) (tk tkL_isUpdateSo 175 rfl) (by decide) (fun c351 => absurd c351 (nI_pos (kM_le hK6))) (fun c351 => ?_)
        refine pw_aload_n (tk tkL_isUpdateSo 176 rfl) rfl ?_
        refine rO_eventCount hW hg2.1  (v := aS a 98) rfl rfl (tk tkL_isUpdateSo 177 rfl) (by decide) (Nat.le_of_ble_eq_true rfl) (fun x hW => ?_)
        refine pw_iload (tk tkL_isUpdateSo 178 rfl) rfl ?_
        refine pw_icmp_ne (tgt := 401) (tk tkL_isUpdateSo 179 rfl) (by decide) (fun c360 => absurd rfl c360) (fun c360 => ?_)
        refine pw_aload_n (tk tkL_isUpdateSo 180 rfl) rfl ?_
        refine rO_logSize hW hv  (v := aS a 99) rfl rfl (tk tkL_isUpdateSo 181 rfl) (by decide) (Nat.le_of_ble_eq_true rfl) (fun x hW => ?_)
        refine pw_iload (tk tkL_isUpdateSo 182 rfl) rfl ?_
        refine pw_icmp_ne (tgt := 401) (tk tkL_isUpdateSo 183 rfl) (by decide) (fun c369 => absurd rfl c369) (fun c369 => ?_)
        refine pw_iload (tk tkL_isUpdateSo 184 rfl) rfl ?_
        refine pw_if_eq (tgt := 397) (tk tkL_isUpdateSo 185 rfl) (by decide) (fun c374 => absurd c374 (by decide)) (fun c374 => ?_)
        refine pw_aload_n (tk tkL_isUpdateSo 186 rfl) rfl ?_
        refine pw_iload_n (tk tkL_isUpdateSo 187 rfl) rfl ?_
        refine pw_iload_n (tk tkL_isUpdateSo 188 rfl) rfl ?_
        refine rO_valueAt hW hg2.1 (inR_r (n := 5) (show r ≤ 5 by omega) (by decide)) (inR_r (n := 2) (show c ≤ 2 by omega) (by decide)) (by show ¬ aS a (nI r).toNatClampNeg = 0; rw [nI_clamp (by omega), hrow]; decide) ((v_valueAt (a := (aS a, (kM (aK a), H), a.2.2)) (show r < 6 by omega) hc (show ¬ aS a r = 0 by rw [hrow]; decide))) rfl (tk tkL_isUpdateSo 189 rfl) (by decide) (Nat.le_of_ble_eq_true rfl) (fun x hW => ?_)
        refine pw_iload_n (tk tkL_isUpdateSo 190 rfl) rfl ?_
        refine pw_icmp_ne (tgt := 391) (tk tkL_isUpdateSo 191 rfl) (by decide) (fun c384 => absurd hval c384) (fun c384 => ?_)
        refine pw_iconst (v := 1) (tk tkL_isUpdateSo 192 rfl) (by decide) ?_
        refine pw_goto (tgt := 392) (tk tkL_isUpdateSo 193 rfl) (by decide) ?_
        refine pw_iload (tk tkL_isUpdateSo 195 rfl) rfl ?_
        refine pw_icmp_ne (tgt := 401) (tk tkL_isUpdateSo 196 rfl) (by decide) (fun c394 => absurd (by decide) c394) (fun c394 => ?_)
        refine pw_iconst (v := 1) (tk tkL_isUpdateSo 197 rfl) (by decide) ?_
        refine pw_goto (tgt := 402) (tk tkL_isUpdateSo 198 rfl) (by decide) ?_
        exact pw_ireturn (tk tkL_isUpdateSo 200 rfl) rfl (by decide) (by first | rfl | exact nar_bI _) ⟨_, (aS a, (kM (aK a), H), a.2.2), _, rfl, hW, rfl, hg2, rfl⟩
      · refine pw_iload (tk tkL_isUpdateSo 164 rfl) rfl ?_
        refine pw_iconst (v := 1) (tk tkL_isUpdateSo 165 rfl) (by decide) ?_
        refine pw_icmp_gt (tgt := 339) (tk tkL_isUpdateSo 166 rfl) (by decide) (fun c332 => absurd c332 (by decide)) (fun c332 => ?_)
        refine pw_iconst (v := 1) (tk tkL_isUpdateSo 167 rfl) (by decide) ?_
        refine pw_goto (tgt := 340) (tk tkL_isUpdateSo 168 rfl) (by decide) ?_
        refine pw_ist14 (tk tkL_isUpdateSo 170 rfl) rfl (by decide) ?_
        refine pw_iload (tk tkL_isUpdateSo 171 rfl) rfl ?_
        refine pw_if_eq (tgt := 401) (tk tkL_isUpdateSo 172 rfl) (by decide) (fun c344 => absurd c344 (by decide)) (fun c344 => ?_)
        refine pw_aload_n (tk tkL_isUpdateSo 173 rfl) rfl ?_
        refine rdO (v := nI (kM (aK a))) hW (ct_u x (y := 0) (fin T (aS a)) hW.1 hS hg) (by rw [hun]) nz1 (by rw [hun]) okX7_undo (tk tkL_isUpdateSo 174 rfl) mkL_125 imX7_undo seX7_undo rfl rfl rfl (by decide) (by decide) (Nat.le_of_ble_eq_true rfl) (fun x hW => ?_)
        rw [hun] at hW
        refine pw_if_lt (tgt := 401) (tk tkL_isUpdateSo 175 rfl) (by decide) (fun c351 => absurd c351 (nI_pos (kM_le hK6))) (fun c351 => ?_)
        refine pw_aload_n (tk tkL_isUpdateSo 176 rfl) rfl ?_
        refine rO_eventCount hW hg2.1  (v := aS a 98) rfl rfl (tk tkL_isUpdateSo 177 rfl) (by decide) (Nat.le_of_ble_eq_true rfl) (fun x hW => ?_)
        refine pw_iload (tk tkL_isUpdateSo 178 rfl) rfl ?_
        refine pw_icmp_ne (tgt := 401) (tk tkL_isUpdateSo 179 rfl) (by decide) (fun c360 => absurd rfl c360) (fun c360 => ?_)
        refine pw_aload_n (tk tkL_isUpdateSo 180 rfl) rfl ?_
        refine rO_logSize hW hv  (v := aS a 99) rfl rfl (tk tkL_isUpdateSo 181 rfl) (by decide) (Nat.le_of_ble_eq_true rfl) (fun x hW => ?_)
        refine pw_iload (tk tkL_isUpdateSo 182 rfl) rfl ?_
        refine pw_icmp_ne (tgt := 401) (tk tkL_isUpdateSo 183 rfl) (by decide) (fun c369 => absurd rfl c369) (fun c369 => ?_)
        refine pw_iload (tk tkL_isUpdateSo 184 rfl) rfl ?_
        refine pw_if_eq (tgt := 397) (tk tkL_isUpdateSo 185 rfl) (by decide) (fun c374 => absurd c374 (by decide)) (fun c374 => ?_)
        refine pw_aload_n (tk tkL_isUpdateSo 186 rfl) rfl ?_
        refine pw_iload_n (tk tkL_isUpdateSo 187 rfl) rfl ?_
        refine pw_iload_n (tk tkL_isUpdateSo 188 rfl) rfl ?_
        refine rO_valueAt hW hg2.1 (inR_r (n := 5) (show r ≤ 5 by omega) (by decide)) (inR_r (n := 2) (show c ≤ 2 by omega) (by decide)) (by show ¬ aS a (nI r).toNatClampNeg = 0; rw [nI_clamp (by omega), hrow]; decide) ((v_valueAt (a := (aS a, (kM (aK a), H), a.2.2)) (show r < 6 by omega) hc (show ¬ aS a r = 0 by rw [hrow]; decide))) rfl (tk tkL_isUpdateSo 189 rfl) (by decide) (Nat.le_of_ble_eq_true rfl) (fun x hW => ?_)
        refine pw_iload_n (tk tkL_isUpdateSo 190 rfl) rfl ?_
        refine pw_icmp_ne (tgt := 391) (tk tkL_isUpdateSo 191 rfl) (by decide) (fun c384 => absurd hval c384) (fun c384 => ?_)
        refine pw_iconst (v := 1) (tk tkL_isUpdateSo 192 rfl) (by decide) ?_
        refine pw_goto (tgt := 392) (tk tkL_isUpdateSo 193 rfl) (by decide) ?_
        refine pw_iload (tk tkL_isUpdateSo 195 rfl) rfl ?_
        refine pw_icmp_ne (tgt := 401) (tk tkL_isUpdateSo 196 rfl) (by decide) (fun c394 => absurd (by decide) c394) (fun c394 => ?_)
        refine pw_iconst (v := 1) (tk tkL_isUpdateSo 197 rfl) (by decide) ?_
        refine pw_goto (tgt := 402) (tk tkL_isUpdateSo 198 rfl) (by decide) ?_
        exact pw_ireturn (tk tkL_isUpdateSo 200 rfl) rfl (by decide) (by first | rfl | exact nar_bI _) ⟨_, (aS a, (kM (aK a), H), a.2.2), _, rfl, hW, rfl, hg2, rfl⟩
/-- an update is as it was told -/
theorem ct_L_isUpdateSo (x : XW) {a b : AM} {w : Int32} (hW : W2 a b w x) (hg : HGA a) {B : Nat} (iv : IV B (aS a)) {r c v : Nat} (hr : r < 4) (hc : c < 3) (hv9 : v < 1000) : CT ML_isUpdateSo 33 30 [.ref 160, .int (nI r), .int (nI c), .int (nI v), .ref 171] (hp x) (fun o h2 => ∃ y a2 w2, h2 = hp y ∧ W2 a2 b w2 y ∧ aS a2 = aS a ∧ HGA a2 ∧ o = .inl (some (.int 1))) := by
  have hv := hg.1
  obtain ⟨T, hT⟩ : ∃ T, updR (uN (aS a)) (aS a) r c (nI v) = T := ⟨_, rfl⟩
  have hsi : SI2 (B + BD) (uN (aS a)) (aS a) T := by rw [← hT]; exact upd_SI iv (by omega) hc (show inR (nI v) 0 999 = true from inR_t (n := 999) (by omega) (by decide))
  rcases hv.2.2.2.2.1 r (by omega) with h0 | h1
  · have e : T = (aS a, 0, -1, 1) := hT.symm.trans (if_pos h0)
    exact ct_L_uso_bad x hW hg iv hr hc hv9 (k := 1) hT (by rw [e]; rfl) (by decide) (by decide) false ⟨fun _ => rfl, fun _ => rfl⟩ (by rw [h0]; rfl) (fun q => by cases q)
  · have n0 : ¬ aS a r = 0 := by rw [h1]; decide
    by_cases hs : aS a (6 + 3 * r + c) = nI v
    · have e : T = (aS a, 0, -1, 0) := hT.symm.trans ((if_neg n0).trans (if_pos hs))
      have t0 : T.2.2.2 = 0 := by rw [e]
      exact ct_L_uso_ok x hW hg iv hr hc hv9 (k := 0) hT t0 (UO_of hsi t0 (by rw [e]; rfl) (by decide) (fun _ => by decide)) (iv_fin hsi t0).vs h1 true (fun _ => ⟨rfl, by rw [e], hs⟩) (fun q => by cases q)
    · have e : hapT (uN (aS a)) 6 (aS a, 0, -1, 0) 1 r c (nI v) 0 = T := ((if_neg n0).trans (if_neg hs)).symm.trans hT
      have top := hapT_top hv (ev := 1) (r := r) (c := c) (v := nI v) (by omega) hc
      rw [e] at top
      have bad : ∀ k, 2 ≤ k → k ≤ 5 → T.2.2.2 = nI k → CT ML_isUpdateSo 33 30 [.ref 160, .int (nI r), .int (nI c), .int (nI v), .ref 171] (hp x) (fun o h2 => ∃ y a2 w2, h2 = hp y ∧ W2 a2 b w2 y ∧ aS a2 = aS a ∧ HGA a2 ∧ o = .inl (some (.int 1))) := fun k k2 k5 hk =>
        ct_L_uso_bad x hW hg iv hr hc hv9 (k := k) hT hk (by omega) k5 true ⟨fun q => by omega, fun q => by cases q⟩ (by rw [h1]; rfl) (fun _ => hs)
      rcases top with ⟨_, ⟨k, k1, k2, k3⟩, hd, q | q | q | q | q⟩ | q | q | q
      · refine ct_L_uso_ok x hW hg iv hr hc hv9 (k := k) hT q (UO_of hsi q k3 k2 (fun hu => ?_)) (iv_fin hsi q).vs h1 false (fun z => by cases z) (fun _ => ⟨k1, hd, hs⟩)
        rw [hu] at e
        have := hapT_u0 (s := aS a) (ev := 1) (r := r) (c := c) (v := nI v) (by rw [e]; exact q)
        rw [e, k3] at this
        exact Nat.le_of_eq ((nI_eq (b := 1) (by omega) (by decide)).mp this)
      · exact bad 2 (by decide) (by decide) q
      · exact bad 3 (by decide) (by decide) q
      · exact bad 4 (by decide) (by decide) q
      · exact bad 5 (by decide) (by decide) q
      · exact bad 3 (by decide) (by decide) q
      · exact bad 4 (by decide) (by decide) q
      · exact bad 5 (by decide) (by decide) q
