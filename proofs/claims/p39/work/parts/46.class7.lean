def HB (t : TT) : Prop := ∃ k, k ≤ 100 ∧ t.2.1 = nI k
def KH (u : Nat) (t : TT) : Prop := VS u t.1 ∧ HB t
theorem bgT_KH {u : Nat} {t : TT} (h : KH u t) (ev : Int32) {r c : Nat} (v : Int32) (its : Nat) (hr : r < 6) (hc : c < 3) : KH u (bgT u t ev r c v its) := by
  unfold bgT
  by_cases e : bgC t.1 u t.2.1 ev r c v (nI its) = 0
  · rw [if_pos e]
    obtain ⟨k, hk, ek⟩ := h.2
    refine ⟨alt_VS h.1 ev v hr hc, k + 1, ?_, by rw [ek, nI_1]⟩
    by_cases q : k = 100
    · exfalso
      unfold bgC at e
      by_cases z : ¬ nI its ≤ t.1 24
      · rw [if_pos z] at e; exact absurd e (by decide)
      · rw [if_neg z, if_pos (by rw [ek, q]; rfl)] at e; exact absurd e (by decide)
    · omega
  · rw [if_neg e]; exact ⟨h.1, h.2⟩
theorem lpT_KH {u : Nat} {F : Nat → TT → TT} (hF : ∀ i t, i < u → KH u t → KH u (F i t)) (p : Nat → Bool) : ∀ (k i : Nat) (t : TT), i + k = u → KH u t → KH u (lpT F p k i t)
  | 0, _, _, _, h => h
  | k + 1, i, t, e, h => by
    refine lpT_KH hF p k (i + 1) _ (by omega) ?_
    by_cases q : p i = true ∧ t.2.2.2 = 0
    · rw [if_pos q]; exact hF i t (by omega) h
    · rw [if_neg q]; exact h
theorem acT_KH {u : Nat} {H : TT → Int32 → Nat → Nat → Int32 → Nat → TT} (hH : ∀ t ev r c v d, r < 6 → c < 3 → KH u t → KH u (H t ev r c v d)) (d : Nat) (i : Nat) (t : TT) (hi : i < u) (h : KH u t) : KH u (acT H d i t) := by
  obtain ⟨er, hr⟩ := ro_e h.1 hi
  obtain ⟨ec, hc⟩ := co_e h.1 hi
  have h1 : ∀ z, KH u (lgS t.1 i (nI d), t.2.1, z) := fun z => ⟨lgS_VS h.1 _ hi, h.2⟩
  unfold acT
  split
  · exact h1 _
  · split
    · exact hH _ _ _ _ _ _ hr (by decide) (h1 _)
    · split
      · exact h1 _
      · split
        · exact h1 _
        · exact hH _ _ _ _ _ _ hr hc (h1 _)
theorem hapT_KH (u : Nat) : ∀ (f : Nat) (t : TT) (ev : Int32) (r c : Nat) (v : Int32) (d : Nat), r < 6 → c < 3 → KH u t → KH u (hapT u f t ev r c v d)
  | 0, t, ev, r, c, v, d, hr, hc, h => bgT_KH h ev v d hr hc
  | f + 1, t, ev, r, c, v, d, hr, hc, h => by
    show KH u (if _ then _ else _)
    split
    · exact lpT_KH (fun i t hi ht => acT_KH (fun t ev r c v d => hapT_KH u f t ev r c v d) d i t hi ht) _ u 0 _ (by omega) (bgT_KH h ev v d hr hc)
    · exact bgT_KH h ev v d hr hc
/-- all but the trial's state and numbers -/
def FC (x y : XW) : Prop := y.2 = x.2 ∧ (∀ b, b ≠ 1 → cSt y.1 b = cSt x.1 b) ∧ y.1.2.2 = x.1.2.2
theorem FC.rf (x : XW) : FC x x := ⟨rfl, fun _ _ => rfl, rfl⟩
theorem FC.tr {x y z : XW} (h : FC x y) (g : FC y z) : FC x z := ⟨g.1.trans h.1, fun b hb => (g.2.1 b hb).trans (h.2.1 b hb), g.2.2.trans h.2.2⟩
theorem FC.c1 {x y : XW} (h : FC x y) (σ : SS) : FC x (uC1 y 1 σ) := ⟨h.1, fun b hb => (cSt_n _ _ hb).trans (h.2.1 b hb), h.2.2⟩
theorem FC.c2 {x y : XW} (h : FC x y) (f : Nat → Int32) : FC x (uC2 y f) := ⟨h.1, h.2.1, h.2.2⟩
/-- the trial is at t -/
def RT (x : XW) (t : TT) : Prop := RS1 (cSt x.1 1) t.1 (t.1 98 + t.2.1) ∧ cSm x.1 0 = t.2.1 ∧ cSm x.1 1 = t.2.2.1 ∧ cSm x.1 2 = t.2.2.2
theorem RS1.ev {σ : SS} {s : Nat → Int32} {v : Int32} (h : RS1 σ s v) (w : Int32) : RS1 (uS7 σ (upd (sSc σ) 2 w)) s w := ⟨h.1, h.2.1, h.2.2.1, h.2.2.2.1, rfl, h.2.2.2.2.2.1, h.2.2.2.2.2.2⟩
theorem RT.rf {x : XW} {t : TT} (h : RT x t) (w : Int32) : RT (uC2 x (upd (cSm x.1) 2 w)) (t.1, t.2.1, t.2.2.1, w) := ⟨h.1, h.2.1, h.2.2.1, rfl⟩
theorem mx_max (a b : Int32) : (if a < b then b else a) = mx b a := by
  unfold mx
  by_cases h : a < b
  · rw [if_pos h, if_neg (Int32.not_le.mpr h)]
  · rw [if_neg h, if_pos (Int32.not_lt.mp h)]
theorem inR_t {r n : Nat} (h : r ≤ n) (hn : n < 2 ^ 31) : inR (nI r) 0 (nI n) = true := by
  unfold inR; rw [decide_eq_true (nI_pos (by omega)), decide_eq_true (nI_nlt h hn)]; rfl
theorem hap_bad {u f : Nat} {t : TT} {ev : Int32} {r c : Nat} {v : Int32} {its : Nat} (k : Int32) (hk : ¬ k = 0) (h : bgC t.1 u t.2.1 ev r c v (nI its) = k) : hapT u f t ev r c v its = (t.1, t.2.1, t.2.2.1, k) := by
  rw [hapT_bad u f t ev r c v its (by rw [h]; exact hk)]
  unfold bgT
  rw [if_neg (by rw [h]; exact hk), h]
def hnQ (x : XW) (R : TT) : Out → Hp → Prop := fun o h2 => o = .inl none ∧ ∃ y, h2 = hp y ∧ FC x y ∧ RT y R
theorem hnQ.of {x y : XW} {R : TT} {o : Out} {h2 : Hp} (h : FC x y) (q : hnQ y R o h2) : hnQ x R o h2 := by
  obtain ⟨a, z, b, c, d⟩ := q; exact ⟨a, z, b, h.tr c, d⟩
def HC (u f : Nat) : Prop := ∀ its, its + f = 6 → ∀ (x : XW) (t : TT) (ev : Int32) (r c : Nat) (v : Int32), KH u t → RT x t → t.2.2.2 = 0 → r < 6 → c < 3 → CT MX5_happen (2 * f + 3) 0 [.ref 161, .int ev, .int (nI r), .int (nI c), .int v, .int (nI its)] (hp x) (hnQ x (hapT u f t ev r c v its))
def AC (u f : Nat) : Prop := ∀ its, its + f = 5 → ∀ (x : XW) (t : TT) (i : Nat), KH u t → RT x t → t.2.2.2 = 0 → i < u → ¬ rN t.1 i 3 = 1 → CT MX5_act (2 * f + 4) 0 [.ref 161, .int (nI i), .int (nI its)] (hp x) (hnQ x (acT (hapT u f) its i t))
set_option maxRecDepth 100000 in
set_option maxHeartbeats 4000000 in
theorem ct_X5_act (u f : Nat) (HCf : HC u f) : AC u f := by
  intro its hits x t i hk hx h0 hi hne
  refine ct_of (by decide +kernel) (by decide) rfl (k := 3) (ls := [some (.ref 161), some (.int (nI i)), some (.int (nI its)), none, none, none]) rfl (Nat.le_of_ble_eq_true rfl) ?_
  have hv := hk.1
  have hu8 := hv.1
  have eu := hv.un
  obtain ⟨er, hr⟩ := ro_e hv hi
  obtain ⟨ec, hc⟩ := co_e hv hi
  have nt : ∀ j, j < 99 → j ≠ 26 + 9 * i + 8 → lgS t.1 i (nI its) j = t.1 j := fun j h1 h2 => lgS_nt t.1 i _ h1 h2
  obtain ⟨l, ⟨l1, l2, la, l3, l4, l5⟩, l6⟩ := hx.1.2.2.2.2.2.2
  have hR := hx.1.act (i := i) (by omega) (by omega) (nI its) l1 l3 l5 l6
  obtain ⟨τ, eτ⟩ : ∃ τ, τ = ntS (uS3 (cSt x.1 1) (upR (sRu (cSt x.1 1)) i (upd (sRu (cSt x.1 1) i) 8 (sRu (cSt x.1 1) i 8 + 1)))) la l.length (nI i) (nI its) := ⟨_, rfl⟩
  rw [← eτ] at hR
  obtain ⟨z, ez⟩ : ∃ z, z = uC1 x 1 τ := ⟨_, rfl⟩
  have fz : FC x z := by rw [ez]; exact (FC.rf x).c1 τ
  have ezs : cSt z.1 1 = τ := by rw [ez, cSt_u]
  have rz : RT z (lgS t.1 i (nI its), t.2) := by
    refine ⟨?_, by rw [ez]; exact hx.2.1, by rw [ez]; exact hx.2.2.1, by rw [ez]; exact hx.2.2.2⟩
    rw [ezs]
    show RS1 τ (lgS t.1 i (nI its)) (lgS t.1 i (nI its) 98 + t.2.1)
    rw [nt 98 (by omega) (by omega)]; exact hR
  have kz : KH u (lgS t.1 i (nI its), t.2) := ⟨lgS_VS hv _ hi, hk.2⟩
  obtain ⟨a1, a2, a3, a4, a5, a6, a7⟩ := rz.1
  have eu2 : uN (lgS t.1 i (nI its)) = u := kz.1.un
  have hru : ∀ k, k < 8 → sRu (cSt z.1 1) i k = rN t.1 i k := fun k h8 => (a6 i k (by show i < uN (lgS t.1 i (nI its)); omega) (by omega)).trans (nt _ (by omega) (by omega))
  have e4 := hru 4 (by omega)
  have e3 := hru 3 (by omega)
  have e5 := hru 5 (by omega)
  have e6 := hru 6 (by omega)
  have eth : sTh (cSt z.1 1) (ro t.1 i) = lgS t.1 i (nI its) (ro t.1 i) := a1 _ hr
  have eva : sVa (cSt z.1 1) (3 * ro t.1 i + co t.1 i) = lgS t.1 i (nI its) (6 + 3 * ro t.1 i + co t.1 i) := by rw [a2 _ (by omega), ← Nat.add_assoc]
  have hrow : inR (nI (ro t.1 i)) 0 5 = true := inR_t (n := 5) (by omega) (by decide)
  have J : PW MX5_act (2 * f + 4) 0 32 [some (.ref 161), some (.int (nI i)), some (.int (nI its)), some (.ref (16 * 1 + (7 + i))), none, none] [] (hp z) (hnQ x (acT (hapT u f) its i t)) := by
    refine pw_aload_n (tk tkX5_act 18 rfl) rfl ?_
    refine g3_targetRow (by first | assumption | decide | omega) (by first | assumption | decide | omega) (tk tkX5_act 19 rfl) fkX5_106 ?_
    rw [e4, er]
    refine pw_ist4 (tk tkX5_act 20 rfl) rfl (by decide) ?_
    refine pw_aload_n (tk tkX5_act 21 rfl) rfl ?_
    refine g5_state (tk tkX5_act 22 rfl) fkX5_12 ?_
    refine pw_iload (tk tkX5_act 23 rfl) rfl ?_
    refine pw_cV (ct_X4_isThere z 1 (by decide) _) okX4_isThere (tk tkX5_act 24 rfl) mkX5_55 imX4_isThere seX4_isThere (hp_st _ (by decide : 1 < 10) (by decide : 0 < 16)) rfl rfl rfl (by omega) (by decide) (Nat.le_of_ble_eq_true rfl) ?_
    rw [hrow, Bool.true_and, show ((nI (ro t.1 i)).toNatClampNeg) = ro t.1 i from nI_clamp (by omega), eth]
    refine pw_ifnb (tgt := 51) (tk tkX5_act 25 rfl) (by decide) (fun c47 => ?_) (fun c47 => ?_)
    · have n47 : ¬ lgS t.1 i (nI its) (ro t.1 i) = 0 := of_decide_eq_true c47
      refine pw_aload_n (tk tkX5_act 27 rfl) rfl ?_
      refine g3_action (by first | assumption | decide | omega) (by first | assumption | decide | omega) (tk tkX5_act 28 rfl) fkX5_109 ?_
      rw [e3]
      refine pw_iconst (v := 3) (tk tkX5_act 29 rfl) (by decide) ?_
      refine pw_icmp_ne (tgt := 74) (tk tkX5_act 30 rfl) (by decide) (fun c56 => ?_) (fun c56 => ?_)
      · refine pw_aload_n (tk tkX5_act 41 rfl) rfl ?_
        refine g3_action (by first | assumption | decide | omega) (by first | assumption | decide | omega) (tk tkX5_act 42 rfl) fkX5_109 ?_
        rw [e3]
        refine pw_iconst (v := 2) (tk tkX5_act 43 rfl) (by decide) ?_
        refine pw_icmp_ne (tgt := 145) (tk tkX5_act 44 rfl) (by decide) (fun c79 => ?_) (fun c79 => ?_)
        · refine pw_return (tk tkX5_act 77 rfl) rfl (by decide) ?_
          refine ⟨rfl, z, rfl, fz, ?_⟩
          rw [show acT (hapT u f) its i t = (lgS t.1 i (nI its), t.2) from if_pos (Or.inl (by
            rcases (hv.2.2.2.2.2 i hi).2.2.2.2 with q | q | q | q
            · exact q
            · exact absurd q hne
            · exact absurd q c79
            · exact absurd q c56))]
          exact rz
        · refine pw_aload_n (tk tkX5_act 45 rfl) rfl ?_
          refine g5_state (tk tkX5_act 46 rfl) fkX5_12 ?_
          refine g4_values (by first | assumption | decide | omega) (tk tkX5_act 47 rfl) fkX5_43 ?_
          refine pw_iload (tk tkX5_act 48 rfl) rfl ?_
          refine pw_aload_n (tk tkX5_act 49 rfl) rfl ?_
          refine g3_targetColumn (by first | assumption | decide | omega) (by first | assumption | decide | omega) (tk tkX5_act 50 rfl) fkX5_112 ?_
          rw [e5]
          refine pw_cN (ct_X7_cell _ _ _) rfl okX7_cell (tk tkX5_act 51 rfl) mkX5_47 stX7_cell rfl rfl (by omega) (by decide) (Nat.le_of_ble_eq_true rfl) ?_
          refine al_values_e (e := 3 * ro t.1 i + co t.1 i) (by first | assumption | decide | omega) (tk tkX5_act 52 rfl) (cl_ix rfl ec) (by first | decide | omega) ?_
          rw [eva]
          refine pw_aload_n (tk tkX5_act 53 rfl) rfl ?_
          refine g3_amount (by first | assumption | decide | omega) (by first | assumption | decide | omega) (tk tkX5_act 54 rfl) fkX5_115 ?_
          refine pw_iadd (tk tkX5_act 55 rfl) ?_
          rw [e6]
          refine pw_ist5 (tk tkX5_act 56 rfl) rfl (by decide) ?_
          refine pw_iload (tk tkX5_act 57 rfl) rfl ?_
          refine pw_cN (ct_X7_isValue _ _) rfl okX7_isValue (tk tkX5_act 58 rfl) mkX5_118 stX7_isValue rfl rfl (by omega) (by decide) (Nat.le_of_ble_eq_true rfl) ?_
          refine pw_ifnb (tgt := 122) (tk tkX5_act 59 rfl) (by decide) (fun c111 => ?_) (fun c111 => ?_)
          · refine pw_aload_n (tk tkX5_act 64 rfl) rfl ?_
            refine g3_amount (by first | assumption | decide | omega) (by first | assumption | decide | omega) (tk tkX5_act 65 rfl) fkX5_115 ?_
            rw [e6]
            refine pw_if_eq (tgt := 145) (tk tkX5_act 66 rfl) (by decide) (fun c126 => ?_) (fun c126 => ?_)
            · refine pw_return (tk tkX5_act 77 rfl) rfl (by decide) ?_
              refine ⟨rfl, z, rfl, fz, ?_⟩
              rw [show acT (hapT u f) its i t = (lgS t.1 i (nI its), t.2) from (if_neg (fun q => q.elim (fun q => absurd (q.symm.trans c79) (by decide)) n47)).trans ((if_neg c56).trans ((if_neg (ne_f c111)).trans (if_pos ((ad_0 _ _).mpr c126))))]
              exact rz
            · refine pw_aload_n (tk tkX5_act 67 rfl) rfl ?_
              refine pw_iconst (v := 1) (tk tkX5_act 68 rfl) (by decide) ?_
              refine pw_iload (tk tkX5_act 69 rfl) rfl ?_
              refine pw_aload_n (tk tkX5_act 70 rfl) rfl ?_
              refine g3_targetColumn (by first | assumption | decide | omega) (by first | assumption | decide | omega) (tk tkX5_act 71 rfl) fkX5_112 ?_
              refine pw_iload (tk tkX5_act 72 rfl) rfl ?_
              refine pw_iload_n (tk tkX5_act 73 rfl) rfl ?_
              refine pw_iconst (v := 1) (tk tkX5_act 74 rfl) (by decide) ?_
              refine pw_iadd (tk tkX5_act 75 rfl) ?_
              rw [nI_1, e5, ec]
              refine pw_callV (HCf (its + 1) (by omega) z (lgS t.1 i (nI its), t.2) 1 (ro t.1 i) (co t.1 i) (lgS t.1 i (nI its) (6 + 3 * ro t.1 i + co t.1 i) + rN t.1 i 6) kz rz h0 hr hc) okX5_happen (tk tkX5_act 76 rfl) mkX5_51 imX5_happen seX5_happen (hp_ot _ 1) rfl rfl rfl (by omega) (by decide) (Nat.le_of_ble_eq_true rfl) (fun r h2 q => ?_) (fun E h2 q => by cases q.1)
              obtain ⟨ho, y, rfl, fy, ry⟩ := q
              cases ho
              refine pw_return (tk tkX5_act 77 rfl) rfl (by decide) ?_
              refine ⟨rfl, y, rfl, fz.tr fy, ?_⟩
              rw [show acT (hapT u f) its i t = hapT u f (lgS t.1 i (nI its), t.2) 1 (ro t.1 i) (co t.1 i) (lgS t.1 i (nI its) (6 + 3 * ro t.1 i + co t.1 i) + rN t.1 i 6) (its + 1) from (if_neg (fun q => q.elim (fun q => absurd (q.symm.trans c79) (by decide)) n47)).trans ((if_neg c56).trans ((if_neg (ne_f c111)).trans (if_neg (fun q => c126 ((ad_0 _ _).mp q)))))]
              exact ry
          · refine pw_aload_n (tk tkX5_act 60 rfl) rfl ?_
            refine pw_iconst (v := 2) (tk tkX5_act 61 rfl) (by decide) ?_
            refine p5_refusal (tk tkX5_act 62 rfl) fkX5_29 ?_
            refine pw_goto (tgt := 145) (tk tkX5_act 63 rfl) (by decide) ?_
            refine pw_return (tk tkX5_act 77 rfl) rfl (by decide) ?_
            refine ⟨rfl, _, rfl, fz.c2 _, ?_⟩
            rw [show acT (hapT u f) its i t = (lgS t.1 i (nI its), t.2.1, t.2.2.1, 2) from (if_neg (fun q => q.elim (fun q => absurd (q.symm.trans c79) (by decide)) n47)).trans ((if_neg c56).trans (if_pos c111))]
            exact rz.rf 2
      · refine pw_aload_n (tk tkX5_act 31 rfl) rfl ?_
        refine pw_iconst (v := 2) (tk tkX5_act 32 rfl) (by decide) ?_
        refine pw_iload (tk tkX5_act 33 rfl) rfl ?_
        refine pw_iconst (v := 0) (tk tkX5_act 34 rfl) (by decide) ?_
        refine pw_iconst (v := 0) (tk tkX5_act 35 rfl) (by decide) ?_
        refine pw_iload_n (tk tkX5_act 36 rfl) rfl ?_
        refine pw_iconst (v := 1) (tk tkX5_act 37 rfl) (by decide) ?_
        refine pw_iadd (tk tkX5_act 38 rfl) ?_
        rw [nI_1]
        refine pw_callV (HCf (its + 1) (by omega) z (lgS t.1 i (nI its), t.2) 2 (ro t.1 i) 0 0 kz rz h0 hr (by decide)) okX5_happen (tk tkX5_act 39 rfl) mkX5_51 imX5_happen seX5_happen (hp_ot _ 1) rfl rfl rfl (by omega) (by decide) (Nat.le_of_ble_eq_true rfl) (fun r h2 q => ?_) (fun E h2 q => by cases q.1)
        obtain ⟨ho, y, rfl, fy, ry⟩ := q
        cases ho
        refine pw_goto (tgt := 145) (tk tkX5_act 40 rfl) (by decide) ?_
        refine pw_return (tk tkX5_act 77 rfl) rfl (by decide) ?_
        refine ⟨rfl, y, rfl, fz.tr fy, ?_⟩
        rw [show acT (hapT u f) its i t = hapT u f (lgS t.1 i (nI its), t.2) 2 (ro t.1 i) 0 0 (its + 1) from (if_neg (fun q => q.elim (fun q => absurd (q.symm.trans c56) (by decide)) n47)).trans (if_pos c56)]
        exact ry
    · refine pw_return (tk tkX5_act 26 rfl) rfl (by decide) ?_
      refine ⟨rfl, z, rfl, fz, ?_⟩
      rw [show acT (hapT u f) its i t = (lgS t.1 i (nI its), t.2) from if_pos (Or.inr (by by_cases q : lgS t.1 i (nI its) (ro t.1 i) = 0; exact q; rw [decide_eq_true q] at c47; cases c47))]
      exact rz
  refine pw_aload_n (tk tkX5_act 0 rfl) rfl ?_
  refine g5_state (tk tkX5_act 1 rfl) fkX5_12 ?_
  refine g4_rules (by first | assumption | decide | omega) (tk tkX5_act 2 rfl) fkX5_88 ?_
  refine pw_iload_n (tk tkX5_act 3 rfl) rfl ?_
  refine al_rules_e (e := i) (by first | assumption | decide | omega) (tk tkX5_act 4 rfl) rfl (by first | decide | omega) ?_
  refine pw_ast3 (tk tkX5_act 5 rfl) rfl (by decide) ?_
  refine pw_aload_n (tk tkX5_act 6 rfl) rfl ?_
  refine pw_dup (tk tkX5_act 7 rfl) rfl ?_
  refine g3_acts (by first | assumption | decide | omega) (by first | assumption | decide | omega) (tk tkX5_act 8 rfl) fkX5_92 ?_
  refine pw_iconst (v := 1) (tk tkX5_act 9 rfl) (by decide) ?_
  refine pw_iadd (tk tkX5_act 10 rfl) ?_
  refine p3_acts (by first | assumption | decide | omega) (by first | assumption | decide | omega) (tk tkX5_act 11 rfl) fkX5_92 ?_
  refine pw_aload_n (tk tkX5_act 12 rfl) rfl ?_
  refine g5_state (tk tkX5_act 13 rfl) fkX5_12 ?_
  refine g4_log (by first | assumption | decide | omega) (tk tkX5_act 14 rfl) fkX5_97 ?_
  refine pw_iload_n (tk tkX5_act 15 rfl) rfl ?_
  refine pw_iload_n (tk tkX5_act 16 rfl) rfl ?_
  refine pw_cV0 (ct_X2_note _ 1 la l.length (by decide) (by rw [cSt_u]; exact l4) l3 (by rw [cSt_u]; exact l2) l1 (nI i) (nI its)) okX2_note (tk tkX5_act 17 rfl) mkX5_101 imX2_note seX2_note (hp_st _ (by decide : 1 < 10) (by decide : 4 < 16)) rfl rfl rfl (by omega) (by decide) (Nat.le_of_ble_eq_true rfl) ?_
  rw [cSt_u, uC1_uC1, ← eτ, ← ez]
  exact J
set_option maxRecDepth 100000 in
set_option maxHeartbeats 4000000 in
theorem ct_X5_happen (u f : Nat) (ACf : ∀ g, f = g + 1 → AC u g) : HC u f := by
  intro its hits x t ev r c v hk hx h0 hr hc
  refine ct_of (by decide +kernel) (by decide) rfl (k := 2) (ls := [some (.ref 161), some (.int ev), some (.int (nI r)), some (.int (nI c)), some (.int v), some (.int (nI its)), none, none]) rfl (Nat.le_of_ble_eq_true rfl) ?_
  have hv := hk.1
  have hu8 := hv.1
  have eu := hv.un
  obtain ⟨dp, hdp, edp⟩ := hv.2.2.1
  obtain ⟨k0, hk0, ek0⟩ := hk.2
  have L : ∀ g, f = g + 1 → (∀ j, j < u → (mtB t.1 ev r (nI c) v) j = true → ¬ rN t.1 j 3 = 1) → ∀ k i, i + k = u → ∀ (y : XW) (t2 : TT), FC x y → RT y t2 → KH u t2 → KV u t.1 t2 → PW MX5_happen (2 * f + 3) 0 107 [some (.ref 161), some (.int ev), some (.int (nI r)), some (.int (nI c)), some (.int v), some (.int (nI its)), some (.int (mkM (mtB t.1 ev r (nI c) v) u)), some (.int (nI i))] [] (hp y) (hnQ x (lpT (acT (hapT u g) its) (mtC t.1 ev r (nI c) v false) k i t2)) := by
    intro g hg hno k
    induction k with
    | zero =>
      intro i hi y t2 fy ry kh kv
      obtain rfl : i = u := by omega
      refine pw_iload (tk tkX5_happen 59 rfl) rfl ?_
      refine pw_aload_n (tk tkX5_happen 60 rfl) rfl ?_
      refine g5_state (tk tkX5_happen 61 rfl) fkX5_12 ?_
      refine g4_rulesUsed (by first | assumption | decide | omega) (tk tkX5_happen 62 rfl) fkX5_81 ?_
      rw [ry.1.2.2.1, kh.1.2.1]
      refine pw_icmp_ge (tgt := 150) (tk tkX5_happen 63 rfl) (by decide) (fun c116 => ?_) (fun c116 => absurd (Int32.le_refl _) c116)
      exact pw_return (tk tkX5_happen 79 rfl) rfl (by decide) ⟨rfl, y, rfl, fy, ry⟩
    | succ k ih =>
      intro i hi y t2 fy ry kh kv
      have hiu : i < u := by omega
      have skip : ¬ ((mtC t.1 ev r (nI c) v false) i = true ∧ t2.2.2.2 = 0) → lpT (acT (hapT u g) its) (mtC t.1 ev r (nI c) v false) (k + 1) i t2 = lpT (acT (hapT u g) its) (mtC t.1 ev r (nI c) v false) k (i + 1) t2 := fun q => congrArg (lpT (acT (hapT u g) its) (mtC t.1 ev r (nI c) v false) k (i + 1)) (if_neg q)
      have goes : ((mtC t.1 ev r (nI c) v false) i = true ∧ t2.2.2.2 = 0) → lpT (acT (hapT u g) its) (mtC t.1 ev r (nI c) v false) (k + 1) i t2 = lpT (acT (hapT u g) its) (mtC t.1 ev r (nI c) v false) k (i + 1) (acT (hapT u g) its i t2) := fun q => congrArg (lpT (acT (hapT u g) its) (mtC t.1 ev r (nI c) v false) k (i + 1)) (if_pos q)
      have pp : (mtC t.1 ev r (nI c) v false) i = (mtB t.1 ev r (nI c) v) i := by
        unfold mtC
        by_cases z : (mtB t.1 ev r (nI c) v) i = true
        · rw [z, decide_eq_false (hno i hiu z)]; rfl
        · rw [Bool.eq_false_iff.mpr z]; rfl
      refine pw_iload (tk tkX5_happen 59 rfl) rfl ?_
      refine pw_aload_n (tk tkX5_happen 60 rfl) rfl ?_
      refine g5_state (tk tkX5_happen 61 rfl) fkX5_12 ?_
      refine g4_rulesUsed (by first | assumption | decide | omega) (tk tkX5_happen 62 rfl) fkX5_81 ?_
      rw [ry.1.2.2.1, kh.1.2.1]
      refine pw_icmp_ge (tgt := 150) (tk tkX5_happen 63 rfl) (by decide) (fun c116 => absurd c116 (nI_ge (by omega) (by omega))) (fun c116 => ?_)
      refine pw_aload_n (tk tkX5_happen 64 rfl) rfl ?_
      refine g5_refusal (tk tkX5_happen 65 rfl) fkX5_29 ?_
      rw [ry.2.2.2]
      refine pw_if_ne (tgt := 150) (tk tkX5_happen 66 rfl) (by decide) (fun c123 => ?_) (fun c123 => ?_)
      · refine pw_return (tk tkX5_happen 79 rfl) rfl (by decide) ?_
        rw [lpT_stop _ _ _ _ _ c123]
        exact ⟨rfl, y, rfl, fy, ry⟩
      · refine pw_iload (tk tkX5_happen 67 rfl) rfl ?_
        refine pw_iconst (v := 1) (tk tkX5_happen 68 rfl) (by decide) ?_
        refine pw_iload (tk tkX5_happen 69 rfl) rfl ?_
        refine pw_ishl (tk tkX5_happen 70 rfl) ?_
        refine pw_iand (tk tkX5_happen 71 rfl) ?_
        refine pw_if_eq (tgt := 144) (tk tkX5_happen 72 rfl) (by decide) (fun c133 => ?_) (fun c133 => ?_)
        · refine pw_inc7 (tk tkX5_happen 77 rfl) rfl (by decide) (nI_1 i) ?_
          refine pw_goto (tgt := 107) (tk tkX5_happen 78 rfl) (by decide) ?_
          rw [skip (fun q => Bool.noConfusion (((mk_and0 _ hu8 hiu).mp c133).symm.trans (pp.symm.trans q.1)))]
          exact ih (i + 1) (by omega) y t2 fy ry kh kv
        · have pt : (mtB t.1 ev r (nI c) v) i = true := by
            by_cases z : (mtB t.1 ev r (nI c) v) i = true
            · exact z
            · exact absurd ((mk_and0 _ hu8 hiu).mpr (Bool.eq_false_iff.mpr z)) c133
          refine pw_aload_n (tk tkX5_happen 73 rfl) rfl ?_
          refine pw_iload (tk tkX5_happen 74 rfl) rfl ?_
          refine pw_iload (tk tkX5_happen 75 rfl) rfl ?_
          refine pw_callV (ACf g hg its (by omega) y t2 i kh ry c123 hiu (by rw [kv.2.ru (by omega) (by omega)]; exact hno i hiu pt)) okX5_act (tk tkX5_happen 76 rfl) mkX5_84 imX5_act seX5_act (hp_ot _ 1) rfl rfl rfl (by omega) (by decide) (Nat.le_of_ble_eq_true rfl) (fun r h2 q => ?_) (fun E h2 q => by cases q.1)
          obtain ⟨ho, z, rfl, fz, rz⟩ := q
          cases ho
          refine pw_inc7 (tk tkX5_happen 77 rfl) rfl (by decide) (nI_1 i) ?_
          refine pw_goto (tgt := 107) (tk tkX5_happen 78 rfl) (by decide) ?_
          rw [goes ⟨pp.trans pt, c123⟩]
          exact ih (i + 1) (by omega) z _ (fy.tr fz) rz (acT_KH (fun t ev r c v d => hapT_KH u g t ev r c v d) its i t2 hiu kh) (acT_KV (fun t ev r c v d => hapT_KV u _ g t ev r c v d) its i t2 hiu kv)
  refine pw_iload (tk tkX5_happen 0 rfl) rfl ?_
  refine pw_aload_n (tk tkX5_happen 1 rfl) rfl ?_
  refine g5_state (tk tkX5_happen 2 rfl) fkX5_12 ?_
  refine g4_depth (by first | assumption | decide | omega) (tk tkX5_happen 3 rfl) fkX5_61 ?_
  rw [hx.1.2.2.2.1]
  refine pw_icmp_le (tgt := 18) (tk tkX5_happen 4 rfl) (by decide) (fun c9 => ?_) (fun c9 => ?_)
  · refine pw_aload_n (tk tkX5_happen 9 rfl) rfl ?_
    refine g5_events (tk tkX5_happen 10 rfl) fkX5_22 ?_
    refine pw_bipush (v := 100) (tk tkX5_happen 11 rfl) (by decide) ?_
    rw [hx.2.1]
    refine pw_icmp_lt (tgt := 33) (tk tkX5_happen 12 rfl) (by decide) (fun c24 => ?_) (fun c24 => ?_)
    · refine pw_aload_n (tk tkX5_happen 17 rfl) rfl ?_
      refine pw_iload_n (tk tkX5_happen 18 rfl) rfl ?_
      refine pw_iload_n (tk tkX5_happen 19 rfl) rfl ?_
      refine pw_iload_n (tk tkX5_happen 20 rfl) rfl ?_
      refine pw_iload (tk tkX5_happen 21 rfl) rfl ?_
      refine pw_cV (ct_X5_matchingRules x t.1 _ u r hx.1 hv hr ev (nI c) v) okX5_matchingRules (tk tkX5_happen 22 rfl) mkX5_64 imX5_matchingRules seX5_matchingRules (hp_ot _ 1) rfl rfl rfl (by omega) (by decide) (Nat.le_of_ble_eq_true rfl) ?_
      refine pw_ist6 (tk tkX5_happen 23 rfl) rfl (by decide) ?_
      refine pw_aload_n (tk tkX5_happen 24 rfl) rfl ?_
      refine pw_iload (tk tkX5_happen 25 rfl) rfl ?_
      refine pw_cV (ct_X5_hasRefusing x t.1 _ u hx.1 hv (mtB t.1 ev r (nI c) v)) okX5_hasRefusing (tk tkX5_happen 26 rfl) mkX5_68 imX5_hasRefusing seX5_hasRefusing (hp_ot _ 1) rfl rfl rfl (by omega) (by decide) (Nat.le_of_ble_eq_true rfl) ?_
      refine pw_ifb (tgt := 59) (tk tkX5_happen 27 rfl) (by decide) (fun c50 => ?_) (fun c50 => ?_)
      · have eq2 : mkM (mtC t.1 ev r (nI c) v true) u = mkM (fun i => (mtB t.1 ev r (nI c) v) i && decide (rN t.1 i 3 = 1)) u := mkM_cg u (fun j _ => by unfold mtC; cases decide (rN t.1 j 3 = 1) <;> rfl)
        have eq : mkM (mtC t.1 ev r (nI c) v true) u = 0 := by
          rw [eq2]
          by_cases z : mkM (fun i => (mtB t.1 ev r (nI c) v) i && decide (rN t.1 i 3 = 1)) u = 0
          · exact z
          · rw [decide_eq_true z] at c50; cases c50
        refine pw_aload_n (tk tkX5_happen 32 rfl) rfl ?_
        refine pw_iload_n (tk tkX5_happen 33 rfl) rfl ?_
        refine pw_iload_n (tk tkX5_happen 34 rfl) rfl ?_
        refine pw_iload_n (tk tkX5_happen 35 rfl) rfl ?_
        refine pw_iload (tk tkX5_happen 36 rfl) rfl ?_
        refine pw_cV0 (ct_X5_alterTable x ev r c v hr hc) okX5_alterTable (tk tkX5_happen 37 rfl) mkX5_71 imX5_alterTable seX5_alterTable (hp_ot _ 1) rfl rfl rfl (by omega) (by decide) (Nat.le_of_ble_eq_true rfl) ?_
        refine pw_aload_n (tk tkX5_happen 38 rfl) rfl ?_
        refine pw_dup (tk tkX5_happen 39 rfl) rfl ?_
        refine g5_events (tk tkX5_happen 40 rfl) fkX5_22 ?_
        refine pw_iconst (v := 1) (tk tkX5_happen 41 rfl) (by decide) ?_
        refine pw_iadd (tk tkX5_happen 42 rfl) ?_
        refine p5_events (tk tkX5_happen 43 rfl) fkX5_22 ?_
        refine pw_aload_n (tk tkX5_happen 44 rfl) rfl ?_
        refine g5_state (tk tkX5_happen 45 rfl) fkX5_12 ?_
        refine pw_dup (tk tkX5_happen 46 rfl) rfl ?_
        refine g4_events (by first | assumption | decide | omega) (tk tkX5_happen 47 rfl) fkX5_75 ?_
        refine pw_iconst (v := 1) (tk tkX5_happen 48 rfl) (by decide) ?_
        refine pw_iadd (tk tkX5_happen 49 rfl) ?_
        refine p4_events (by first | assumption | decide | omega) (tk tkX5_happen 50 rfl) fkX5_75 ?_
        refine pw_aload_n (tk tkX5_happen 51 rfl) rfl ?_
        refine pw_aload_n (tk tkX5_happen 52 rfl) rfl ?_
        refine g5_deepest (tk tkX5_happen 53 rfl) fkX5_26 ?_
        refine pw_iload (tk tkX5_happen 54 rfl) rfl ?_
        refine pw_max (tk tkX5_happen 55 rfl) mkX5_76 st_max in_Math co_max (by omega) (Nat.le_of_ble_eq_true rfl) ?_
        rw [mx_max]
        refine p5_deepest (tk tkX5_happen 56 rfl) fkX5_26 ?_
        refine pw_iconst (v := 0) (tk tkX5_happen 57 rfl) (by decide) ?_
        refine pw_ist7 (tk tkX5_happen 58 rfl) rfl (by decide) ?_
        have e0 : bgC t.1 u t.2.1 ev r c v (nI its) = 0 := by
          unfold bgC
          rw [if_neg (fun q => q c9), if_neg (fun q => by rw [q] at c24; exact absurd c24 (by decide)), if_neg (fun q => q eq)]
        have hits5 : its ≤ 5 := by
          rw [edp] at c9
          exact Nat.le_trans ((nI_leI (by omega) (by omega)).mp c9) hdp
        obtain ⟨g, hg⟩ : ∃ g, f = g + 1 := ⟨f - 1, by omega⟩
        have eb : bgT u t ev r c v its = (alt t.1 ev r c v, t.2.1 + 1, mx (nI its) t.2.2.1, 0) := if_pos e0
        have eh : hapT u f t ev r c v its = lpT (acT (hapT u g) its) (mtC t.1 ev r (nI c) v false) u 0 (alt t.1 ev r c v, t.2.1 + 1, mx (nI its) t.2.2.1, 0) := by
          rw [hg, ← eb]; exact if_pos e0
        rw [eh]
        have kb := bgT_KH hk ev v its hr hc
        rw [eb] at kb
        have kv : KV u t.1 (bgT u t ev r c v its) := bgT_KV ⟨hv, SR.rf _⟩ ev v its hr hc
        rw [eb] at kv
        have q2 : RS1 (uS7 (altS (cSt x.1 1) ev r c v) (upd (sSc (altS (cSt x.1 1) ev r c v)) 2 (sSc (altS (cSt x.1 1) ev r c v) 2 + 1))) (alt t.1 ev r c v) (alt t.1 ev r c v 98 + (t.2.1 + 1)) := by
          have q1 := RS1_alt hx.1 ev v hr hc
          have e : sSc (altS (cSt x.1 1) ev r c v) 2 + 1 = alt t.1 ev r c v 98 + (t.2.1 + 1) := by
            rw [q1.2.2.2.2.1, alt_lo hr hc 98 (by omega), Int32.add_assoc]
          rw [← e]
          exact q1.ev _
        refine L g hg ?_ u 0 (by omega) _ _ ((((((FC.rf x).c1 _).c2 _).c1 _).c2 _)) ⟨q2, ?_, ?_, ?_⟩ kb kv
        · intro j hj hp1 hp2
          exact mk_ne _ hu8 hj (show ((mtB t.1 ev r (nI c) v) j && decide (rN t.1 j 3 = 1)) = true by rw [hp1, decide_eq_true hp2]; rfl) (by rw [eq2] at eq; exact eq)
        · show cSm x.1 0 + 1 = t.2.1 + 1
          rw [hx.2.1]
        · show mx (nI its) (cSm x.1 1) = mx (nI its) t.2.2.1
          rw [hx.2.2.1]
        · show cSm x.1 2 = 0
          rw [hx.2.2.2, h0]
      · have eq2 : mkM (mtC t.1 ev r (nI c) v true) u = mkM (fun i => (mtB t.1 ev r (nI c) v) i && decide (rN t.1 i 3 = 1)) u := mkM_cg u (fun j _ => by unfold mtC; cases decide (rN t.1 j 3 = 1) <;> rfl)
        refine pw_aload_n (tk tkX5_happen 28 rfl) rfl ?_
        refine pw_iconst (v := 5) (tk tkX5_happen 29 rfl) (by decide) ?_
        refine p5_refusal (tk tkX5_happen 30 rfl) fkX5_29 ?_
        refine pw_return (tk tkX5_happen 31 rfl) rfl (by decide) ?_
        refine ⟨rfl, _, rfl, (FC.rf x).c2 _, ?_⟩
        rw [hap_bad 5 (by decide) (by unfold bgC; rw [if_neg (fun q => q c9), if_neg (fun q => by rw [q] at c24; exact absurd c24 (by decide)), if_pos (by rw [eq2]; exact of_decide_eq_true c50)])]
        exact hx.rf 5
    · refine pw_aload_n (tk tkX5_happen 13 rfl) rfl ?_
      refine pw_iconst (v := 4) (tk tkX5_happen 14 rfl) (by decide) ?_
      refine p5_refusal (tk tkX5_happen 15 rfl) fkX5_29 ?_
      refine pw_return (tk tkX5_happen 16 rfl) rfl (by decide) ?_
      refine ⟨rfl, _, rfl, (FC.rf x).c2 _, ?_⟩
      rw [hap_bad 4 (by decide) (by unfold bgC; rw [if_neg (fun q => q c9), if_pos (show t.2.1 = 100 from by
        rw [ek0] at c24 ⊢
        have : ¬ k0 < 100 := fun q => c24 (nI_lt q (by decide))
        rw [show k0 = 100 by omega]; rfl)])]
      exact hx.rf 4
  · refine pw_aload_n (tk tkX5_happen 5 rfl) rfl ?_
    refine pw_iconst (v := 3) (tk tkX5_happen 6 rfl) (by decide) ?_
    refine p5_refusal (tk tkX5_happen 7 rfl) fkX5_29 ?_
    refine pw_return (tk tkX5_happen 8 rfl) rfl (by decide) ?_
    refine ⟨rfl, _, rfl, (FC.rf x).c2 _, ?_⟩
    rw [hap_bad 3 (by decide) (by unfold bgC; rw [if_pos c9])]
    exact hx.rf 3
theorem hc_all (u : Nat) : ∀ f, HC u f
  | 0 => ct_X5_happen u 0 (fun g hg => absurd hg (by omega))
  | f + 1 => ct_X5_happen u (f + 1) (fun g hg => by
    obtain rfl : g = f := by omega
    exact ct_X5_act u g (hc_all u g))
