/-! ===== THE OTHER OBJECT: a contract that speaks of the one is told for the other ===== -/
def rn_o : Out → Out
  | .inl r => .inl (r.map rn_v)
  | .inr E => .inr E
theorem rn_vv (v : Value) : rn_v (rn_v v) = v := by
  cases v with
  | ref k => exact congrArg Value.ref (swp_swp k)
  | int x => rfl
  | long x => rfl
  | float x => rfl
  | double x => rfl
  | null => rfl
  | retAddr x => rfl
theorem rn_cc (c : Cel) : rn_c (rn_c c) = c := by
  cases c with
  | inl x =>
    show (Sum.inl (x.1, x.2.1, fun j => rn_v (rn_v (x.2.2 j))) : Cel) = Sum.inl x
    rw [show (fun j => rn_v (rn_v (x.2.2 j))) = x.2.2 from funext fun j => rn_vv _]
  | inr o =>
    show (Sum.inr (o.1, fun j => rn_v (rn_v (o.2 j))) : Cel) = Sum.inr o
    rw [show (fun j => rn_v (rn_v (o.2 j))) = o.2 from funext fun j => rn_vv _]
def swG (G : PG) (b : Nat) : PG := (G.1, G.2.1, G.2.2.1, fun k => if k < 1000 then G.2.2.2 (swp k) else if k = 5000 then b else G.2.2.2 k)
theorem swG_lo (G : PG) (b : Nat) {k : Nat} (h : k < 1000) : (swG G b).2.2.2 k = G.2.2.2 (swp k) := if_pos h
theorem swG_5 (G : PG) (b : Nat) : (swG G b).2.2.2 5000 = b := by
  show (if (5000 : Nat) < 1000 then G.2.2.2 (swp 5000) else if (5000 : Nat) = 5000 then b else G.2.2.2 5000) = b
  rw [if_neg (by decide), if_pos rfl]
theorem swG_s (G : PG) (b : Nat) : (swG G b).2.2.2 1020 = G.2.2.2 1020 := by
  show (if (1020 : Nat) < 1000 then G.2.2.2 (swp 1020) else if (1020 : Nat) = 5000 then b else G.2.2.2 1020) = _
  rw [if_neg (by decide), if_neg (by decide)]
theorem swG_ad (G : PG) (b k : Nat) : ad (swG G b) k = ad G (swp k) := by
  by_cases h : k < 1000
  · rw [ad_lo h, ad_lo (swp_lt h), swG_lo G b h]
    rfl
  · rw [ad_hi (by omega), show swp k = k from by unfold swp; rw [if_neg (by omega), if_neg (by omega)], ad_hi (by omega), swG_s]
theorem swG_cv (G : PG) (b : Nat) (v : Value) : cv (swG G b) v = cv G (rn_v v) := by
  cases v with
  | ref k => exact congrArg Value.ref (swG_ad G b k)
  | int x => rfl
  | long x => rfl
  | float x => rfl
  | double x => rfl
  | null => rfl
  | retAddr x => rfl
theorem swG_at {G : PG} {b a : Nat} {c : Cel} {H : Heap} : at_c (swG G b) a c H ↔ at_c G a (rn_c c) H := by
  cases c with
  | inl x =>
    show H[a]? = some (arrV (G.2.1 x.1) x.2.1 (fun j => cv (swG G b) (x.2.2 j))) ↔ H[a]? = some (arrV (G.2.1 x.1) x.2.1 (fun j => cv G (rn_v (x.2.2 j))))
    rw [show (fun j => cv (swG G b) (x.2.2 j)) = fun j => cv G (rn_v (x.2.2 j)) from funext fun j => swG_cv G b _]
  | inr o =>
    show (∃ r : vw_C, vwCl[o.1]? = some r ∧ t_OB a (G.1.1 o.1) r.2.2 (G.1.2 o.1) H (fun k => cv (swG G b) (o.2 k))) ↔ ∃ r : vw_C, vwCl[o.1]? = some r ∧ t_OB a (G.1.1 o.1) r.2.2 (G.1.2 o.1) H (fun k => cv G (rn_v (o.2 k)))
    rw [show (fun k => cv (swG G b) (o.2 k)) = fun k => cv G (rn_v (o.2 k)) from funext fun j => swG_cv G b _]
def swF (f : Nat → Option Cel) : Nat → Option Cel := fun k => (f (swp k)).map rn_c
theorem swF_swF (f : Nat → Option Cel) : swF (swF f) = f := by
  funext k
  show ((f (swp (swp k))).map rn_c).map rn_c = f k
  rw [swp_swp]
  cases f k with
  | none => rfl
  | some c => exact congrArg some (rn_cc c)
theorem swG_cells {G : PG} {b : Nat} {f : Nat → Option Cel} {H : Heap} (h : ∀ k c, swF f k = some c → k < 1000 ∧ at_c G (ad G k) c H) : ∀ k c, f k = some c → k < 1000 ∧ at_c (swG G b) (ad (swG G b) k) c H := by
  intro k c hk
  have h1 : swF f (swp k) = some (rn_c c) := by
    show (f (swp (swp k))).map rn_c = _
    rw [swp_swp, hk]; rfl
  obtain ⟨l1, l2⟩ := h _ _ h1
  refine ⟨by have q := swp_lt l1; rw [swp_swp] at q; exact q, ?_⟩
  rw [swG_ad, swG_at]
  exact l2
theorem swG_cells2 {G : PG} {b : Nat} {f : Nat → Option Cel} {H : Heap} (h : ∀ k c, f k = some c → k < 1000 ∧ at_c (swG G b) (ad (swG G b) k) c H) : ∀ k c, swF f k = some c → k < 1000 ∧ at_c G (ad G k) c H := by
  intro k c hk
  have hk2 : (f (swp k)).map rn_c = some c := hk
  obtain ⟨c0, h0, e0⟩ := Option.map_eq_some_iff.mp hk2
  obtain ⟨l1, l2⟩ := h _ _ h0
  subst e0
  refine ⟨by have q := swp_lt l1; rw [swp_swp] at q; exact q, ?_⟩
  rw [swG_ad, swp_swp, swG_at] at l2
  exact l2
theorem swG_inj {G : PG} {b : Nat} (h : ∀ i j, i < 1000 → j < 1000 → G.2.2.2 i = G.2.2.2 j → i = j) : ∀ i j, i < 1000 → j < 1000 → (swG G b).2.2.2 i = (swG G b).2.2.2 j → i = j := by
  intro i j hi hj q
  rw [swG_lo G b hi, swG_lo G b hj] at q
  have e := h _ _ (swp_lt hi) (swp_lt hj) q
  rw [← swp_swp i, e, swp_swp]
theorem swG_inj2 {G : PG} {b : Nat} (h : ∀ i j, i < 1000 → j < 1000 → (swG G b).2.2.2 i = (swG G b).2.2.2 j → i = j) : ∀ i j, i < 1000 → j < 1000 → G.2.2.2 i = G.2.2.2 j → i = j := by
  intro i j hi hj q
  have e := h (swp i) (swp j) (swp_lt hi) (swp_lt hj) (by rw [swG_lo G b (swp_lt hi), swG_lo G b (swp_lt hj), swp_swp, swp_swp]; exact q)
  rw [← swp_swp i, e, swp_swp]
theorem swG_Rp {G : PG} {b : Nat} {z : Option Nat} {f : Nat → Option Cel} {H : Heap} (R : Rp G (z, swF f) H) : Rp (swG G b) (none, f) H :=
  ⟨fun _ q => (nomatch q), R.2.1, swG_cells R.2.2.1, swG_inj R.2.2.2⟩
theorem swG_Rp2 {G : PG} {b : Nat} {z : Option Nat} {f : Nat → Option Cel} {H : Heap} (R : Rp (swG G b) (z, f) H) : Rp G (none, swF f) H :=
  ⟨fun _ q => (nomatch q), R.2.1, swG_cells2 R.2.2.1, swG_inj2 R.2.2.2⟩
theorem swG_OW {G : PG} {b : Nat} {U : State} (h : OW G U) : OW (swG G b) U := by
  obtain ⟨h1, h2, h3, h4, ⟨xn, xs, x1, x2, x3, x4⟩, h6, h7⟩ := h
  refine ⟨h1, h2, h3, h4, ⟨xn, xs, ?_, x2, ?_, ?_⟩, h6, h7⟩
  · rw [swG_s]; exact x1
  · rw [swG_s]; exact x3
  · rw [swG_s]; exact x4
theorem map_swG (G : PG) (b : Nat) (args : List Value) : (args.map rn_v).map (cv G) = args.map (cv (swG G b)) := by
  rw [List.map_map]
  exact List.map_congr_left fun v _ => (swG_cv G b v).symm
section CTM
variable {M : Mth} {d n : Nat} {args : List Value} {Q : Out → Hp → Prop}
theorem met_mono {l : Launch} {y : MethodName} {ws : List Cond} {rm : Room} {P P' : Array Value → State → Prop} {Qa Qb : Array Value → State → Outcome → State → Prop} {mc ms : Nat} {fr1 : Addr → Prop} (h : Met l y ws rm P Qa mc ms fr1) (hP : ∀ a s, P' a s → P a s) (hQ : ∀ a s o t, Qa a s o t → Qb a s o t) : Met l y ws rm P' Qb mc ms fr1 :=
  MetFree.mono h hP (fun _ _ _ _ _ q => q) (fun a s o t _ q => ⟨hQ a s o t q.1, q.2⟩)
theorem vx_mono {l : Launch} {y : MethodName} {ws : List Cond} {rm : Room} {P P' : Array Value → State → Prop} {Qa Qb : Array Value → State → Outcome → State → Prop} {Xa Xb : String → State → State → Prop} {mc ms : Nat} {fr1 : Addr → Prop} (h : vx_Met l y ws rm P Qa Xa mc ms fr1) (hP : ∀ a s, P' a s → P a s) (hQ : ∀ a s o t, Qa a s o t → Qb a s o t) (hX : ∀ E s t, Xa E s t → Xb E s t) : vx_Met l y ws rm P' Qb Xb mc ms fr1 := by
  refine MetFree.mono h hP (fun _ _ _ _ _ q => q) (fun a s o t _ q => ?_)
  rcases q with ⟨q1, q2⟩ | ⟨q, e, E, ce, L, q1, q2⟩
  · exact Or.inl ⟨hQ a s o t q1, q2⟩
  · exact Or.inr ⟨q, e, E, ce, L, hX E s t q1, q2⟩
theorem CT.imp {h : Hp} {Q' : Out → Hp → Prop} (ct : CT M d n args h Q) (hQ : ∀ o h2, Q o h2 → Q' o h2) : CT M d n args h Q' := by
  intro l hl G
  have h9 := ct l hl G
  have pq : ∀ a s o t, PQ G Q a s o t → PQ G Q' a s o t := fun a s o t ⟨⟨r, h', e1, q1, q2⟩, hF⟩ => ⟨⟨r, h', e1, hQ _ _ q1, q2⟩, hF⟩
  by_cases m0 : mK M = 0
  · rw [if_pos m0] at h9 ⊢
    exact met_mono h9 (fun _ _ q => q) pq
  · rw [if_neg m0] at h9 ⊢
    exact vx_mono h9 (fun _ _ q => q) pq (fun E s t ⟨⟨h', q1, q2⟩, hF⟩ => ⟨⟨h', hQ _ _ q1, q2⟩, hF⟩)
theorem CT.sw {f : Nat → Option Cel} (ct : CT M d n args (none, f) Q) : CT M d n (args.map rn_v) (none, swF f) (fun o h2 => ∃ o0 h0, o = rn_o o0 ∧ h2 = (none, swF h0.2) ∧ Q o0 h0) := by
  intro l hl G
  have h9 := ct l hl (swG G 0)
  have hP : ∀ a U, PP G (args.map rn_v) (none, swF f) a U → PP (swG G 0) args (none, f) a U := by
    intro a U q
    obtain ⟨q1, q2, q3, q4, q5⟩ := q
    refine ⟨?_, swG_Rp q2, q3, swG_OW q4, q5⟩
    rw [q1, map_swG G 0]
  have hQ : ∀ a s o t, PQ (swG G 0) Q a s o t → PQ G (fun o h2 => ∃ o0 h0, o = rn_o o0 ∧ h2 = (none, swF h0.2) ∧ Q o0 h0) a s o t := by
    intro a s o t ⟨⟨r, h', e1, q1, q2⟩, hF⟩
    refine ⟨⟨r.map rn_v, (none, swF h'.2), ?_, ⟨.inl r, h', rfl, rfl, q1⟩, swG_Rp2 (z := h'.1) q2⟩, hF⟩
    rw [e1]
    cases r with
    | none => rfl
    | some v => exact congrArg (fun w => Outcome.returned (some w)) (swG_cv G 0 v)
  have hX : ∀ E s t, PX (swG G 0) Q E s t → PX G (fun o h2 => ∃ o0 h0, o = rn_o o0 ∧ h2 = (none, swF h0.2) ∧ Q o0 h0) E s t := by
    intro E s t ⟨⟨h', q1, q2⟩, hF⟩
    exact ⟨⟨(none, swF h'.2), ⟨.inr E, h', rfl, rfl, q1⟩, swG_Rp2 (z := h'.1) q2⟩, hF⟩
  by_cases m0 : mK M = 0
  · rw [if_pos m0] at h9 ⊢
    exact met_mono h9 hP hQ
  · rw [if_neg m0] at h9 ⊢
    exact vx_mono h9 hP hQ hX
end CTM
theorem otc_oc (x : XW) {o : Nat} (h : o < 11) : otc o x = ocw o x.1 := by
  match o, h with
  | 0, _ => rfl
  | 1, _ => rfl
  | 2, _ => rfl
  | 3, _ => rfl
  | 4, _ => rfl
  | 5, _ => rfl
  | 6, _ => rfl
  | 7, _ => rfl
  | 8, _ => rfl
  | 9, _ => rfl
  | 10, _ => rfl
  | o + 11, h => exact absurd h (by omega)
theorem otc_hi (x : XW) {o : Nat} (h : 12 ≤ o) : otc o x = if 96 ≤ o ∧ o < 267 then (clw x.2.1 (o - 96)).map rn_c else none := by
  unfold otc
  rw [if_neg (by omega), if_neg (by omega), if_neg (by omega), if_neg (by omega), if_neg (by omega), if_neg (by omega), if_neg (by omega), if_neg (by omega), if_neg (by omega), if_neg (by omega), if_neg (by omega), if_neg (by omega)]
theorem hp_1 (x : XW) {k : Nat} (h : k < 171) : (hp x).2 k = clw x.1 k := by
  show (if k < 160 then stc (k / 16) (k % 16) (cSt x.1 (k / 16)) else otc (k - 160) x) = if k < 160 then stc (k / 16) (k % 16) (cSt x.1 (k / 16)) else ocw (k - 160) x.1
  by_cases e : k < 160
  · rw [if_pos e, if_pos e]
  · rw [if_neg e, if_neg e, otc_oc x (by omega)]
theorem hp_2 (x : XW) {k : Nat} (h : 256 ≤ k) (h2 : k < 427) : (hp x).2 k = (clw x.2.1 (k - 256)).map rn_c := by
  show (if k < 160 then _ else otc (k - 160) x) = _
  rw [if_neg (by omega), otc_hi x (by omega), if_pos ⟨by omega, by omega⟩, show k - 160 - 96 = k - 256 by omega]
theorem hp_3 (x : XW) : (hp x).2 171 = some (.inl (.int, 1, iA x.2.2)) := rfl
theorem hp_4 (x : XW) {k : Nat} (h : ¬ k < 172) (h2 : ¬ (256 ≤ k ∧ k < 427)) : (hp x).2 k = none := by
  show (if k < 160 then _ else otc (k - 160) x) = _
  rw [if_neg (by omega), otc_hi x (by omega), if_neg (by omega)]
/-- the world with the other object in hand -/
abbrev sx (x : XW) : XW := (x.2.1, x.1, x.2.2)
theorem hp_sx (x : XW) : hp (sx x) = (none, swF (hp x).2) := by
  refine Prod.ext rfl (funext fun k => ?_)
  show (hp (sx x)).2 k = ((hp x).2 (swp k)).map rn_c
  by_cases h : k < 171
  · rw [hp_1 (sx x) h, show swp k = k + 256 from if_pos h, hp_2 x (by omega) (by omega), Nat.add_sub_cancel]
    show clw x.2.1 k = _
    cases clw x.2.1 k with
    | none => rfl
    | some c => exact congrArg some (rn_cc c).symm
  · by_cases h2 : 256 ≤ k ∧ k < 427
    · rw [hp_2 (sx x) h2.1 h2.2, show swp k = k - 256 from (if_neg h).trans (if_pos h2), hp_1 x (by omega)]
    · rw [show swp k = k from (if_neg h).trans (if_neg h2)]
      by_cases h3 : k = 171
      · subst h3
        rw [hp_3, hp_3]
        rfl
      · rw [hp_4 (sx x) (by omega) h2, hp_4 x (by omega) h2]
        rfl
theorem sx_sx (x : XW) : sx (sx x) = x := rfl
/-- the end of a call of the class on the other object -/
def CQp (exs : List (Int32 × String)) (x : XW) (R : RS3) : Out → Hp → Prop := fun o h2 => ∃ y, h2 = hp y ∧ y.1 = x.1 ∧ y.2.2 = x.2.2 ∧ RC R.2.2 y.2.1 ∧ ((R.1 = 0 ∧ o = .inl (some (.int R.2.1))) ∨ ∃ k E, (k, E) ∈ exs ∧ R.1 = k ∧ o = .inr E)
theorem ctp {M : Mth} {d n : Nat} {as : List Value} {exs : List (Int32 × String)} {x : XW} {R : RS3} (ct : CT M d n (.ref 160 :: as) (hp (sx x)) (CQ exs (sx x) R)) (has : as.map rn_v = as) : CT M d n (.ref 416 :: as) (hp x) (CQp exs x R) := by
  have h := CT.sw (f := (hp (sx x)).2) ct
  rw [List.map_cons, has, show rn_v (.ref 160) = .ref 416 from rfl, show ((none, swF (hp (sx x)).2) : Hp) = hp x from (hp_sx (sx x)).symm] at h
  refine h.imp fun o h2 q => ?_
  obtain ⟨o0, h0, rfl, rfl, y, rfl, hy, hc, q⟩ := q
  refine ⟨sx y, (hp_sx y).symm, show y.2.1 = (sx x).2.1 from congrArg Prod.fst hy, show y.2.2 = (sx x).2.2 from congrArg Prod.snd hy, hc, ?_⟩
  rcases q with ⟨q1, rfl⟩ | ⟨k, E, q1, q2, rfl⟩
  · exact Or.inl ⟨q1, rfl⟩
  · exact Or.inr ⟨k, E, q1, q2, rfl⟩
