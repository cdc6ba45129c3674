theorem cv_int (G : PG) (x : Int32) : cv G (.int x) = .int x := rfl
theorem Rp.at {G : PG} {h : Hp} {H : Heap} (R : Rp G h H) {k : Nat} {c : Cel} (h0 : h.2 k = some c) : at_c G (ad G k) c H := (R.2.2.1 _ _ h0).2
theorem Rp.fr {G : PG} {h : Hp} {H : Heap} (R : Rp G h H) {k : Nat} {c : Cel} (h0 : h.2 k = some c) : fr G (ad G k) := by
  show G.2.2.1 ≤ ad G k
  rw [ad_lo (R.2.2.1 _ _ h0).1]
  omega
/-- class ci of vwCl, its name, fields, how many; its words are good -/
abbrev Cls (ci : Nat) (C : String) (T : u_T) (N : Nat) (ty : Nat → FieldType) : Prop := vwCl[ci]? = some (C, T, N) ∧ (∀ w ∈ u_ws C T N, w ∈ UU) ∧ (∀ k, k < N → parseFieldDescriptor (T k).2.2.1 = some (ty k)) ∧ (∀ a, a < N → ∀ b, b < N → a ≠ b → (T a).2.1 ≠ (T b).2.1)
def stF (fs : Nat → Value) (k : Nat) (v : Value) : Nat → Value := fun j => if j = k then v else fs j
theorem stF_cv (G : PG) (fs : Nat → Value) (k : Nat) (v : Value) (j : Nat) : updV (fun i => cv G (fs i)) k (cv G v) j = cv G (stF fs k v j) := by
  unfold updV stF
  by_cases e : j = k <;> simp [e]
theorem arr_cv (G : PG) (c : ClassId) (N : Nat) (fs : Nat → Value) (k : Nat) (v : Value) : arrV c N (updV (fun i => cv G (fs i)) k (cv G v)) = arrV c N (fun j => cv G (stF fs k v j)) := by
  congr 1
  funext j
  exact stF_cv G fs k v j
section PWH
variable {M : Mth} {d n pc : Nat} {ls : List (Option Value)} {st : List Value} {h : Hp} {Q : Out → Hp → Prop}
theorem pw_getfield {idx a ci k N : Nat} {C : String} {T : u_T} {ty : Nat → FieldType} {fs : Nat → Value} (hcl : Cls ci C T N ty) (hd : decode (mC M) pc = .ok (.getfield idx, 3)) (hc : h.2 a = some (.inr (ci, fs))) (hk : k < N) (hlk : Cond.fieldLink (mY M).cls idx (T k).1 (T k).2.1 (T k).2.2.1 ∈ UU) (kk : PW M d n (pc + 3) ls (fs k :: st) h Q) : PW M d n pc ls (.ref a :: st) h Q := by
  intro p l e R s m args below meth c G N9 H locs cells slots lsA C9 hc9 hs9 hR hS hv
  obtain ⟨r, h1, cell, q1, q2, q3, q4⟩ := hR.at hc
  obtain ⟨g1, g2, g3, g4⟩ := hcl
  have hr : r = (C, T, N) := Option.some.inj (h1.symm.trans g1)
  subst hr
  have hts := C9.2.1
  obtain ⟨hS9, hfc, kC, hkC, hkind⟩ := C9.2.2.2.2.1.1 ci _ g1
  obtain ⟨cf, kf, fi, f, hi, hsl⟩ := hS9 k hk
  exact W.getf C9.1.1 C9.1.2.1 C9.1.2.2.2.2.1 (hts _ hlk) hi (u_facts hfc hkC (u_lays hts g2 hk) hi).1 q1 (by rw [q3]; exact fun h => by cases h) (v := cv G (fs k)) (by rw [hsl]; exact q4 k hk) (g := F0 m pc lsA ((Value.ref a :: st).map (cv G))) rfl rfl hd (kk p l e R s m args below meth c G N9 H locs cells slots lsA C9 hc9 hs9 hR hS hv)
theorem pw_putfield {idx a ci k N : Nat} {C : String} {T : u_T} {ty : Nat → FieldType} {fs : Nat → Value} {v : Value} (hcl : Cls ci C T N ty) (hd : decode (mC M) pc = .ok (.putfield idx, 3)) (hc : h.2 a = some (.inr (ci, fs))) (hk : k < N) (hlk : Cond.fieldLink (mY M).cls idx (T k).1 (T k).2.1 (T k).2.2.1 ∈ UU) (hfin : (T k).2.2.2 = false) (hv : ∀ G : PG, narrow (ty k) (cv G v) = cv G v ∧ fits (ty k) (cv G v) = true) (kk : PW M d n (pc + 3) ls st (upH h a (.inr (ci, stF fs k v))) Q) : PW M d n pc ls (v :: .ref a :: st) h Q := by
  intro p l e R s m args below meth c G N9 H locs cells slots lsA C9 hc9 hs9 hR hS hw
  obtain ⟨r, h1, cell, q1, q2, q3, q4⟩ := hR.at hc
  obtain ⟨g1, g2, g3, g4⟩ := hcl
  have hr : r = (C, T, N) := Option.some.inj (h1.symm.trans g1)
  subst hr
  have hts := C9.2.1
  have hown := C9.1.2.2.2.2.1
  have hK := C9.2.2.2.2.1
  have hap := va_apart (own := (mY M).cls) hts g2 ty g3 g4 hK g1
  obtain ⟨hS9, hfc, kC, hkC, hkind⟩ := hK.1 ci _ g1
  obtain ⟨cf, kf, fi, f, hi, hsl⟩ := hS9 k hk
  have hlay := hts _ (g2 _ (u_in_lay hk))
  unfold u_lay at hlay
  rw [if_neg (by rw [hfin]; decide)] at hlay
  have hst := (u_facts hfc hkC (u_lays hts g2 hk) hi).1
  have h6 := u_store hfc hkC hkind hlay hi (g3 k hk) (hv G).1 (hv G).2
  refine W.putK C9.1.1 C9.1.2.1 (f := f) ⟨hown, hts _ hlk, ⟨_, _, _, hi⟩, hst⟩ (by rw [q2]; exact h6) q1 q3 (by rw [hsl]; exact k2_hasslot (q4 k hk)) (g := F0 m pc lsA ((v :: Value.ref a :: st).map (cv G))) rfl rfl hd fun H' e1 e2 e3 => ?_
  rw [hsl] at e1
  exact kk p l e R s m args below meth c G N9 H' _ cells slots lsA C9 hc9 hs9 (hR.put hc e2 e3 ⟨_, g1, t_OB.to (V := updV (fun i => cv G (fs i)) k (cv G v)) ⟨_, e1, q2, q3, t_set q4 hap hk (cv G v)⟩ (fun j _ => stF_cv G fs k v j)⟩) (hS.put e2 e3 (hR.fr hc)) hw
theorem pw_putfinal {idx a ci k N : Nat} {C : String} {T : u_T} {ty : Nat → FieldType} {fs : Nat → Value} {v : Value} (hcl : Cls ci C T N ty) (hd : decode (mC M) pc = .ok (.putfield idx, 3)) (hc : h.2 a = some (.inr (ci, fs))) (hk : k < N) (hlk : Cond.fieldLink (mY M).cls idx (T k).1 (T k).2.1 (T k).2.2.1 ∈ UU) (hfin : (T k).2.2.2 = true) (hin : (mY M).name = "<init>") (hdecl : (T k).1 = (mY M).cls) (hv : ∀ G : PG, narrow (ty k) (cv G v) = cv G v ∧ fits (ty k) (cv G v) = true) (kk : PW M d n (pc + 3) ls st (upH h a (.inr (ci, stF fs k v))) Q) : PW M d n pc ls (v :: .ref a :: st) h Q := by
  intro p l e R s m args below meth c G N9 H locs cells slots lsA C9 hc9 hs9 hR hS hw
  obtain ⟨r, h1, cell, q1, q2, q3, q4⟩ := hR.at hc
  obtain ⟨g1, g2, g3, g4⟩ := hcl
  have hr : r = (C, T, N) := Option.some.inj (h1.symm.trans g1)
  subst hr
  have hts := C9.2.1
  have hown := C9.1.2.2.2.2.1
  have hK := C9.2.2.2.2.1
  have hap := va_apart (own := (mY M).cls) hts g2 ty g3 g4 hK g1
  obtain ⟨hS9, hfc, kC, hkC, hkind⟩ := hK.1 ci _ g1
  obtain ⟨cf, kf, fi, f, hi, hsl⟩ := hS9 k hk
  have hlay := hts _ (g2 _ (u_in_lay hk))
  unfold u_lay at hlay
  rw [if_pos hfin] at hlay
  have hst := (u_facts hfc hkC (u_lays hts g2 hk) hi).1
  have hcf : m.cls = cf := by
    obtain ⟨_, _, c', _, _, _, -, -, hf', -, -, -, hown2, -⟩ := Cond.laysFinal_spec hlay
    have e1 : c' = cf := by have := hi.symm.trans hf'; simp at this; exact this.1.symm
    rw [hdecl] at hown2
    rw [← e1]; exact Option.some.inj (hown.symm.trans hown2)
  have h6 := u_fits hfc hkC hkind (Or.inr hlay) hi (g3 k hk) (hv G).1 (hv G).2
  refine W.putFinK C9.1.1 C9.1.2.1 hown (hts _ hlk) hi hst hcf (C9.1.2.2.2.2.2.trans hin) (by rw [q2]; exact h6) q1 q3 (by rw [hsl]; exact k2_hasslot (q4 k hk)) (g := F0 m pc lsA ((v :: Value.ref a :: st).map (cv G))) rfl rfl hd fun H' e1 e2 e3 => ?_
  rw [hsl] at e1
  exact kk p l e R s m args below meth c G N9 H' _ cells slots lsA C9 hc9 hs9 (hR.put hc e2 e3 ⟨_, g1, t_OB.to (V := updV (fun i => cv G (fs i)) k (cv G v)) ⟨_, e1, q2, q3, t_set q4 hap hk (cv G v)⟩ (fun j _ => stF_cv G fs k v j)⟩) (hS.put e2 e3 (hR.fr hc)) hw
theorem pw_iald {a n0 : Nat} {f : Nat → Value} {i : Int32} (hd : decode (mC M) pc = .ok (.iaload, 1)) (hc : h.2 a = some (.inl (.int, n0, f))) (hin : vp_in i n0) (kk : PW M d n (pc + 1) ls (f i.toNatClampNeg :: st) h Q) : PW M d n pc ls (.int i :: .ref a :: st) h Q := by
  intro p l e R s m args below meth c G N9 H locs cells slots lsA C9 hc9 hs9 hR hS hw
  have hlt : i.toNatClampNeg < n0 := Nat.not_le.mp fun q => hin (Or.inr q)
  exact W.iald (v := cv G (f i.toNatClampNeg)) C9.1.1 C9.1.2.1 (hR.at hc) ((C9.2.2.2.2.1.2 0 _ rfl).1 n0 (fun j => cv G (f j))) (fun q => by cases q) (by show ¬ (i < 0 ∨ (arrV _ _ _).slots.size ≤ _); rw [arrV_size]; exact hin) (by show (arrV _ _ _).slots[_]? = _; rw [arrV_read _ _ hlt]) (g := F0 m pc lsA ((Value.int i :: Value.ref a :: st).map (cv G))) rfl rfl hd (kk p l e R s m args below meth c G N9 H locs cells slots lsA C9 hc9 hs9 hR hS hw)
theorem pw_zald {a n0 : Nat} {f : Nat → Value} {i : Int32} (hd : decode (mC M) pc = .ok (.baload, 1)) (hc : h.2 a = some (.inl (.boolean, n0, f))) (hin : vp_in i n0) (kk : PW M d n (pc + 1) ls (f i.toNatClampNeg :: st) h Q) : PW M d n pc ls (.int i :: .ref a :: st) h Q := by
  intro p l e R s m args below meth c G N9 H locs cells slots lsA C9 hc9 hs9 hR hS hw
  have hlt : i.toNatClampNeg < n0 := Nat.not_le.mp fun q => hin (Or.inr q)
  exact W.zald (v := cv G (f i.toNatClampNeg)) C9.1.1 C9.1.2.1 (hR.at hc) ((C9.2.2.2.2.1.2 1 _ rfl).1 n0 (fun j => cv G (f j))) (fun q => by cases q) (by show ¬ (i < 0 ∨ (arrV _ _ _).slots.size ≤ _); rw [arrV_size]; exact hin) (by show (arrV _ _ _).slots[_]? = _; rw [arrV_read _ _ hlt]) (g := F0 m pc lsA ((Value.int i :: Value.ref a :: st).map (cv G))) rfl rfl hd (kk p l e R s m args below meth c G N9 H locs cells slots lsA C9 hc9 hs9 hR hS hw)
theorem pw_cald {a n0 : Nat} {f : Nat → Value} {i : Int32} (hd : decode (mC M) pc = .ok (.caload, 1)) (hc : h.2 a = some (.inl (.char, n0, f))) (hin : vp_in i n0) (kk : PW M d n (pc + 1) ls (f i.toNatClampNeg :: st) h Q) : PW M d n pc ls (.int i :: .ref a :: st) h Q := by
  intro p l e R s m args below meth c G N9 H locs cells slots lsA C9 hc9 hs9 hR hS hw
  have hlt : i.toNatClampNeg < n0 := Nat.not_le.mp fun q => hin (Or.inr q)
  exact W.cald (v := cv G (f i.toNatClampNeg)) C9.1.1 C9.1.2.1 (hR.at hc) ((C9.2.2.2.2.1.2 2 _ rfl).1 n0 (fun j => cv G (f j))) (fun q => by cases q) (by show ¬ (i < 0 ∨ (arrV _ _ _).slots.size ≤ _); rw [arrV_size]; exact hin) (by show (arrV _ _ _).slots[_]? = _; rw [arrV_read _ _ hlt]) (g := F0 m pc lsA ((Value.int i :: Value.ref a :: st).map (cv G))) rfl rfl hd (kk p l e R s m args below meth c G N9 H locs cells slots lsA C9 hc9 hs9 hR hS hw)
theorem pw_aald {a n0 t0 : Nat} {E : String} {f : Nat → Value} {i : Int32} (hd : decode (mC M) pc = .ok (.aaload, 1)) (hc : h.2 a = some (.inl (.object E, n0, f))) (ht : tyl[t0]? = some (.object E)) (hin : vp_in i n0) (kk : PW M d n (pc + 1) ls (f i.toNatClampNeg :: st) h Q) : PW M d n pc ls (.int i :: .ref a :: st) h Q := by
  intro p l e R s m args below meth c G N9 H locs cells slots lsA C9 hc9 hs9 hR hS hw
  have hlt : i.toNatClampNeg < n0 := Nat.not_le.mp fun q => hin (Or.inr q)
  have ht9 : (tys G)[t0]? = some (G.2.1 (.object E), .object E) := by unfold tys; rw [List.getElem?_map, ht]; rfl
  exact W.aald (v := cv G (f i.toNatClampNeg)) (ty := .object E) C9.1.1 C9.1.2.1 (hR.at hc) ((C9.2.2.2.2.1.2 t0 _ ht9).1 n0 (fun j => cv G (f j))) rfl (fun q => by cases q) (by show ¬ (i < 0 ∨ (arrV _ _ _).slots.size ≤ _); rw [arrV_size]; exact hin) (by show (arrV _ _ _).slots[_]? = _; rw [arrV_read _ _ hlt]) (g := F0 m pc lsA ((Value.int i :: Value.ref a :: st).map (cv G))) rfl rfl hd (kk p l e R s m args below meth c G N9 H locs cells slots lsA C9 hc9 hs9 hR hS hw)
theorem pw_iast {a n0 : Nat} {f : Nat → Value} {i : Int32} {x : Int32} (hd : decode (mC M) pc = .ok (.iastore, 1)) (hc : h.2 a = some (.inl (.int, n0, f))) (hin : vp_in i n0) (kk : PW M d n (pc + 1) ls st (upH h a (.inl (.int, n0, stF f i.toNatClampNeg (.int x)))) Q) : PW M d n pc ls (.int x :: .int i :: .ref a :: st) h Q := by
  intro p l e_ R s m args below meth c G N9 H locs cells slots lsA C9 hc9 hs9 hR hS hw
  refine W.iast C9.1.1 C9.1.2.1 (hR.at hc) ((C9.2.2.2.2.1.2 0 _ rfl).1 n0 (fun j => cv G (f j))) (fun q => by cases q) (by show ¬ (i < 0 ∨ (arrV _ _ _).slots.size ≤ _); rw [arrV_size]; exact hin) (g := F0 m pc lsA ((Value.int x :: Value.int i :: Value.ref a :: st).map (cv G))) rfl rfl hd fun H1 e z oq => ?_
  refine kk p l e_ R s m args below meth c G N9 H1 _ cells slots lsA C9 hc9 hs9 (hR.put hc z oq ?_) (hS.put z oq (hR.fr hc)) hw
  show H1[ad G a]? = some (arrV _ _ _)
  rw [e]
  rw [arrV_store]
  exact congrArg some (arr_cv G _ n0 f _ (.int x))
theorem pw_zast {a n0 : Nat} {f : Nat → Value} {i : Int32} {x : Int32} (hd : decode (mC M) pc = .ok (.bastore, 1)) (hc : h.2 a = some (.inl (.boolean, n0, f))) (hin : vp_in i n0) (hn : narrow .boolean (.int x) = .int x) (kk : PW M d n (pc + 1) ls st (upH h a (.inl (.boolean, n0, stF f i.toNatClampNeg (.int x)))) Q) : PW M d n pc ls (.int x :: .int i :: .ref a :: st) h Q := by
  intro p l e_ R s m args below meth c G N9 H locs cells slots lsA C9 hc9 hs9 hR hS hw
  refine W.zast C9.1.1 C9.1.2.1 (hR.at hc) ((C9.2.2.2.2.1.2 1 _ rfl).1 n0 (fun j => cv G (f j))) (fun q => by cases q) (by show ¬ (i < 0 ∨ (arrV _ _ _).slots.size ≤ _); rw [arrV_size]; exact hin) (g := F0 m pc lsA ((Value.int x :: Value.int i :: Value.ref a :: st).map (cv G))) rfl rfl hd fun H1 e z oq => ?_
  refine kk p l e_ R s m args below meth c G N9 H1 _ cells slots lsA C9 hc9 hs9 (hR.put hc z oq ?_) (hS.put z oq (hR.fr hc)) hw
  show H1[ad G a]? = some (arrV _ _ _)
  rw [e, hn]
  rw [arrV_store]
  exact congrArg some (arr_cv G _ n0 f _ (.int x))
theorem pw_cast {a n0 : Nat} {f : Nat → Value} {i : Int32} {x : Int32} (hd : decode (mC M) pc = .ok (.castore, 1)) (hc : h.2 a = some (.inl (.char, n0, f))) (hin : vp_in i n0) (hn : narrow .char (.int x) = .int x) (kk : PW M d n (pc + 1) ls st (upH h a (.inl (.char, n0, stF f i.toNatClampNeg (.int x)))) Q) : PW M d n pc ls (.int x :: .int i :: .ref a :: st) h Q := by
  intro p l e_ R s m args below meth c G N9 H locs cells slots lsA C9 hc9 hs9 hR hS hw
  refine W.cast C9.1.1 C9.1.2.1 (hR.at hc) ((C9.2.2.2.2.1.2 2 _ rfl).1 n0 (fun j => cv G (f j))) (fun q => by cases q) (by show ¬ (i < 0 ∨ (arrV _ _ _).slots.size ≤ _); rw [arrV_size]; exact hin) (g := F0 m pc lsA ((Value.int x :: Value.int i :: Value.ref a :: st).map (cv G))) rfl rfl hd fun H1 e z oq => ?_
  refine kk p l e_ R s m args below meth c G N9 H1 _ cells slots lsA C9 hc9 hs9 (hR.put hc z oq ?_) (hS.put z oq (hR.fr hc)) hw
  show H1[ad G a]? = some (arrV _ _ _)
  rw [e, hn]
  rw [arrV_store]
  exact congrArg some (arr_cv G _ n0 f _ (.int x))
theorem pw_aast {a n0 t0 b ci : Nat} {E : String} {f fs : Nat → Value} {T : u_T} {N1 : Nat} {i : Int32} (hd : decode (mC M) pc = .ok (.aastore, 1)) (hc : h.2 a = some (.inl (.object E, n0, f))) (ht : tyl[t0]? = some (.object E)) (hb : h.2 b = some (.inr (ci, fs))) (hcl : vwCl[ci]? = some (E, T, N1)) (hin : vp_in i n0) (kk : PW M d n (pc + 1) ls st (upH h a (.inl (.object E, n0, stF f i.toNatClampNeg (.ref b)))) Q) : PW M d n pc ls (.ref b :: .int i :: .ref a :: st) h Q := by
  intro p l e_ R s m args below meth c G N9 H locs cells slots lsA C9 hc9 hs9 hR hS hw
  have hlt : i.toNatClampNeg < n0 := Nat.not_le.mp fun q => hin (Or.inr q)
  have h0 : ¬ i < 0 := fun q => hin (Or.inl q)
  have ht9 : (tys G)[t0]? = some (G.2.1 (.object E), .object E) := by unfold tys; rw [List.getElem?_map, ht]; rfl
  obtain ⟨r', hr', cellV, g1, g2, g3, -⟩ := hR.at hb
  have hcls := (C9.2.2.2.2.1.1 ci _ hcl).2
  obtain ⟨kA, comp, k1, k2, k3, -⟩ := (C9.2.2.2.2.1.2 t0 _ ht9).2
  have hcomp : comp = G.1.1 ci := Option.some.inj (k3.symm.trans hcls.1)
  subst hcomp
  obtain ⟨kC, hkC, -⟩ := hcls.2
  refine W.aast C9.1.1 C9.1.2.1 (hR.at hc) (fun q h => by cases h) (fun h => by cases h) k1 k2 rfl hkC ⟨h0, by show _ < (arrV _ _ _).slots.size; rw [arrV_size]; exact hlt⟩ g1 (fun q h => by rw [g3] at h; cases h) (by rw [g2]; exact hkC) (by rw [g2]; exact va_assign hcls) (g := F0 m pc lsA ((Value.ref b :: Value.int i :: Value.ref a :: st).map (cv G))) rfl rfl hd fun H1 e z oq => ?_
  refine kk p l e_ R s m args below meth c G N9 H1 _ cells slots lsA C9 hc9 hs9 (hR.put hc z oq ?_) (hS.put z oq (hR.fr hc)) hw
  show H1[ad G a]? = some (arrV _ _ _)
  rw [e, arrV_store]
  exact congrArg some (arr_cv G _ n0 f _ (.ref b))
/-- new C: at the logical address k that is next -/
theorem pw_new {idx ci k N z : Nat} {C : String} {T : u_T} {ty : Nat → FieldType} {fs : Nat → Value} (hcl : Cls ci C T N ty) (hd : decode (mC M) pc = .ok (.new idx, 3)) (hk : k < 1000) (hz : h.1 = some z) (hL : ∀ G : PG, (mK M = 2 → LG G) → (∀ j, j < 171 → G.2.2.2 j = G.2.2.2 5000 + lay j) → G.2.2.2 k = G.2.2.2 5000 + z) (hlk : Cond.classLink (mY M).cls idx C ∈ UU) (hins : Cond.instantiable C N ∈ UU) (hini : Cond.initialized C ∈ UU) (hfs : ∀ j, j < N → ∀ G : PG, defaultValue (ty j) = cv G (fs j)) (hn : 1 ≤ n) (hN : N ≤ 1000) (kk : PW M d (n - 1) (pc + 3) ls (.ref k :: st) (some (z + 1), (upH h k (.inr (ci, fs))).2) Q) : PW M d n pc ls st h Q := by
  intro p l e_ R s m args below meth c G N9 H locs cells slots lsA C9 hc9 hs9 hR hS hw
  obtain ⟨g1, g2, g3, g4⟩ := hcl
  have hts := C9.2.1
  have hKn := C9.2.2.2.2.1.1 ci _ g1
  obtain ⟨-, -, -, -, -, -, -, ⟨r1, r2, r3, r4⟩, -⟩ := id C9
  refine W.newcK C9.1.1 C9.1.2.1 C9.1.2.2.2.2.1 (hts _ hlk) (hts _ hins) (hts _ hini) (g := F0 m pc lsA (st.map (cv G))) rfl hd (by omega) (by omega) hKn.2.1 rfl fun H1 kC hkC e1 z1 o1 => ?_
  have hL9 : G.2.2.2 k = G.2.2.2 5000 + z := hL G (fun z9 => (C9.2.2.2.2.2.2.2.2.2 z9).2.1) (hR.1 _ hz).2
  have ea : ad G k = H.size := by rw [ad_lo hk, (hR.1 _ hz).1, hL9]; omega
  have w := kk p l e_ R s m args below meth c G N9 H1 locs (cells + 1) (slots + N) lsA C9 (by omega) (by omega) (hR.push hk hz hL9 z1 o1 ⟨_, g1, (u_born ty hts g2 hKn hkC e1 g3).to (fun j hj => hfs j hj G)⟩) ⟨Nat.le_trans hS.1 (by omega), fun x h1 h2 => (o1 x (Nat.lt_of_lt_of_le h1 hS.1)).trans (hS.2.1 x h1 h2), hS.2.2⟩ hw
  rw [show (Value.ref k :: st).map (cv G) = Value.ref H.size :: st.map (cv G) by rw [← ea]; rfl] at w
  exact w
theorem pw_newarray {atype : ArrayType} {t0 k N z : Nat} {ty : FieldType} {x : Int32} {v0 : Value} (hd : decode (mC M) pc = .ok (.newarray atype, 2)) (hty : newarray.typeOf atype = ty) (ht : tyl[t0]? = some ty) (hra : ∀ (U : State) (cA : ClassId), va_RA U cA ty → U.vm.findClass ("[" ++ ty.toString) = some cA) (hk : k < 1000) (hz : h.1 = some z) (hL : ∀ G : PG, (mK M = 2 → LG G) → (∀ j, j < 171 → G.2.2.2 j = G.2.2.2 5000 + lay j) → G.2.2.2 k = G.2.2.2 5000 + z) (harr : Cond.arrayClass ty ∈ UU) (hx : ¬ x < 0) (hN : x.toNatClampNeg = N) (hN9 : N ≤ 1000) (hb : N * componentBytes ty ≤ 536870912) (hv0 : ∀ G : PG, defaultValue ty = cv G v0) (hn : 1 ≤ n) (kk : PW M d (n - 1) (pc + 2) ls (.ref k :: st) (some (z + 1), (upH h k (.inl (ty, N, fun _ => v0))).2) Q) : PW M d n pc ls (.int x :: st) h Q := by
  subst hty
  intro p l e_ R s m args below meth c G N9 H locs cells slots lsA C9 hc9 hs9 hR hS hw
  have hts := C9.2.1
  obtain ⟨-, -, -, -, -, -, -, ⟨r1, r2, r3, r4⟩, -⟩ := id C9
  have ht9 : (tys G)[t0]? = some (G.2.1 (newarray.typeOf atype), newarray.typeOf atype) := by unfold tys; rw [List.getElem?_map, ht]; rfl
  refine va_newaK C9.1.1 C9.1.2.1 (hts _ harr) (g := F0 m pc lsA ((Value.int x :: st).map (cv G))) rfl hd rfl hx hN hb (by omega) (by omega) rfl fun H1 cA e1 z1 o1 hAr hNm => ?_
  have ec : G.2.1 (newarray.typeOf atype) = cA := Option.some.inj ((hra s _ (C9.2.2.2.2.1.2 t0 _ ht9).2).symm.trans hNm)
  have hL9 : G.2.2.2 k = G.2.2.2 5000 + z := hL G (fun z9 => (C9.2.2.2.2.2.2.2.2.2 z9).2.1) (hR.1 _ hz).2
  have ea : ad G k = H.size := by rw [ad_lo hk, (hR.1 _ hz).1, hL9]; omega
  have w := kk p l e_ R s m args below meth c G N9 H1 locs (cells + 1) (slots + N) lsA C9 (by omega) (by omega) (hR.push hk hz hL9 z1 o1 (by
    show H1[H.size]? = some (arrV _ _ _)
    rw [e1, ec]
    exact congrArg some (congrArg (arrV cA N) (funext fun _ => hv0 G)))) ⟨Nat.le_trans hS.1 (by omega), fun x h1 h2 => (o1 x (Nat.lt_of_lt_of_le h1 hS.1)).trans (hS.2.1 x h1 h2), hS.2.2⟩ hw
  rw [show (Value.ref k :: st).map (cv G) = Value.ref H.size :: st.map (cv G) by rw [← ea]; rfl] at w
  exact w
theorem pw_anewarray {idx t0 k N z : Nat} {E : String} {x : Int32} (hd : decode (mC M) pc = .ok (.anewarray idx, 3)) (ht : tyl[t0]? = some (.object E)) (hk : k < 1000) (hz : h.1 = some z) (hL : ∀ G : PG, (mK M = 2 → LG G) → (∀ j, j < 171 → G.2.2.2 j = G.2.2.2 5000 + lay j) → G.2.2.2 k = G.2.2.2 5000 + z) (hlk : Cond.classLink (mY M).cls idx E ∈ UU) (hover : ∀ (G : PG) (U : State), OW G U → va_AO E U) (hx : ¬ x < 0) (hN : x.toNatClampNeg = N) (hN9 : N ≤ 1000) (hn : 1 ≤ n) (kk : PW M d (n - 1) (pc + 3) ls (.ref k :: st) (some (z + 1), (upH h k (.inl (.object E, N, fun _ => .null))).2) Q) : PW M d n pc ls (.int x :: st) h Q := by
  subst hN
  intro p l e_ R s m args below meth c G N9 H locs cells slots lsA C9 hc9 hs9 hR hS hw
  have hts := C9.2.1
  obtain ⟨-, -, -, -, -, -, -, ⟨r1, r2, r3, r4⟩, -⟩ := id C9
  have ht9 : (tys G)[t0]? = some (G.2.1 (.object E), .object E) := by unfold tys; rw [List.getElem?_map, ht]; rfl
  refine W.anew C9.1.1 C9.1.2.1 C9.1.2.2.2.2.1 (hts _ hlk) (va_AO.use (hover G s C9.2.2.2.2.2.1)) (g := F0 m pc lsA ((Value.int x :: st).map (cv G))) rfl hd rfl hx (by omega) (by omega) (by omega) fun cA kA comp f1 f2 f3 f4 => ?_
  obtain ⟨kA9, comp9, u1, u2, u3, u4⟩ := (C9.2.2.2.2.1.2 t0 _ ht9).2
  have ec : G.2.1 (.object E) = cA := Option.some.inj (u4.symm.trans f1)
  generalize hH1 : H.push ({ cls := cA, slots := Array.replicate x.toNatClampNeg .null, vm := .none } : Cell) = H1
  have z1 : H1.size = H.size + 1 := by rw [← hH1, Array.size_push]
  have e1 : H1[H.size]? = some (arrV cA x.toNatClampNeg (fun _ => .null)) := by rw [← hH1, Array.getElem?_push_size, ← arrV_new]
  have o1 : ∀ q : Nat, q < H.size → H1[q]? = H[q]? := fun q hq => by rw [← hH1, Array.getElem?_push, if_neg (Nat.ne_of_lt hq)]
  have hL9 : G.2.2.2 k = G.2.2.2 5000 + z := hL G (fun z9 => (C9.2.2.2.2.2.2.2.2.2 z9).2.1) (hR.1 _ hz).2
  have ea : ad G k = H.size := by rw [ad_lo hk, (hR.1 _ hz).1, hL9]; omega
  have w := kk p l e_ R s m args below meth c G N9 H1 locs (cells + 1) (slots + x.toNatClampNeg) lsA C9 (by omega) (by omega) (hR.push hk hz hL9 z1 o1 (by
    show H1[H.size]? = some (arrV _ _ _)
    rw [e1, ec]
    rfl)) ⟨Nat.le_trans hS.1 (by omega), fun x h1 h2 => (o1 x (Nat.lt_of_lt_of_le h1 hS.1)).trans (hS.2.1 x h1 h2), hS.2.2⟩ hw
  rw [show (Value.ref k :: st).map (cv G) = Value.ref H.size :: st.map (cv G) by rw [← ea]; rfl] at w
  exact w
theorem pw_objInit {idx a : Nat} (hd : decode (mC M) pc = .ok (.invokespecial idx, 3)) (hlk : Cond.methodLink (mY M).cls idx Lib.objectInit ∈ UU) (hins : Cond.instanceMethod Lib.objectInit ∈ UU) (hcode : Cond.code Lib.objectInit ⟨#[0xb1]⟩ 1 none ∈ UU) (hd1 : 1 ≤ d) (hr : (st.map fun v => v.category).sum ≤ 8) (kk : PW M d n (pc + 3) ls st h Q) : PW M d n pc ls (.ref a :: st) h Q := by
  intro p l e_ R s m args below meth c G N9 H locs cells slots lsA C9 hc9 hs9 hR hS hw
  have hts := C9.2.1
  obtain ⟨⟨k1, k2, k3, k4, k5, k6⟩, -, -, -, -, -, -, ⟨r1, r2, r3, r4⟩, -⟩ := id C9
  refine W.objInit k1 k2 k5 (hts _ hlk) (hts _ hins) (hts _ hcode) (g := F0 m pc lsA ((Value.ref a :: st).map (cv G))) rfl (hw.1.trans k3.symm) rfl hd (by omega) ?_ (kk p l e_ R s m args below meth c G N9 H locs cells slots lsA C9 hc9 hs9 hR hS hw)
  show 2 * 0 + _ + 12 ≤ _
  have e9 : ((st.map (cv G)).map fun v => v.category).sum = (st.map fun v => v.category).sum := by rw [List.map_map]; exact congrArg List.sum (List.map_congr_left fun v _ => cv_cat G v)
  rw [e9]
  omega
end PWH
