/-- what the model's numbers keep between calls -/
def VS (u : Nat) (s : Nat → Int32) : Prop := u ≤ 8 ∧ s 25 = nI u ∧ (∃ dp, dp ≤ 5 ∧ s 24 = nI dp) ∧ (∃ l, l ≤ 16 ∧ s 99 = nI l) ∧ (∀ j, j < 6 → s j = 0 ∨ s j = 1) ∧ ∀ i, i < u → (∃ c, c < 3 ∧ rN s i 1 = nI c) ∧ (∃ r, r < 6 ∧ rN s i 4 = nI r) ∧ (∃ c, c < 3 ∧ rN s i 5 = nI c) ∧ (rN s i 7 = 0 ∨ rN s i 7 = 1) ∧ (rN s i 3 = 0 ∨ rN s i 3 = 1 ∨ rN s i 3 = 2 ∨ rN s i 3 = 3)
/-- the same rules, acts aside -/
def SR (s t : Nat → Int32) : Prop := ∀ j, 24 ≤ j → j < 98 → (∀ i, j ≠ 26 + 9 * i + 8) → t j = s j
theorem SR.rf (s : Nat → Int32) : SR s s := fun _ _ _ _ => rfl
theorem SR.tr {s t w : Nat → Int32} (h : SR s t) (g : SR t w) : SR s w := fun j a b c => (g j a b c).trans (h j a b c)
theorem SR.ru {s t : Nat → Int32} (h : SR s t) {i k : Nat} (hi : i < 8) (hk : k < 8) : rN t i k = rN s i k := h _ (by omega) (by omega) (fun j => by omega)
theorem VS.of {u : Nat} {s t : Nat → Int32} (h : VS u s) (g : SR s t) (h5 : ∃ l, l ≤ 16 ∧ t 99 = nI l) (h6 : ∀ j, j < 6 → t j = 0 ∨ t j = 1) : VS u t := by
  obtain ⟨a, b, c, d, e, f⟩ := h
  refine ⟨a, by rw [g 25 (by omega) (by omega) (fun i => by omega)]; exact b, by rw [g 24 (by omega) (by omega) (fun i => by omega)]; exact c, h5, h6, fun i hi => ?_⟩
  rw [g.ru (k := 1) (by omega) (by omega), g.ru (k := 4) (by omega) (by omega), g.ru (k := 5) (by omega) (by omega), g.ru (k := 7) (by omega) (by omega), g.ru (k := 3) (by omega) (by omega)]
  exact f i hi
def lgL (s : Nat → Int32) : Nat := if s 99 = 16 then 15 else (s 99).toNatClampNeg
def shD (L k : Nat) (s : Nat → Int32) : Nat → Int32 := fun j => if (100 + k < j ∧ j ≤ 100 + L) ∨ (116 + k < j ∧ j ≤ 116 + L) then s (j - 1) else s j
theorem shD_0 (L : Nat) (s : Nat → Int32) : shD L L s = s := by
  funext j; unfold shD; rw [if_neg (by omega)]
theorem shD_s (L k : Nat) (s : Nat → Int32) (hk : k < L) (hL : L ≤ 15) : upd (upd (shD L (k + 1) s) (100 + (k + 1)) (shD L (k + 1) s (100 + (k + 1) - 1))) (116 + (k + 1)) (upd (shD L (k + 1) s) (100 + (k + 1)) (shD L (k + 1) s (100 + (k + 1) - 1)) (116 + (k + 1) - 1)) = shD L k s := by
  have e1 : shD L (k + 1) s (100 + (k + 1) - 1) = s (100 + k) := by unfold shD; rw [if_neg (by omega)]; rfl
  have e2 : upd (shD L (k + 1) s) (100 + (k + 1)) (shD L (k + 1) s (100 + (k + 1) - 1)) (116 + (k + 1) - 1) = s (116 + k) := by
    rw [upd_nt _ _ (by omega)]; unfold shD; rw [if_neg (by omega)]; rfl
  rw [e2, e1]
  funext j
  unfold upd shD
  by_cases a : j = 116 + (k + 1)
  · rw [if_pos a, if_pos (by omega)]; subst a; rfl
  · rw [if_neg a]
    by_cases b : j = 100 + (k + 1)
    · rw [if_pos b, if_pos (by omega)]; subst b; rfl
    · rw [if_neg b]
      by_cases c : (100 + k < j ∧ j ≤ 100 + L) ∨ (116 + k < j ∧ j ≤ 116 + L)
      · rw [if_pos c, if_pos (by omega)]
      · rw [if_neg c, if_neg (by omega)]
def lgS (s : Nat → Int32) (i : Nat) (d : Int32) : Nat → Int32 :=
  upd (upd (upd (upd (shD (lgL s) 0 s) 100 (nI i)) 116 d) 99 (nI (lgL s + 1))) (26 + 9 * i + 8) (s (26 + 9 * i + 8) + 1)
theorem lgS_nt (s : Nat → Int32) (i : Nat) (d : Int32) {j : Nat} (h : j < 99) (hi : j ≠ 26 + 9 * i + 8) : lgS s i d j = s j := by
  unfold lgS; rw [upd_nt _ _ hi, upd_nt _ _ (by omega), upd_nt _ _ (by omega), upd_nt _ _ (by omega)]; unfold shD; rw [if_neg (by omega)]
theorem lgS_99 (s : Nat → Int32) {i : Nat} (d : Int32) (hi : i < 8) : lgS s i d 99 = nI (lgL s + 1) := by
  unfold lgS; rw [upd_nt _ _ (by omega), upd_at]
theorem lgS_SR (s : Nat → Int32) (i : Nat) (d : Int32) : SR s (lgS s i d) := fun j _ b c => lgS_nt s i d (by omega) (c i)
theorem lgL_le {u : Nat} {s : Nat → Int32} (h : VS u s) : lgL s ≤ 15 := by
  obtain ⟨_, _, _, ⟨l, hl, e⟩, _⟩ := h
  unfold lgL
  by_cases c : s 99 = 16
  · rw [if_pos c]; exact Nat.le_refl _
  · rw [if_neg c, e, nI_clamp (by omega)]
    have : l ≠ 16 := fun q => c (by rw [e, q]; rfl)
    omega
theorem lgS_VS {u : Nat} {s : Nat → Int32} (h : VS u s) {i : Nat} (d : Int32) (hi : i < u) : VS u (lgS s i d) :=
  h.of (lgS_SR s i d) ⟨_, Nat.succ_le_succ (lgL_le h), lgS_99 s d (by have := h.1; omega)⟩ (fun j hj => by rw [lgS_nt s i d (by omega) (by omega)]; exact h.2.2.2.2.1 j hj)
def alt (s : Nat → Int32) (ev : Int32) (r c : Nat) (v : Int32) : Nat → Int32 := if ev = 1 then upd s (6 + 3 * r + c) v else upd s r (if ev = 0 then 1 else 0)
theorem alt_nt (s : Nat → Int32) (ev : Int32) {r c : Nat} (v : Int32) {j : Nat} (hr : r < 6) (hc : c < 3) (h : 24 ≤ j) : alt s ev r c v j = s j := by
  unfold alt; by_cases e : ev = 1
  · rw [if_pos e]; exact upd_nt _ _ (by omega)
  · rw [if_neg e]; exact upd_nt _ _ (by omega)
theorem alt_VS {u : Nat} {s : Nat → Int32} (h : VS u s) (ev : Int32) {r c : Nat} (v : Int32) (hr : r < 6) (hc : c < 3) : VS u (alt s ev r c v) := by
  refine h.of (fun j a _ _ => alt_nt s ev v hr hc a) (by rw [alt_nt s ev v hr hc (by omega)]; exact h.2.2.2.1) (fun j hj => ?_)
  unfold alt; by_cases e : ev = 1
  · rw [if_pos e, upd_nt _ _ (by omega)]; exact h.2.2.2.2.1 j hj
  · rw [if_neg e]
    unfold upd
    by_cases q : j = r
    · rw [if_pos q]; by_cases z : ev = 0
      · rw [if_pos z]; exact .inr rfl
      · rw [if_neg z]; exact .inl rfl
    · rw [if_neg q]; exact h.2.2.2.2.1 j hj
set_option maxRecDepth 100000 in
set_option maxHeartbeats 4000000 in
theorem ct_X8_logs (x : XW) (u i : Nat) (hv : VS u (mS x.2.1)) (hi : i < u) : CT MX8_logs 0 0 [.ref 171, .int (nI i)] (hp x) (Det (.inl none) (hp (uM1 x (lgS (mS x.2.1) i (mF x.2.1 10))))) := by
  refine ct_of (by decide +kernel) (by decide) rfl (k := 2) (ls := [some (.ref 171), some (.int (nI i)), none, none]) rfl (Nat.le_of_ble_eq_true rfl) ?_
  have hu8 : u ≤ 8 := hv.1
  have hL := lgL_le hv
  have J27 : ∀ k, k ≤ lgL (mS x.2.1) → ∀ y, y = uM1 x (shD (lgL (mS x.2.1)) k (mS x.2.1)) → PW MX8_logs 0 0 27 [some (.ref 171), some (.int (nI i)), some (.int (nI (lgL (mS x.2.1)))), some (.int (nI k))] [] (hp y) (Det (.inl none) (hp (uM1 x (lgS (mS x.2.1) i (mF x.2.1 10))))) := by
    intro k
    induction k with
    | zero =>
      intro hk y hy
      refine pw_iload_n (tk tkX8_logs 15 rfl) rfl ?_
      refine pw_if_le (tgt := 77) (tk tkX8_logs 16 rfl) (by decide) (fun c28 => ?_) (fun c28 => absurd (Int32.le_refl _) c28)
      refine pw_aload_n (tk tkX8_logs 47 rfl) rfl ?_
      refine g8_s (tk tkX8_logs 48 rfl) fkX8_7 ?_
      refine pw_bipush (v := 100) (tk tkX8_logs 49 rfl) (by decide) ?_
      refine pw_iload_n (tk tkX8_logs 50 rfl) rfl ?_
      refine as_s_e (e := 100) (tk tkX8_logs 51 rfl) (by first | rfl | simp only [lit_nI, nI_add, pk_mul]) (by first | decide | omega) ?_
      refine pw_aload_n (tk tkX8_logs 52 rfl) rfl ?_
      refine g8_s (tk tkX8_logs 53 rfl) fkX8_7 ?_
      refine pw_bipush (v := 116) (tk tkX8_logs 54 rfl) (by decide) ?_
      refine pw_aload_n (tk tkX8_logs 55 rfl) rfl ?_
      refine g8_depth (tk tkX8_logs 56 rfl) fkX8_62 ?_
      refine as_s_e (e := 116) (tk tkX8_logs 57 rfl) (by first | rfl | simp only [lit_nI, nI_add, pk_mul]) (by first | decide | omega) ?_
      refine pw_aload_n (tk tkX8_logs 58 rfl) rfl ?_
      refine g8_s (tk tkX8_logs 59 rfl) fkX8_7 ?_
      refine pw_bipush (v := 99) (tk tkX8_logs 60 rfl) (by decide) ?_
      refine pw_iload_n (tk tkX8_logs 61 rfl) rfl ?_
      refine pw_iconst (v := 1) (tk tkX8_logs 62 rfl) (by decide) ?_
      refine pw_iadd (tk tkX8_logs 63 rfl) ?_
      rw [nI_1]
      refine as_s_e (e := 99) (tk tkX8_logs 64 rfl) (by first | rfl | simp only [lit_nI, nI_add, pk_mul]) (by first | decide | omega) ?_
      refine pw_aload_n (tk tkX8_logs 65 rfl) rfl ?_
      refine g8_s (tk tkX8_logs 66 rfl) fkX8_7 ?_
      refine pw_bipush (v := 26) (tk tkX8_logs 67 rfl) (by decide) ?_
      refine pw_bipush (v := 9) (tk tkX8_logs 68 rfl) (by decide) ?_
      refine pw_iload_n (tk tkX8_logs 69 rfl) rfl ?_
      refine pw_imul (tk tkX8_logs 70 rfl) ?_
      refine pw_iadd (tk tkX8_logs 71 rfl) ?_
      refine pw_bipush (v := 8) (tk tkX8_logs 72 rfl) (by decide) ?_
      refine pw_iadd (tk tkX8_logs 73 rfl) ?_
      refine pw_dup2 (tk tkX8_logs 74 rfl) rfl rfl ?_
      refine al_s_e (e := 26 + 9 * i + 8) (tk tkX8_logs 75 rfl) (by simp only [lit_nI, nI_add, pk_mul]) (by first | decide | omega) ?_
      refine pw_iconst (v := 1) (tk tkX8_logs 76 rfl) (by decide) ?_
      refine pw_iadd (tk tkX8_logs 77 rfl) ?_
      refine as_s_e (e := 26 + 9 * i + 8) (tk tkX8_logs 78 rfl) (by simp only [lit_nI, nI_add, pk_mul]) (by first | decide | omega) ?_
      refine pw_return (tk tkX8_logs 79 rfl) rfl (by decide) ?_
      refine ⟨rfl, ?_⟩
      subst hy
      have e : shD (lgL (mS x.2.1)) 0 (mS x.2.1) (26 + 9 * i + 8) = mS x.2.1 (26 + 9 * i + 8) := by unfold shD; rw [if_neg (by omega)]
      unfold lgS
      rw [← e, ← show (upd (upd (upd (shD (lgL (mS x.2.1)) 0 (mS x.2.1)) 100 (nI i)) 116 (mF x.2.1 10)) 99 (nI (lgL (mS x.2.1) + 1))) (26 + 9 * i + 8) = shD (lgL (mS x.2.1)) 0 (mS x.2.1) (26 + 9 * i + 8) from by rw [upd_nt _ _ (by omega), upd_nt _ _ (by omega), upd_nt _ _ (by omega)]]
      rfl
    | succ k ih =>
      intro hk y hy
      refine pw_iload_n (tk tkX8_logs 15 rfl) rfl ?_
      refine pw_if_le (tgt := 77) (tk tkX8_logs 16 rfl) (by decide) (fun c28 => absurd c28 (nI_nle (by omega) (by omega))) (fun c28 => ?_)
      refine pw_aload_n (tk tkX8_logs 17 rfl) rfl ?_
      refine g8_s (tk tkX8_logs 18 rfl) fkX8_7 ?_
      refine pw_bipush (v := 100) (tk tkX8_logs 19 rfl) (by decide) ?_
      refine pw_iload_n (tk tkX8_logs 20 rfl) rfl ?_
      refine pw_iadd (tk tkX8_logs 21 rfl) ?_
      refine pw_aload_n (tk tkX8_logs 22 rfl) rfl ?_
      refine g8_s (tk tkX8_logs 23 rfl) fkX8_7 ?_
      refine pw_bipush (v := 100) (tk tkX8_logs 24 rfl) (by decide) ?_
      refine pw_iload_n (tk tkX8_logs 25 rfl) rfl ?_
      refine pw_iadd (tk tkX8_logs 26 rfl) ?_
      refine pw_iconst (v := 1) (tk tkX8_logs 27 rfl) (by decide) ?_
      refine pw_isub (tk tkX8_logs 28 rfl) ?_
      refine al_s_e (e := 100 + (k + 1) - 1) (tk tkX8_logs 29 rfl) (by simp only [lit_nI, nI_add]; exact pk_sub (by omega)) (by first | decide | omega) ?_
      refine as_s_e (e := 100 + (k + 1)) (tk tkX8_logs 30 rfl) (by simp only [lit_nI, nI_add]) (by first | decide | omega) ?_
      refine pw_aload_n (tk tkX8_logs 31 rfl) rfl ?_
      refine g8_s (tk tkX8_logs 32 rfl) fkX8_7 ?_
      refine pw_bipush (v := 116) (tk tkX8_logs 33 rfl) (by decide) ?_
      refine pw_iload_n (tk tkX8_logs 34 rfl) rfl ?_
      refine pw_iadd (tk tkX8_logs 35 rfl) ?_
      refine pw_aload_n (tk tkX8_logs 36 rfl) rfl ?_
      refine g8_s (tk tkX8_logs 37 rfl) fkX8_7 ?_
      refine pw_bipush (v := 116) (tk tkX8_logs 38 rfl) (by decide) ?_
      refine pw_iload_n (tk tkX8_logs 39 rfl) rfl ?_
      refine pw_iadd (tk tkX8_logs 40 rfl) ?_
      refine pw_iconst (v := 1) (tk tkX8_logs 41 rfl) (by decide) ?_
      refine pw_isub (tk tkX8_logs 42 rfl) ?_
      refine al_s_e (e := 116 + (k + 1) - 1) (tk tkX8_logs 43 rfl) (by simp only [lit_nI, nI_add]; exact pk_sub (by omega)) (by first | decide | omega) ?_
      refine as_s_e (e := 116 + (k + 1)) (tk tkX8_logs 44 rfl) (by simp only [lit_nI, nI_add]) (by first | decide | omega) ?_
      refine pw_inc3 (tk tkX8_logs 45 rfl) rfl (by decide) (pk_m1 k) ?_
      refine pw_goto (tgt := 27) (tk tkX8_logs 46 rfl) (by decide) ?_
      refine ih (by omega) _ ?_
      rw [hy]
      show uM1 x (upd (upd (shD (lgL (mS x.2.1)) (k + 1) (mS x.2.1)) (100 + (k + 1)) (shD (lgL (mS x.2.1)) (k + 1) (mS x.2.1) (100 + (k + 1) - 1))) (116 + (k + 1)) (upd (shD (lgL (mS x.2.1)) (k + 1) (mS x.2.1)) (100 + (k + 1)) (shD (lgL (mS x.2.1)) (k + 1) (mS x.2.1) (100 + (k + 1) - 1)) (116 + (k + 1) - 1))) = _
      rw [shD_s _ _ _ (by omega) hL]
  have J24 : ∀ w, w = nI (lgL (mS x.2.1)) → PW MX8_logs 0 0 24 [some (.ref 171), some (.int (nI i)), none, none] [.int w] (hp x) (Det (.inl none) (hp (uM1 x (lgS (mS x.2.1) i (mF x.2.1 10))))) := by
    intro w hw
    subst hw
    refine pw_ist2 (tk tkX8_logs 12 rfl) rfl (by decide) ?_
    refine pw_iload_n (tk tkX8_logs 13 rfl) rfl ?_
    refine pw_ist3 (tk tkX8_logs 14 rfl) rfl (by decide) ?_
    exact J27 _ (Nat.le_refl _) x (by rw [shD_0]; rfl)
  refine pw_aload_n (tk tkX8_logs 0 rfl) rfl ?_
  refine g8_s (tk tkX8_logs 1 rfl) fkX8_7 ?_
  refine pw_bipush (v := 99) (tk tkX8_logs 2 rfl) (by decide) ?_
  refine al_s_e (e := 99) (tk tkX8_logs 3 rfl) (by first | rfl | simp only [lit_nI, nI_add, pk_mul]) (by first | decide | omega) ?_
  refine pw_bipush (v := 16) (tk tkX8_logs 4 rfl) (by decide) ?_
  refine pw_icmp_ne (tgt := 17) (tk tkX8_logs 5 rfl) (by decide) (fun c9 => ?_) (fun c9 => ?_)
  · refine pw_aload_n (tk tkX8_logs 8 rfl) rfl ?_
    refine g8_s (tk tkX8_logs 9 rfl) fkX8_7 ?_
    refine pw_bipush (v := 99) (tk tkX8_logs 10 rfl) (by decide) ?_
    refine al_s_e (e := 99) (tk tkX8_logs 11 rfl) (by first | rfl | simp only [lit_nI, nI_add, pk_mul]) (by first | decide | omega) ?_
    exact J24 _ (by unfold lgL; rw [if_neg c9]; obtain ⟨_, _, _, ⟨l, hl, e⟩, _⟩ := hv; rw [e, nI_clamp (by omega)])
  · refine pw_bipush (v := 15) (tk tkX8_logs 6 rfl) (by decide) ?_
    refine pw_goto (tgt := 24) (tk tkX8_logs 7 rfl) (by decide) ?_
    exact J24 _ (by unfold lgL; rw [if_pos c9]; rfl)
def bgC (s : Nat → Int32) (u : Nat) (hp : Int32) (ev : Int32) (r c : Nat) (v its : Int32) : Int32 :=
  if ¬ its ≤ s 24 then 3 else if hp = 100 then 4 else if ¬ mkM (mtC s ev r (nI c) v true) u = 0 then 5 else 0
theorem bgC_cs (s : Nat → Int32) (u : Nat) (hp : Int32) (ev : Int32) (r c : Nat) (v its : Int32) : bgC s u hp ev r c v its = 3 ∨ bgC s u hp ev r c v its = 4 ∨ bgC s u hp ev r c v its = 5 ∨ (bgC s u hp ev r c v its = 0 ∧ its ≤ s 24) := by
  unfold bgC
  by_cases a : ¬ its ≤ s 24
  · rw [if_pos a]; exact .inl rfl
  · rw [if_neg a]; by_cases b : hp = 100
    · rw [if_pos b]; exact .inr (.inl rfl)
    · rw [if_neg b]; by_cases c : ¬ mkM (mtC s ev r (nI ‹Nat›) v true) u = 0
      · exact .inr (.inr (.inl (by first | exact if_pos c | (split <;> simp_all))))
      · exact .inr (.inr (by split <;> simp_all))
def mx (a b : Int32) : Int32 := if a ≤ b then b else a
/-- what begins leaves -/
def bgW (x : XW) (u : Nat) (ev : Int32) (r c : Nat) (v : Int32) (its : Nat) : XW :=
  uM1 (uM7 (uM6 x (upd (mWa x.2.1) its (mkM (mtC (mS x.2.1) ev r (nI c) v false) u))) (upd (upd (upd (upd (mF x.2.1) 13 0) 10 (nI its)) 11 (mx (nI its) (mF x.2.1 11))) 12 (mF x.2.1 12 + 1))) (alt (mS x.2.1) ev r c v)
def bgX (x : XW) (u : Nat) (ev : Int32) (r c : Nat) (v : Int32) (its : Nat) : XW :=
  if bgC (mS x.2.1) u (mF x.2.1 12) ev r c v (nI its) = 0 then bgW x u ev r c v its else uM7 x (upd (mF x.2.1) 13 (bgC (mS x.2.1) u (mF x.2.1 12) ev r c v (nI its)))
set_option maxRecDepth 100000 in
set_option maxHeartbeats 4000000 in
theorem ct_X8_begins (x : XW) (u : Nat) (hv : VS u (mS x.2.1)) (ev : Int32) (r c : Nat) (v : Int32) (its : Nat) (hr : r < 6) (hc : c < 3) (h6 : its ≤ 6) : CT MX8_begins 2 0 [.ref 171, .int ev, .int (nI r), .int (nI c), .int v, .int (nI its)] (hp x) (Det (.inl (some (.int (bI (decide (bgC (mS x.2.1) u (mF x.2.1 12) ev r c v (nI its) = 0)))))) (hp (bgX x u ev r c v its))) := by
  refine ct_of (by decide +kernel) (by decide) rfl (k := 0) (ls := [some (.ref 171), some (.int ev), some (.int (nI r)), some (.int (nI c)), some (.int v), some (.int (nI its))]) rfl (Nat.le_of_ble_eq_true rfl) ?_
  have e24 : ∃ dp, dp ≤ 5 ∧ mS x.2.1 24 = nI dp := hv.2.2.1
  have J115 : ∀ y : XW, mS y.2.1 = mS x.2.1 → uM1 y (alt (mS x.2.1) ev r c v) = bgX x u ev r c v its → bgC (mS x.2.1) u (mF x.2.1 12) ev r c v (nI its) = 0 → PW MX8_begins 2 0 115 [some (.ref 171), some (.int ev), some (.int (nI r)), some (.int (nI c)), some (.int v), some (.int (nI its))] [] (hp y) (Det (.inl (some (.int (bI (decide (bgC (mS x.2.1) u (mF x.2.1 12) ev r c v (nI its) = 0)))))) (hp (bgX x u ev r c v its))) := by
    intro y hs hy h0
    have J151 : ¬ ev = 1 → ∀ w, w = (if ev = 0 then (1 : Int32) else 0) → PW MX8_begins 2 0 151 [some (.ref 171), some (.int ev), some (.int (nI r)), some (.int (nI c)), some (.int v), some (.int (nI its))] [.int w, .int (0 + nI r), .ref 172] (hp y) (Det (.inl (some (.int (bI (decide (bgC (mS x.2.1) u (mF x.2.1 12) ev r c v (nI its) = 0)))))) (hp (bgX x u ev r c v its))) := by
      intro e1 w hw
      subst hw
      refine as_s_e (e := r) (tk tkX8_begins 83 rfl) (Int32.zero_add _) (by first | decide | omega) ?_
      refine pw_iconst (v := 1) (tk tkX8_begins 84 rfl) (by decide) ?_
      refine pw_ireturn (tk tkX8_begins 85 rfl) rfl (by decide) (by first | rfl | exact nar_bI _) ?_
      refine ⟨by rw [h0]; rfl, ?_⟩
      rw [← hy, ← hs]
      unfold alt
      rw [if_neg e1]
    refine pw_iload_n (tk tkX8_begins 62 rfl) rfl ?_
    refine pw_iconst (v := 1) (tk tkX8_begins 63 rfl) (by decide) ?_
    refine pw_icmp_ne (tgt := 135) (tk tkX8_begins 64 rfl) (by decide) (fun c117 => ?_) (fun c117 => ?_)
    · refine pw_aload_n (tk tkX8_begins 73 rfl) rfl ?_
      refine g8_s (tk tkX8_begins 74 rfl) fkX8_7 ?_
      refine pw_iconst (v := 0) (tk tkX8_begins 75 rfl) (by decide) ?_
      refine pw_iload_n (tk tkX8_begins 76 rfl) rfl ?_
      refine pw_iadd (tk tkX8_begins 77 rfl) ?_
      refine pw_iload_n (tk tkX8_begins 78 rfl) rfl ?_
      refine pw_if_ne (tgt := 150) (tk tkX8_begins 79 rfl) (by decide) (fun c143 => ?_) (fun c143 => ?_)
      · refine pw_iconst (v := 0) (tk tkX8_begins 82 rfl) (by decide) ?_
        exact J151 c117 _ (by rw [if_neg c143])
      · refine pw_iconst (v := 1) (tk tkX8_begins 80 rfl) (by decide) ?_
        refine pw_goto (tgt := 151) (tk tkX8_begins 81 rfl) (by decide) ?_
        exact J151 c117 _ (by rw [if_pos c143])
    · refine pw_aload_n (tk tkX8_begins 65 rfl) rfl ?_
      refine g8_s (tk tkX8_begins 66 rfl) fkX8_7 ?_
      refine pw_iload_n (tk tkX8_begins 67 rfl) rfl ?_
      refine pw_iload_n (tk tkX8_begins 68 rfl) rfl ?_
      refine pw_cS (ct_X8_of _ r c) okX8_of (tk tkX8_begins 69 rfl) mkX8_49 stX8_of rfl rfl (by decide) (by decide) (Nat.le_of_ble_eq_true rfl) ?_
      refine pw_iload (tk tkX8_begins 70 rfl) rfl ?_
      refine as_s_e (e := 6 + 3 * r + c) (tk tkX8_begins 71 rfl) rfl (by first | decide | omega) ?_
      refine pw_goto (tgt := 152) (tk tkX8_begins 72 rfl) (by decide) ?_
      refine pw_iconst (v := 1) (tk tkX8_begins 84 rfl) (by decide) ?_
      refine pw_ireturn (tk tkX8_begins 85 rfl) rfl (by decide) (by first | rfl | exact nar_bI _) ?_
      refine ⟨by rw [h0]; rfl, ?_⟩
      rw [← hy, ← hs]
      unfold alt
      rw [if_pos c117]
  have J48 : ∀ w, w = bgC (mS x.2.1) u (mF x.2.1 12) ev r c v (nI its) → PW MX8_begins 2 0 48 [some (.ref 171), some (.int ev), some (.int (nI r)), some (.int (nI c)), some (.int v), some (.int (nI its))] [.int w, .ref 171] (hp x) (Det (.inl (some (.int (bI (decide (bgC (mS x.2.1) u (mF x.2.1 12) ev r c v (nI its) = 0)))))) (hp (bgX x u ev r c v its))) := by
    intro w hw
    have cs := bgC_cs (mS x.2.1) u (mF x.2.1 12) ev r c v (nI its)
    rw [← hw] at cs
    rcases cs with cs1 | cs1 | cs1 | ⟨cs1, cs2⟩
    · refine p8_refused (tk tkX8_begins 26 rfl) fkX8_59 ?_
      refine pw_aload_n (tk tkX8_begins 27 rfl) rfl ?_
      refine g8_refused (tk tkX8_begins 28 rfl) fkX8_59 ?_
      refine pw_if_le (tgt := 60) (tk tkX8_begins 29 rfl) (by decide) (fun c55 => absurd c55 (by show ¬ w ≤ 0; rw [cs1]; decide)) (fun c55 => ?_)
      refine pw_iconst (v := 0) (tk tkX8_begins 30 rfl) (by decide) ?_
      refine pw_ireturn (tk tkX8_begins 31 rfl) rfl (by decide) (by first | rfl | exact nar_bI _) ?_
      rw [hw] at cs1
      refine ⟨by rw [cs1]; decide, ?_⟩
      subst hw
      unfold bgX
      rw [if_neg (by rw [cs1]; decide)]
    · refine p8_refused (tk tkX8_begins 26 rfl) fkX8_59 ?_
      refine pw_aload_n (tk tkX8_begins 27 rfl) rfl ?_
      refine g8_refused (tk tkX8_begins 28 rfl) fkX8_59 ?_
      refine pw_if_le (tgt := 60) (tk tkX8_begins 29 rfl) (by decide) (fun c55 => absurd c55 (by show ¬ w ≤ 0; rw [cs1]; decide)) (fun c55 => ?_)
      refine pw_iconst (v := 0) (tk tkX8_begins 30 rfl) (by decide) ?_
      refine pw_ireturn (tk tkX8_begins 31 rfl) rfl (by decide) (by first | rfl | exact nar_bI _) ?_
      rw [hw] at cs1
      refine ⟨by rw [cs1]; decide, ?_⟩
      subst hw
      unfold bgX
      rw [if_neg (by rw [cs1]; decide)]
    · refine p8_refused (tk tkX8_begins 26 rfl) fkX8_59 ?_
      refine pw_aload_n (tk tkX8_begins 27 rfl) rfl ?_
      refine g8_refused (tk tkX8_begins 28 rfl) fkX8_59 ?_
      refine pw_if_le (tgt := 60) (tk tkX8_begins 29 rfl) (by decide) (fun c55 => absurd c55 (by show ¬ w ≤ 0; rw [cs1]; decide)) (fun c55 => ?_)
      refine pw_iconst (v := 0) (tk tkX8_begins 30 rfl) (by decide) ?_
      refine pw_ireturn (tk tkX8_begins 31 rfl) rfl (by decide) (by first | rfl | exact nar_bI _) ?_
      rw [hw] at cs1
      refine ⟨by rw [cs1]; decide, ?_⟩
      subst hw
      unfold bgX
      rw [if_neg (by rw [cs1]; decide)]
    · have hi5 : its ≤ 5 := by
        obtain ⟨dp, h5, e⟩ := e24
        rw [e] at cs2
        exact Nat.le_trans ((nI_leI (by omega) (by omega)).mp cs2) h5
      have h0 : bgC (mS x.2.1) u (mF x.2.1 12) ev r c v (nI its) = 0 := by rw [← hw]; exact cs1
      rw [cs1]
      refine p8_refused (tk tkX8_begins 26 rfl) fkX8_59 ?_
      refine pw_aload_n (tk tkX8_begins 27 rfl) rfl ?_
      refine g8_refused (tk tkX8_begins 28 rfl) fkX8_59 ?_
      refine pw_if_le (tgt := 60) (tk tkX8_begins 29 rfl) (by decide) (fun c55 => ?_) (fun c55 => absurd (Int32.le_refl _) c55)
      refine pw_aload_n (tk tkX8_begins 32 rfl) rfl ?_
      refine g8_waiting (tk tkX8_begins 33 rfl) fkX8_25 ?_
      refine pw_iload (tk tkX8_begins 34 rfl) rfl ?_
      refine pw_aload_n (tk tkX8_begins 35 rfl) rfl ?_
      refine pw_iload_n (tk tkX8_begins 36 rfl) rfl ?_
      refine pw_iload_n (tk tkX8_begins 37 rfl) rfl ?_
      refine pw_iload_n (tk tkX8_begins 38 rfl) rfl ?_
      refine pw_iload (tk tkX8_begins 39 rfl) rfl ?_
      have e72 : (0 : Int32) = bI false := rfl
      refine pw_iconst (v := 0) (tk tkX8_begins 40 rfl) (by decide) ?_
      refine pw_cV (ct_X8_matching (uM7 x (upd (mF x.2.1) 13 0)) u r hv.2.1 hv.1 hr (fun i hi => (hv.2.2.2.2.2 i hi).1) ev (nI c) v false) okX8_matching (tk tkX8_begins 41 rfl) mkX8_55 imX8_matching seX8_matching (hp_ot _ 11) rfl rfl rfl (by decide) (by decide) (Nat.le_of_ble_eq_true rfl) ?_
      refine as_waiting_e (e := its) (tk tkX8_begins 42 rfl) rfl (by first | decide | omega) ?_
      refine pw_aload_n (tk tkX8_begins 43 rfl) rfl ?_
      refine pw_iload (tk tkX8_begins 44 rfl) rfl ?_
      refine p8_depth (tk tkX8_begins 45 rfl) fkX8_62 ?_
      refine pw_aload_n (tk tkX8_begins 46 rfl) rfl ?_
      refine pw_iload (tk tkX8_begins 47 rfl) rfl ?_
      refine pw_aload_n (tk tkX8_begins 48 rfl) rfl ?_
      refine g8_deepest (tk tkX8_begins 49 rfl) fkX8_65 ?_
      refine pw_icmp_le (tgt := 98) (tk tkX8_begins 50 rfl) (by decide) (fun c90 => ?_) (fun c90 => ?_)
      · refine pw_aload_n (tk tkX8_begins 53 rfl) rfl ?_
        refine g8_deepest (tk tkX8_begins 54 rfl) fkX8_65 ?_
        refine p8_deepest (tk tkX8_begins 55 rfl) fkX8_65 ?_
        refine pw_aload_n (tk tkX8_begins 56 rfl) rfl ?_
        refine pw_dup (tk tkX8_begins 57 rfl) rfl ?_
        refine g8_happened (tk tkX8_begins 58 rfl) fkX8_52 ?_
        refine pw_iconst (v := 1) (tk tkX8_begins 59 rfl) (by decide) ?_
        refine pw_iadd (tk tkX8_begins 60 rfl) ?_
        refine p8_happened (tk tkX8_begins 61 rfl) fkX8_52 ?_
        refine J115 _ rfl ?_ h0
        unfold bgX
        rw [if_pos h0]
        have q :  (nI its ≤ mF x.2.1 11) := c90
        unfold bgW mx
        rw [if_pos q]
        rfl
      · refine pw_iload (tk tkX8_begins 51 rfl) rfl ?_
        refine pw_goto (tgt := 102) (tk tkX8_begins 52 rfl) (by decide) ?_
        refine p8_deepest (tk tkX8_begins 55 rfl) fkX8_65 ?_
        refine pw_aload_n (tk tkX8_begins 56 rfl) rfl ?_
        refine pw_dup (tk tkX8_begins 57 rfl) rfl ?_
        refine g8_happened (tk tkX8_begins 58 rfl) fkX8_52 ?_
        refine pw_iconst (v := 1) (tk tkX8_begins 59 rfl) (by decide) ?_
        refine pw_iadd (tk tkX8_begins 60 rfl) ?_
        refine p8_happened (tk tkX8_begins 61 rfl) fkX8_52 ?_
        refine J115 _ rfl ?_ h0
        unfold bgX
        rw [if_pos h0]
        have q : ¬  (nI its ≤ mF x.2.1 11) := c90
        unfold bgW mx
        rw [if_neg q]
        rfl
  refine pw_aload_n (tk tkX8_begins 0 rfl) rfl ?_
  refine pw_iload (tk tkX8_begins 1 rfl) rfl ?_
  refine pw_aload_n (tk tkX8_begins 2 rfl) rfl ?_
  refine g8_s (tk tkX8_begins 3 rfl) fkX8_7 ?_
  refine pw_bipush (v := 24) (tk tkX8_begins 4 rfl) (by decide) ?_
  refine al_s_e (e := 24) (tk tkX8_begins 5 rfl) (by first | rfl | simp only [lit_nI, nI_add, pk_mul]) (by first | decide | omega) ?_
  refine pw_icmp_le (tgt := 17) (tk tkX8_begins 6 rfl) (by decide) (fun c10 => ?_) (fun c10 => ?_)
  · refine pw_aload_n (tk tkX8_begins 9 rfl) rfl ?_
    refine g8_happened (tk tkX8_begins 10 rfl) fkX8_52 ?_
    refine pw_bipush (v := 100) (tk tkX8_begins 11 rfl) (by decide) ?_
    refine pw_icmp_ne (tgt := 30) (tk tkX8_begins 12 rfl) (by decide) (fun c23 => ?_) (fun c23 => ?_)
    · refine pw_aload_n (tk tkX8_begins 15 rfl) rfl ?_
      refine pw_iload_n (tk tkX8_begins 16 rfl) rfl ?_
      refine pw_iload_n (tk tkX8_begins 17 rfl) rfl ?_
      refine pw_iload_n (tk tkX8_begins 18 rfl) rfl ?_
      refine pw_iload (tk tkX8_begins 19 rfl) rfl ?_
      refine pw_iconst (v := 1) (tk tkX8_begins 20 rfl) (by decide) ?_
      refine pw_cV (ct_X8_matching x u r hv.2.1 hv.1 hr (fun i hi => (hv.2.2.2.2.2 i hi).1) ev (nI c) v true) okX8_matching (tk tkX8_begins 21 rfl) mkX8_55 imX8_matching seX8_matching (hp_ot _ 11) rfl rfl rfl (by decide) (by decide) (Nat.le_of_ble_eq_true rfl) ?_
      refine pw_if_eq (tgt := 47) (tk tkX8_begins 22 rfl) (by decide) (fun c40 => ?_) (fun c40 => ?_)
      · refine pw_iconst (v := 0) (tk tkX8_begins 25 rfl) (by decide) ?_
        exact J48 _ (by unfold bgC; simp [c10, c23, c40])
      · refine pw_iconst (v := 5) (tk tkX8_begins 23 rfl) (by decide) ?_
        refine pw_goto (tgt := 48) (tk tkX8_begins 24 rfl) (by decide) ?_
        exact J48 _ (by unfold bgC; simp [c10, c23, c40])
    · refine pw_iconst (v := 4) (tk tkX8_begins 13 rfl) (by decide) ?_
      refine pw_goto (tgt := 48) (tk tkX8_begins 14 rfl) (by decide) ?_
      exact J48 _ (by unfold bgC; simp [c10, c23])
  · refine pw_iconst (v := 3) (tk tkX8_begins 7 rfl) (by decide) ?_
    refine pw_goto (tgt := 48) (tk tkX8_begins 8 rfl) (by decide) ?_
    exact J48 _ (by unfold bgC; simp [c10])
