/-- the best so far: size and one, by how much apart, how many, the row -/
def mS1 (G : Nat → Nat) (la sz : Nat) (r : (Nat × Nat × Nat × Nat)) (B : (Nat × Nat × Nat × (Nat × Nat × Nat × Nat))) : (Nat × Nat × Nat × (Nat × Nat × Nat × Nat)) := if B.1 = 0 ∨ nM G la sz r < B.2.1 then (sz + 1, nM G la sz r, 0, r) else B
def mS2 (u sz : Nat) (B : (Nat × Nat × Nat × (Nat × Nat × Nat × Nat))) : (Nat × Nat × Nat × (Nat × Nat × Nat × Nat)) := if u = B.2.1 ∧ sz + 1 = B.1 then (B.1, B.2.1, B.2.2.1 + 1, B.2.2.2) else B
def mSt (G : Nat → Nat) (la sz : Nat) (r : (Nat × Nat × Nat × Nat)) (B : (Nat × Nat × Nat × (Nat × Nat × Nat × Nat))) : (Nat × Nat × Nat × (Nat × Nat × Nat × Nat)) := mS2 (nM G la sz r) sz (mS1 G la sz r B)
def mRn (G : Nat → Nat) (la sz : Nat) : Nat → (Nat × Nat × Nat × Nat) → (Nat × Nat × Nat × (Nat × Nat × Nat × Nat)) → (Nat × Nat × Nat × (Nat × Nat × Nat × Nat))
  | 0, _, B => B
  | n + 1, r, B => if pS (G 0) r sz = 0 then mSt G la sz r B else mRn G la sz n (nx (G 0) sz r) (mSt G la sz r B)
def mO (G : Nat → Nat) (la : Nat) : Nat → (Nat × Nat × Nat × (Nat × Nat × Nat × Nat))
  | 0 => (0, 0, 0, (0, 0, 0, 0))
  | k + 1 => if k = 0 ∨ 0 < G 0 then mRn G la k 330 (0, 0, 0, 0) (mO G la k) else mO G la k
/-- what holds of it -/
def gB (B : (Nat × Nat × Nat × (Nat × Nat × Nat × Nat))) (sz c : Nat) : Prop := B.1 ≤ sz + 1 ∧ B.2.1 ≤ 30000 ∧ B.2.2.1 ≤ c ∧ (B.1 ≠ 0 → B.2.1 = 0 → 0 < B.2.2.1)
theorem gB_st {G : Nat → Nat} (hI : zInv G) {la sz c : Nat} {r : (Nat × Nat × Nat × Nat)} {B : (Nat × Nat × Nat × (Nat × Nat × Nat × Nat))} (hl : la < 3) (h4 : sz ≤ 4) (hr : ∀ i, i < sz → at4 r i < G 0) (h : gB B sz c) : gB (mSt G la sz r B) sz (c + 1) := by
  obtain ⟨h1, h2, h3, h4'⟩ := h
  have hm := nM_le hI hl h4 hr
  unfold mSt mS1
  by_cases hc : B.1 = 0 ∨ nM G la sz r < B.2.1
  · rw [if_pos hc]
    unfold mS2
    rw [if_pos ⟨rfl, rfl⟩]
    exact ⟨Nat.le_refl _, hm, by show 0 + 1 ≤ c + 1; omega, fun _ _ => Nat.succ_pos _⟩
  · rw [if_neg hc]
    unfold mS2
    by_cases hd : nM G la sz r = B.2.1 ∧ sz + 1 = B.1
    · rw [if_pos hd]
      exact ⟨h1, h2, by show B.2.2.1 + 1 ≤ c + 1; omega, fun _ _ => Nat.succ_pos _⟩
    · rw [if_neg hd]
      exact ⟨h1, h2, by omega, h4'⟩
/-- once it is met, greater sizes change nothing -/
theorem mSt_fix {G : Nat → Nat} {la sz : Nat} {r : (Nat × Nat × Nat × Nat)} {B : (Nat × Nat × Nat × (Nat × Nat × Nat × Nat))} (h1 : B.1 ≠ 0) (h2 : B.2.1 = 0) (h3 : B.1 ≤ sz) : mSt G la sz r B = B := by
  unfold mSt mS1
  rw [if_neg (by omega)]
  unfold mS2
  rw [if_neg (by omega)]
theorem mRn_fix {G : Nat → Nat} {la sz : Nat} {B : (Nat × Nat × Nat × (Nat × Nat × Nat × Nat))} (h1 : B.1 ≠ 0) (h2 : B.2.1 = 0) (h3 : B.1 ≤ sz) : ∀ n r, mRn G la sz n r B = B := by
  intro n
  induction n with
  | zero => exact fun _ => rfl
  | succ n ih =>
    intro r
    show (if pS (G 0) r sz = 0 then mSt G la sz r B else mRn G la sz n (nx (G 0) sz r) (mSt G la sz r B)) = B
    rw [mSt_fix h1 h2 h3, ih]
    split <;> rfl
theorem mO_fix {G : Nat → Nat} {la k : Nat} (h1 : (mO G la k).1 ≠ 0) (h2 : (mO G la k).2.1 = 0) (h3 : (mO G la k).1 ≤ k) : ∀ j, mO G la (k + j) = mO G la k := by
  intro j
  induction j with
  | zero => rfl
  | succ j ih =>
    show (if k + j = 0 ∨ 0 < G 0 then mRn G la (k + j) 330 (0, 0, 0, 0) (mO G la (k + j)) else mO G la (k + j)) = mO G la k
    rw [ih, mRn_fix h1 h2 (by omega)]
    split <;> rfl
theorem at0 (i : Nat) : at4 (0, 0, 0, 0) i = 0 := by
  unfold at4
  split
  · rfl
  · split
    · rfl
    · split <;> rfl
theorem st0 {G : Nat → Nat} {sz : Nat} (h : sz = 0 ∨ 0 < G 0) : ∀ i, i < sz → at4 (0, 0, 0, 0) i < G 0 := fun i hi => by rw [at0]; omega
/-- the model's side -/
def mRel (τ t : ZS) (G : Nat → Nat) (B : (Nat × Nat × Nat × (Nat × Nat × Nat × Nat))) : Prop := zMs τ t G ∧ t.1 0 19 = (if B.1 = 0 then -1 else nI (B.1 - 1)) ∧ (B.1 ≠ 0 → t.1 0 20 = nI B.2.1 ∧ ∀ i, i < B.1 - 1 → t.1 13 i = nI (at4 B.2.2.2 i)) ∧ t.1 0 21 = nI B.2.2.1
theorem copyB {t : ZS} {sz : Nat} {r : (Nat × Nat × Nat × Nat)} (h4 : sz ≤ 4) (h : rwM t sz r) (k130 : Int32 → Int32 → Int32 → Int32 → ZS → Option (Unit × ZS)) (x1 x2 x5 : Int32) : ∃ t2, fX7_findBest_104 k130 x1 x2 (nI sz) x5 0 t = k130 x1 x2 (nI sz) x5 t2 ∧ (∀ c, c ≠ 13 → t2.1 c = t.1 c) ∧ ∀ i, i < sz → t2.1 13 i = nI (at4 r i) := by
  unfold fX7_findBest_104 fX7_findBest_104n
  refine zloop_rule (fun i st => ∃ s1 : ZS, st = (x1, x2, nI sz, x5, nI i, s1) ∧ i ≤ sz ∧ (∀ c, c ≠ 13 → s1.1 c = t.1 c) ∧ ∀ j, j < i → s1.1 13 j = nI (at4 r j)) 4 (fun o => ∃ t2 : ZS, o = k130 x1 x2 (nI sz) x5 t2 ∧ (∀ c, c ≠ 13 → t2.1 c = t.1 c) ∧ ∀ i, i < sz → t2.1 13 i = nI (at4 r i)) (fun i s h => by have := h.choose_spec.2.1; omega) ?_ zN 0 _ ⟨t, rfl, Nat.zero_le _, fun _ _ => rfl, fun j hj => absurd hj (Nat.not_lt_zero j)⟩ (by unfold zN; omega)
  rintro f i st ⟨s1, rfl, hi, c1, c2⟩
  unfold fX7_findBest_104b
  dsimp only
  by_cases e : i = sz
  · subst e
    rw [if_pos (Int32.le_refl _)]
    exact Or.inr ⟨s1, rfl, c1, c2⟩
  · rw [if_neg (show ¬ nI sz ≤ nI i from nI_ge (by omega) (by omega)), zin_t (show i < 2147483648 by omega) (show i < 4 by omega), zg_tr, zg_tr, nI_cl (show i < 2147483648 by omega), c1 12 (by decide), h i (by omega), show nI i + 1 = nI (i + 1) from nI_add i 1]
    refine Or.inl ⟨_, rfl, _, rfl, by omega, fun c hc => by rw [zI_ne _ _ _ hc]; exact c1 c hc, fun j hj => ?_⟩
    rw [zI_at]
    by_cases ej : j = i
    · subst ej; rw [upd_at]
    · rw [upd_ne _ _ ej]; exact c2 j (by omega)
theorem zMs.best {τ t t2 : ZS} {G : Nat → Nat} (c : zMs τ t G) (a : ∀ k, k ≠ 0 → k ≠ 4 → k ≠ 12 → k ≠ 13 → t2.1 k = t.1 k) (b : ∀ k, k ≠ 19 → k ≠ 20 → k ≠ 21 → t2.1 0 k = t.1 0 k) : zMs τ t2 G := c.fr ⟨fun k hk => a k (by omega) (by omega) (by omega) (by omega), b 2 (by decide) (by decide) (by decide), b 8 (by decide) (by decide) (by decide), b 23 (by decide) (by decide) (by decide)⟩
theorem m130 {τ t : ZS} {G : Nat → Nat} {sz u : Nat} {B : (Nat × Nat × Nat × (Nat × Nat × Nat × Nat))} (h4 : sz ≤ 4) (hu : u ≤ 30000) (hR : mRel τ t G B) (h1 : B.1 ≠ 0) (hB : B.1 ≤ sz + 1) (hB2 : B.2.1 ≤ 30000) (k56 : Int32 → Int32 → Int32 → Int32 → ZS → Option (Unit × ZS)) (x1 x2 : Int32) : ∃ t2, fX7_findBest_130 k56 x1 x2 (nI sz) (nI u) t = zb (fX7_next (nI sz) t2) (fun u1 s1 => k56 x1 x2 (nI sz) u1 s1) ∧ mRel τ t2 G (mS2 u sz B) ∧ ∀ c, c ≠ 0 → t2.1 c = t.1 c := by
  obtain ⟨c, r1, r2, r3⟩ := hR
  obtain ⟨r20, r13⟩ := r2 h1
  rw [if_neg h1] at r1
  have upd21 : ∀ x : Int32, zMs τ (zI t 0 21 x) G ∧ (zI t 0 21 x).1 0 19 = nI (B.1 - 1) ∧ (zI t 0 21 x).1 0 20 = nI B.2.1 ∧ (∀ i, i < B.1 - 1 → (zI t 0 21 x).1 13 i = nI (at4 B.2.2.2 i)) ∧ (zI t 0 21 x).1 0 21 = x := fun x => ⟨c.best (fun k h0 _ _ _ => zI_ne _ _ _ h0) (fun k _ _ h => by rw [zI_at, upd_ne _ _ h]), by rw [zI_at, upd_ne _ _ (by decide)]; exact r1, by rw [zI_at, upd_ne _ _ (by decide)]; exact r20, fun i hi => by rw [zI_ne _ _ _ (by decide)]; exact r13 i hi, by rw [zI_at, upd_at]⟩
  unfold fX7_findBest_130 fX7_findBest_156 fX7_findBest_157 mS2
  rw [r20, r1, r3]
  by_cases e1 : u = B.2.1
  · rw [if_pos (show nI u = nI B.2.1 by rw [e1])]
    by_cases e2 : sz + 1 = B.1
    · rw [if_pos (show nI sz = nI (B.1 - 1) by rw [← e2, Nat.add_sub_cancel]), if_pos ⟨e1, e2⟩]
      obtain ⟨q1, q2, q3, q4, q5⟩ := upd21 (nI B.2.2.1 + 1)
      exact ⟨_, rfl, ⟨q1, by rw [if_neg h1]; exact q2, fun _ => ⟨q3, q4⟩, by rw [q5, show (1 : Int32) = nI 1 from rfl, nI_add]⟩, fun c hc => zI_ne _ _ _ hc⟩
    · rw [if_neg (show ¬ nI sz = nI (B.1 - 1) from fun q => e2 (by have := (nI_eq_iff (by omega) (by omega)).mp q; omega)), if_neg (fun q => e2 q.2)]
      obtain ⟨q1, q2, q3, q4, q5⟩ := upd21 (nI B.2.2.1 + 0)
      exact ⟨_, rfl, ⟨q1, by rw [if_neg h1]; exact q2, fun _ => ⟨q3, q4⟩, by rw [q5, Int32.add_zero]⟩, fun c hc => zI_ne _ _ _ hc⟩
  · rw [if_neg (show ¬ nI u = nI B.2.1 from fun q => e1 ((nI_eq_iff (by omega) (by omega)).mp q)), if_neg (fun q => e1 q.1)]
    obtain ⟨q1, q2, q3, q4, q5⟩ := upd21 (nI B.2.2.1 + 0)
    exact ⟨_, rfl, ⟨q1, by rw [if_neg h1]; exact q2, fun _ => ⟨q3, q4⟩, by rw [q5, Int32.add_zero]⟩, fun c hc => zI_ne _ _ _ hc⟩
set_option maxHeartbeats 1000000 in
theorem step_M {τ t : ZS} {G : Nat → Nat} (hI : zInv G) {la sz cc : Nat} {r : (Nat × Nat × Nat × Nat)} {B : (Nat × Nat × Nat × (Nat × Nat × Nat × Nat))} (hl : la < 3) (h4 : sz ≤ 4) (hr : ∀ i, i < sz → at4 r i < G 0) (hR : mRel τ t G B) (hB : gB B sz cc) (h : rwM t sz r) (k12 : Int32 → Int32 → Int32 → ZS → Option (Unit × ZS)) (k56 : Int32 → Int32 → Int32 → Int32 → ZS → Option (Unit × ZS)) (x1 : Int32) : ∃ t2, fX7_findBest_56b k12 k56 x1 (nI la) (nI sz) 1 t = zb (fX7_next (nI sz) t2) (fun u1 s1 => k56 x1 (nI la) (nI sz) u1 s1) ∧ mRel τ t2 G (mSt G la sz r B) ∧ rwM t2 sz r := by
  have hm := nM_le hI hl h4 hr
  obtain ⟨c, r1, r2, r3⟩ := hR
  obtain ⟨t1, e1, f1⟩ := apart_M hI c hl h4 hr h
  have c1 : zMs τ t1 G := c.one f1 (by decide)
  have h1 : rwM t1 sz r := fun i hi => by rw [f1 12 (by decide)]; exact h i hi
  unfold fX7_findBest_56b
  rw [if_neg i0, e1, zb_mk, f1 0 (by decide), r1]
  have take : (B.1 = 0 ∨ nM G la sz r < B.2.1) → ∃ t2, fX7_findBest_85 (fX7_findBest_130 k56) x1 (nI la) (nI sz) (nI (nM G la sz r)) t1 = zb (fX7_next (nI sz) t2) (fun u1 s1 => k56 x1 (nI la) (nI sz) u1 s1) ∧ mRel τ t2 G (mSt G la sz r B) ∧ rwM t2 sz r := by
    intro hc
    unfold fX7_findBest_85
    obtain ⟨t2, e2, g1, g2⟩ := copyB (t := zI (zI (zI t1 0 19 (nI sz)) 0 20 (nI (nM G la sz r))) 0 21 0) h4 (r := r) (fun i hi => by rw [zI_ne _ _ _ (by decide), zI_ne _ _ _ (by decide), zI_ne _ _ _ (by decide)]; exact h1 i hi) (fX7_findBest_130 k56) x1 (nI la) (nI (nM G la sz r))
    have hR2 : mRel τ t2 G (sz + 1, nM G la sz r, 0, r) := by
      refine ⟨c1.best (fun k q0 _ _ q13 => by rw [g1 k q13, zI_ne _ _ _ q0, zI_ne _ _ _ q0, zI_ne _ _ _ q0]) (fun k q1 q2 q3 => by rw [g1 0 (by decide), zI_at, upd_ne _ _ q3, zI_at, upd_ne _ _ q2, zI_at, upd_ne _ _ q1]), ?_, fun _ => ⟨?_, fun i hi => g2 i hi⟩, ?_⟩
      · rw [if_neg (Nat.succ_ne_zero _), g1 0 (by decide), zI_at, upd_ne _ _ (by decide), zI_at, upd_ne _ _ (by decide), zI_at, upd_at, Nat.add_sub_cancel]
      · rw [g1 0 (by decide), zI_at, upd_ne _ _ (by decide), zI_at, upd_at]
      · rw [g1 0 (by decide), zI_at, upd_at]; rfl
    rw [e2]
    obtain ⟨t3, e3, m3, f3⟩ := m130 (sz := sz) h4 hm hR2 (Nat.succ_ne_zero _) (Nat.le_refl _) hm k56 x1 (nI la)
    refine ⟨t3, e3, ?_, fun i hi => by rw [f3 12 (by decide), g1 12 (by decide), zI_ne _ _ _ (by decide), zI_ne _ _ _ (by decide), zI_ne _ _ _ (by decide)]; exact h1 i hi⟩
    unfold mSt mS1
    rw [if_pos hc]; exact m3
  by_cases h0 : B.1 = 0
  · rw [if_pos h0, if_pos (show (-1 : Int32) < 0 by decide)]
    exact take (Or.inl h0)
  · rw [if_neg h0, if_neg (show ¬ nI (B.1 - 1) < (0 : Int32) from nI_pos (by have := hB.1; omega)), (r2 h0).1]
    by_cases hc : nM G la sz r < B.2.1
    · rw [if_neg (show ¬ nI B.2.1 ≤ nI (nM G la sz r) from nI_ge hc (by have := hB.2.1; omega))]
      exact take (Or.inr hc)
    · rw [if_pos (show nI B.2.1 ≤ nI (nM G la sz r) from nI_le (by omega) (by omega))]
      have hR1 : mRel τ t1 G B := ⟨c1, by rw [f1 0 (by decide)]; exact r1, fun hh => ⟨by rw [f1 0 (by decide)]; exact (r2 hh).1, fun i hi => by rw [f1 13 (by decide)]; exact (r2 hh).2 i hi⟩, by rw [f1 0 (by decide)]; exact r3⟩
      obtain ⟨t3, e3, m3, f3⟩ := m130 (sz := sz) h4 hm hR1 h0 hB.1 hB.2.1 k56 x1 (nI la)
      refine ⟨t3, e3, ?_, fun i hi => by rw [f3 12 (by decide)]; exact h1 i hi⟩
      unfold mSt mS1
      rw [if_neg (by omega)]; exact m3
theorem mRel.row {τ t t2 : ZS} {G : Nat → Nat} {B : (Nat × Nat × Nat × (Nat × Nat × Nat × Nat))} (h : mRel τ t G B) (f : ∀ c, c ≠ 12 → t2.1 c = t.1 c) : mRel τ t2 G B := ⟨h.1.one f (by decide), by rw [f 0 (by decide)]; exact h.2.1, fun hh => by rw [f 0 (by decide), f 13 (by decide)]; exact h.2.2.1 hh, by rw [f 0 (by decide)]; exact h.2.2.2⟩
set_option maxHeartbeats 1000000 in
theorem run_M {τ t : ZS} {G : Nat → Nat} (hI : zInv G) {la sz cc : Nat} {B : (Nat × Nat × Nat × (Nat × Nat × Nat × Nat))} (hl : la < 3) (h4 : sz ≤ 4) (hz : sz = 0 ∨ 0 < G 0) (hR : mRel τ t G B) (hB : gB B sz cc) (h : rwM t sz (0, 0, 0, 0)) (k12 : Int32 → Int32 → Int32 → ZS → Option (Unit × ZS)) (x1 : Int32) : ∃ t2, fX7_findBest_56 k12 x1 (nI la) (nI sz) 1 t = k12 x1 (nI la) (nI (sz + 1)) t2 ∧ mRel τ t2 G (mRn G la sz 330 (0, 0, 0, 0) B) ∧ gB (mRn G la sz 330 (0, 0, 0, 0) B) sz (cc + 330) := by
  have b0 := hI.1
  have hen := en_ok (G 0) (by omega) sz (by omega) (by omega)
  unfold fX7_findBest_56 fX7_findBest_56n
  refine zloop_rule (fun i st => (∃ (r : (Nat × Nat × Nat × Nat)) (C : (Nat × Nat × Nat × (Nat × Nat × Nat × Nat))) (s1 : ZS), st = (x1, nI la, nI sz, 1, s1) ∧ i ≤ 330 ∧ (∀ j, j < sz → at4 r j < G 0) ∧ en (G 0) sz (330 - i) r = true ∧ mRel τ s1 G C ∧ gB C sz (cc + i) ∧ rwM s1 sz r ∧ mRn G la sz (330 - i) r C = mRn G la sz 330 (0, 0, 0, 0) B) ∨ (∃ s1 : ZS, st = (x1, nI la, nI sz, 0, s1) ∧ i ≤ 331 ∧ mRel τ s1 G (mRn G la sz 330 (0, 0, 0, 0) B) ∧ gB (mRn G la sz 330 (0, 0, 0, 0) B) sz (cc + 330))) 331 (fun o => ∃ t2 : ZS, o = k12 x1 (nI la) (nI (sz + 1)) t2 ∧ mRel τ t2 G (mRn G la sz 330 (0, 0, 0, 0) B) ∧ gB (mRn G la sz 330 (0, 0, 0, 0) B) sz (cc + 330)) (fun i s h => by rcases h with ⟨_, _, _, _, h, _⟩ | ⟨_, _, h, _⟩ <;> omega) ?_ zN 0 _ (Or.inl ⟨(0, 0, 0, 0), B, t, rfl, by omega, st0 hz, hen, hR, hB, h, rfl⟩) (by unfold zN; omega)
  rintro f i st (⟨r, C, s1, rfl, hi, hr, he, hC, hg, hw, hrun⟩ | ⟨s1, rfl, hi, hC, hg⟩)
  · dsimp only
    obtain ⟨n, hn⟩ : ∃ n, 330 - i = n + 1 := by
      rcases (show 330 - i = 0 ∨ 0 < 330 - i by omega) with h0 | h0
      · rw [h0] at he; exact Bool.noConfusion (show false = true from he)
      · exact ⟨330 - i - 1, by omega⟩
    obtain ⟨t2, e2, m2, w2⟩ := step_M hI hl h4 hr hC hg hw k12 (fun x1 x2 x3 x4 s => f (x1, x2, x3, x4, s)) x1
    have g2 := gB_st hI hl h4 hr hg
    rw [e2]
    rw [hn] at he hrun
    have ee : en (G 0) sz (n + 1) r = if pS (G 0) r sz = 0 then true else en (G 0) sz n (nx (G 0) sz r) := rfl
    have er : mRn G la sz (n + 1) r C = if pS (G 0) r sz = 0 then mSt G la sz r C else mRn G la sz n (nx (G 0) sz r) (mSt G la sz r C) := rfl
    rcases next_M (m2.1.2 0 (by decide)) b0 h4 hr w2 with ⟨p0, e3⟩ | ⟨p0, t3, e3, f3, -, w3⟩
    · rw [e3, zb_mk]
      rw [er, if_pos p0] at hrun
      rw [hrun] at m2 g2
      exact Or.inl ⟨_, rfl, Or.inr ⟨t2, rfl, by omega, m2, ⟨g2.1, g2.2.1, by have := g2.2.2.1; omega, g2.2.2.2⟩⟩⟩
    · rw [e3, zb_mk]
      rw [er, if_neg p0] at hrun
      rw [ee, if_neg p0] at he
      exact Or.inl ⟨_, rfl, Or.inl ⟨nx (G 0) sz r, mSt G la sz r C, t3, rfl, by omega, nx_lt h4 hr p0, by rw [show 330 - (i + 1) = n by omega]; exact he, m2.row f3, g2, w3, by rw [show 330 - (i + 1) = n by omega]; exact hrun⟩⟩
  · unfold fX7_findBest_56b
    dsimp only
    rw [if_pos rfl, show nI sz + 1 = nI (sz + 1) from nI_add sz 1]
    exact Or.inr ⟨s1, rfl, hC, hg⟩
theorem zero_M {t : ZS} {sz : Nat} (h4 : sz ≤ 4) (k12 : Int32 → Int32 → Int32 → ZS → Option (Unit × ZS)) (x1 x2 : Int32) : ∃ t2, fX7_findBest_30 k12 x1 x2 (nI sz) t = fX7_findBest_56 k12 x1 x2 (nI sz) 1 t2 ∧ (∀ c, c ≠ 12 → t2.1 c = t.1 c) ∧ rwM t2 sz (0, 0, 0, 0) := by
  unfold fX7_findBest_30 fX7_findBest_33 fX7_findBest_33n
  refine zloop_rule (fun i st => ∃ s1 : ZS, st = (x1, x2, nI sz, nI i, s1) ∧ i ≤ sz ∧ (∀ c, c ≠ 12 → s1.1 c = t.1 c) ∧ ∀ j, j < i → s1.1 12 j = 0) 4 (fun o => ∃ t2 : ZS, o = fX7_findBest_56 k12 x1 x2 (nI sz) 1 t2 ∧ (∀ c, c ≠ 12 → t2.1 c = t.1 c) ∧ rwM t2 sz (0, 0, 0, 0)) (fun i s h => by have := h.choose_spec.2.1; omega) ?_ zN 0 _ ⟨t, rfl, Nat.zero_le _, fun _ _ => rfl, fun j hj => absurd hj (Nat.not_lt_zero j)⟩ (by unfold zN; omega)
  rintro f i st ⟨s1, rfl, hi, c1, c2⟩
  unfold fX7_findBest_33b
  dsimp only
  by_cases e : i = sz
  · subst e
    rw [if_pos (Int32.le_refl _)]
    exact Or.inr ⟨s1, rfl, c1, fun j hj => by rw [at0]; exact c2 j hj⟩
  · rw [if_neg (show ¬ nI sz ≤ nI i from nI_ge (by omega) (by omega)), zin_t (show i < 2147483648 by omega) (show i < 4 by omega), zg_tr, nI_cl (show i < 2147483648 by omega), show nI i + 1 = nI (i + 1) from nI_add i 1]
    refine Or.inl ⟨_, rfl, _, rfl, by omega, fun c hc => by rw [zI_ne _ _ _ hc]; exact c1 c hc, fun j hj => ?_⟩
    rw [zI_at]
    by_cases ej : j = i
    · subst ej; rw [upd_at]
    · rw [upd_ne _ _ ej]; exact c2 j (by omega)
theorem mO_stay {G : Nat → Nat} {la : Nat} (h0 : G 0 = 0) : ∀ j, mO G la (1 + j) = mO G la 1 := by
  intro j
  induction j with
  | zero => rfl
  | succ j ih =>
    show (if 1 + j = 0 ∨ 0 < G 0 then mRn G la (1 + j) 330 (0, 0, 0, 0) (mO G la (1 + j)) else mO G la (1 + j)) = mO G la 1
    rw [if_neg (by omega), ih]
/-- the model's search, up to a size -/
theorem best_M {τ : ZS} {G : Nat → Nat} (hI : zInv G) (hr : zRow (τ.1 1) G) {la mx : Nat} (hl : la < 3) (hm : mx ≤ 4) : ∃ t2, fX7_findBest (nI mx) (nI la) τ = some ((), t2) ∧ mRel τ t2 G (mO G la (mx + 1)) ∧ gB (mO G la (mx + 1)) mx (400 * (mx + 1)) := by
  unfold fX7_findBest fX7_findBest_12 fX7_findBest_12n
  refine zloop_rule (fun k st => ∃ s1 : ZS, st = (nI mx, nI la, nI k, s1) ∧ k ≤ mx + 1 ∧ mRel τ s1 G (mO G la k) ∧ gB (mO G la k) (k - 1) (400 * k)) 5 (fun o => ∃ t2 : ZS, o = some ((), t2) ∧ mRel τ t2 G (mO G la (mx + 1)) ∧ gB (mO G la (mx + 1)) mx (400 * (mx + 1))) (fun i s h => by have := h.choose_spec.2.1; omega) ?_ zN 0 _ ⟨_, rfl, Nat.zero_le _, ⟨(zMs.rf hr).best (fun k h0 _ _ _ => by rw [zI_ne _ _ _ h0, zI_ne _ _ _ h0]) (fun k h1 _ h3 => by rw [zI_at, upd_ne _ _ h3, zI_at, upd_ne _ _ h1]), by rw [zI_at, upd_ne _ _ (by decide), zI_at, upd_at]; rfl, fun h => absurd rfl h, by rw [zI_at, upd_at]; rfl⟩, ⟨Nat.zero_le _, Nat.zero_le _, Nat.zero_le _, fun h => absurd rfl h⟩⟩ (by unfold zN; omega)
  rintro f k st ⟨s1, rfl, hk, hR, hB⟩
  unfold fX7_findBest_12b
  dsimp only
  by_cases e : k = mx + 1
  · subst e
    rw [if_pos (show nI mx < nI (mx + 1) from (nI_lt_iff (by omega) (by omega)).mpr (by omega))]
    exact Or.inr ⟨s1, rfl, hR, by rw [Nat.add_sub_cancel] at hB; exact hB⟩
  · rw [if_neg (show ¬ nI mx < nI k from fun q => absurd ((nI_lt_iff (by omega) (by omega)).mp q) (by omega))]
    have hB2 : gB (mO G la k) k (400 * k) := ⟨by have := hB.1; omega, hB.2⟩
    have go : (k = 0 ∨ 0 < G 0) → ∃ t2, fX7_findBest_30 (fun x1 x2 x3 s => f (x1, x2, x3, s)) (nI mx) (nI la) (nI k) s1 = f (nI mx, nI la, nI (k + 1), t2) ∧ mRel τ t2 G (mO G la (k + 1)) ∧ gB (mO G la (k + 1)) k (400 * (k + 1)) := by
      intro hz
      obtain ⟨t2, e2, f2, w2⟩ := zero_M (t := s1) (show k ≤ 4 by omega) (fun x1 x2 x3 s => f (x1, x2, x3, s)) (nI mx) (nI la)
      obtain ⟨t3, e3, m3, g3⟩ := run_M hI hl (show k ≤ 4 by omega) hz (hR.row f2) hB2 w2 (fun x1 x2 x3 s => f (x1, x2, x3, s)) (nI mx)
      have eo : mO G la (k + 1) = mRn G la k 330 (0, 0, 0, 0) (mO G la k) := if_pos hz
      rw [e2, e3, eo]
      exact ⟨t3, rfl, m3, g3.1, g3.2.1, by have := g3.2.2.1; omega, g3.2.2.2⟩
    by_cases hz : k = 0
    · rw [if_pos (show nI k = 0 by rw [hz]; rfl)]
      obtain ⟨t2, e2, m2, g2⟩ := go (Or.inl hz)
      rw [e2]
      exact Or.inl ⟨_, rfl, t2, rfl, by omega, m2, by rw [Nat.add_sub_cancel]; exact g2⟩
    · rw [if_neg (show ¬ nI k = (0 : Int32) from fun q => hz ((nI_eq_iff (b := 0) (by omega) (by omega)).mp q)), show zin (0 : Int32) 133 = true from rfl, zg_tr, show ((0 : Int32)).toNatClampNeg = 0 from rfl, hR.1.2 0 (by decide)]
      by_cases h0 : G 0 = 0
      · rw [if_pos (show nI (G 0) ≤ (0 : Int32) by rw [h0]; exact Int32.le_refl _)]
        have e1 : mO G la k = mO G la 1 := by
          have := mO_stay (la := la) h0 (k - 1)
          rw [show 1 + (k - 1) = k by omega] at this
          exact this
        have e2 : mO G la (mx + 1) = mO G la 1 := by
          have := mO_stay (la := la) h0 mx
          rw [show 1 + mx = mx + 1 by omega] at this
          exact this
        rw [e2, ← e1]
        exact Or.inr ⟨s1, rfl, hR, by have := hB.1; omega, hB.2.1, by have := hB.2.2.1; omega, hB.2.2.2⟩
      · rw [if_neg (show ¬ nI (G 0) ≤ (0 : Int32) from nI_ge (b := G 0) (a := 0) (by omega) (by have := hI.1; omega))]
        obtain ⟨t2, e2, m2, g2⟩ := go (Or.inr (by omega))
        rw [e2]
        exact Or.inl ⟨_, rfl, t2, rfl, by omega, m2, by rw [Nat.add_sub_cancel]; exact g2⟩
