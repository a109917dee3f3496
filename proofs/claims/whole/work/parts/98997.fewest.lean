theorem mRn_pos {G : Nat → Nat} {la sz : Nat} : ∀ (n : Nat) (r : (Nat × Nat × Nat × Nat)) (B : (Nat × Nat × Nat × (Nat × Nat × Nat × Nat))), n ≠ 0 ∨ B.1 ≠ 0 → (mRn G la sz n r B).1 ≠ 0 := by
  intro n
  induction n with
  | zero => intro r B h; exact h.resolve_left (fun q => q rfl)
  | succ n ih =>
    intro r B _
    have hp : (mSt G la sz r B).1 ≠ 0 := by
      rcases nm_st G la sz r B with ⟨-, h, -⟩ | ⟨h0, h, -⟩
      · rw [h]; exact Nat.succ_ne_zero _
      · rw [h]; exact fun q => h0 (Or.inl q)
    show (if pS (G 0) r sz = 0 then mSt G la sz r B else mRn G la sz n (nx (G 0) sz r) (mSt G la sz r B)).1 ≠ 0
    by_cases h : pS (G 0) r sz = 0
    · rw [if_pos h]; exact hp
    · rw [if_neg h]; exact ih _ _ (Or.inr hp)
theorem mO_pos (G : Nat → Nat) (la : Nat) : ∀ k, (mO G la (k + 1)).1 ≠ 0 := by
  intro k
  induction k with
  | zero =>
    show (if 0 = 0 ∨ 0 < G 0 then mRn G la 0 330 (0, 0, 0, 0) (mO G la 0) else mO G la 0).1 ≠ 0
    rw [if_pos (Or.inl rfl)]
    exact mRn_pos 330 _ _ (Or.inl (by decide))
  | succ k ih =>
    show (if k + 1 = 0 ∨ 0 < G 0 then mRn G la (k + 1) 330 (0, 0, 0, 0) (mO G la (k + 1)) else mO G la (k + 1)).1 ≠ 0
    by_cases h : k + 1 = 0 ∨ 0 < G 0
    · rw [if_pos h]; exact mRn_pos 330 _ _ (Or.inl (by decide))
    · rw [if_neg h]; exact ih
set_option maxHeartbeats 1000000 in
theorem seek_F {σ : ZS} {G : Nat → Nat} (hS : zScene σ.1 1 G) (hI : zInv G) {la : Nat} (hl : la < 3) : ∃ s2, fX5_seekFewest (nI la) σ = some ((), s2) ∧ fRel σ s2 G (mO G la 5) := by
  obtain ⟨σ1, e1, c1⟩ := look3 hS hI
  unfold fX5_seekFewest
  rw [e1, zb_mk]
  unfold fX5_seekFewest_14 fX5_seekFewest_14n
  refine zloop_rule (fun k st => ∃ s1 : ZS, st = (nI la, nI k, s1) ∧ k ≤ 5 ∧ fRel σ s1 G (mO G la k) ∧ gB (mO G la k) k (400 * k) ∧ (mO G la k).1 ≤ k) 5 (fun o => ∃ s2 : ZS, o = some ((), s2) ∧ fRel σ s2 G (mO G la 5)) (fun i s h => h.choose_spec.2.1) ?_ zN 0 _ ⟨_, rfl, Nat.zero_le _, ⟨c1.one (q := 22) (fun k hk => zI_ne _ _ _ hk) (by decide), by rw [zI_at, upd_at]; rfl, fun h => absurd rfl h⟩, ⟨Nat.zero_le _, Nat.zero_le _, Nat.zero_le _, fun h => absurd rfl h⟩, Nat.zero_le _⟩ (by unfold zN; omega)
  rintro f k st ⟨s1, rfl, hk, hR, hB, hk1⟩
  unfold fX5_seekFewest_14b
  dsimp only
  by_cases e : k = 5
  · subst e
    rw [if_pos (show (4 : Int32) < nI 5 by decide)]
    exact Or.inr ⟨s1, rfl, hR⟩
  · have hfd := fd_le hB
    rw [if_neg (show ¬ (4 : Int32) < nI k from fun q => absurd ((nI_lt_iff (a := 4) (by omega) (by omega)).mp q) (by omega)), hR.2.1]
    by_cases h0 : fd (mO G la k) = 0
    · have hF : gF (mO G la k) k := fun b1 b2 => by
        have := hB.2.2.2 b1 b2
        have e2 : fd (mO G la k) = (mO G la k).2.2.1 := if_pos ⟨b1, b2⟩
        omega
      obtain ⟨s2, e2, f2, w2⟩ := begin_C hR.1.2.1.1 hI.1 (show k ≤ 4 by omega)
      have hR2 : fRel σ s2 G (mO G la k) := ⟨hR.1.one f2 (by decide), by rw [f2 22 (by decide)]; exact hR.2.1, fun hh => absurd h0 hh⟩
      rw [if_pos (show nI (fd (mO G la k)) = 0 by rw [h0]; rfl), e2, zb_mk]
      by_cases hz : k = 0 ∨ 0 < G 0
      · rw [if_pos hz]
        obtain ⟨s3, e3, m3, g3⟩ := run_F hI hl (show k ≤ 4 by omega) (show 400 * k ≤ 50000 by omega) hz hR2 hB hF w2 (fun x1 x2 s => f (x1, x2, s))
        have eo : mO G la (k + 1) = mRn G la k 330 (0, 0, 0, 0) (mO G la k) := if_pos hz
        rw [e3]
        exact Or.inl ⟨_, rfl, s3, rfl, by omega, by rw [eo]; exact m3, by rw [eo]; exact ⟨by have := g3.1; omega, g3.2.1, by have := g3.2.2.1; omega, g3.2.2.2⟩, by rw [eo]; exact g3.1⟩
      · rw [if_neg hz]
        have eo : mO G la (k + 1) = mO G la k := if_neg hz
        unfold fX5_seekFewest_35 fX5_seekFewest_35n
        rw [zloop_one]
        unfold fX5_seekFewest_35b fX5_seekFewest_95
        dsimp only
        rw [if_neg (show ¬ (1000 : Int32) ≤ 0 by decide), if_pos rfl, show nI k + 1 = nI (k + 1) from nI_add k 1]
        exact Or.inl ⟨_, rfl, s2, rfl, by omega, by rw [eo]; exact hR2, by rw [eo]; exact ⟨by omega, hB.2.1, by have := hB.2.2.1; omega, hB.2.2.2⟩, by rw [eo]; omega⟩
    · rw [if_neg (show ¬ nI (fd (mO G la k)) = (0 : Int32) from fun q => h0 ((nI_eq_iff (b := 0) (by omega) (by omega)).mp q))]
      have hb : (mO G la k).1 ≠ 0 ∧ (mO G la k).2.1 = 0 := Classical.byContradiction (fun q => h0 (if_neg q))
      have := mO_fix hb.1 hb.2 hk1 (5 - k)
      rw [show k + (5 - k) = 5 by omega] at this
      rw [this]
      exact Or.inr ⟨s1, rfl, hR⟩
set_option maxHeartbeats 1000000 in
theorem seek_N {σ : ZS} {G : Nat → Nat} (hS : zScene σ.1 1 G) (hI : zInv G) {la : Nat} (hl : la < 3) : ∃ s2, fX5_seekNearest (nI la) σ = some ((), s2) ∧ nRel σ s2 G (mO G la 4) := by
  obtain ⟨σ1, e1, c1⟩ := look3 hS hI
  unfold fX5_seekNearest
  rw [e1, zb_mk]
  unfold fX5_seekNearest_15 fX5_seekNearest_15n
  refine zloop_rule (fun k st => ∃ s1 : ZS, st = (nI la, nI k, s1) ∧ k ≤ 4 ∧ nRel σ s1 G (mO G la k) ∧ gB (mO G la k) k (400 * k)) 4 (fun o => ∃ s2 : ZS, o = some ((), s2) ∧ nRel σ s2 G (mO G la 4)) (fun i s h => h.choose_spec.2.1) ?_ zN 0 _ ⟨_, rfl, Nat.zero_le _, ⟨c1.one (q := 22) (fun k hk => zI_ne _ _ _ hk) (by decide), by rw [zI_at, upd_at]; rfl, fun h => absurd rfl h⟩, ⟨Nat.zero_le _, Nat.zero_le _, Nat.zero_le _, fun h => absurd rfl h⟩⟩ (by unfold zN; omega)
  rintro f k st ⟨s1, rfl, hk, hR, hB⟩
  unfold fX5_seekNearest_15b
  dsimp only
  by_cases e : k = 4
  · subst e
    rw [if_pos (show (3 : Int32) < nI 4 by decide)]
    exact Or.inr ⟨s1, rfl, hR⟩
  · rw [if_neg (show ¬ (3 : Int32) < nI k from fun q => absurd ((nI_lt_iff (a := 3) (by omega) (by omega)).mp q) (by omega))]
    obtain ⟨s2, e2, f2, w2⟩ := begin_C hR.1.2.1.1 hI.1 (show k ≤ 4 by omega)
    have hR2 : nRel σ s2 G (mO G la k) := ⟨hR.1.one f2 (by decide), by rw [f2 22 (by decide)]; exact hR.2.1, fun hh => by rw [f2 22 (by decide), f2 24 (by decide)]; exact hR.2.2 hh⟩
    rw [e2, zb_mk]
    by_cases hz : k = 0 ∨ 0 < G 0
    · rw [if_pos hz]
      obtain ⟨s3, e3, m3, g3⟩ := run_N hI hl (show k ≤ 4 by omega) (show 400 * k ≤ 50000 by omega) hz hR2 hB w2 (fun x1 x2 s => f (x1, x2, s))
      have eo : mO G la (k + 1) = mRn G la k 330 (0, 0, 0, 0) (mO G la k) := if_pos hz
      rw [e3]
      exact Or.inl ⟨_, rfl, s3, rfl, by omega, by rw [eo]; exact m3, by rw [eo]; exact ⟨by have := g3.1; omega, g3.2.1, by have := g3.2.2.1; omega, g3.2.2.2⟩⟩
    · rw [if_neg hz]
      have eo : mO G la (k + 1) = mO G la k := if_neg hz
      unfold fX5_seekNearest_29 fX5_seekNearest_29n
      rw [zloop_one]
      unfold fX5_seekNearest_29b fX5_seekNearest_81
      dsimp only
      rw [if_neg (show ¬ (1000 : Int32) ≤ 0 by decide), if_pos rfl, show nI k + 1 = nI (k + 1) from nI_add k 1]
      exact Or.inl ⟨_, rfl, s2, rfl, by omega, by rw [eo]; exact hR2, by rw [eo]; exact ⟨by have := hB.1; omega, hB.2.1, by have := hB.2.2.1; omega, hB.2.2.2⟩⟩
theorem off10 {x : Int32} {k : Nat} (hk : k ≤ 4) (h : zin (x - nI 10) k = false) : ¬ (((10 : Nat) : Int) ≤ x.toInt ∧ x.toInt ≤ ((9 + k : Nat) : Int)) := by
  intro q
  have e : (x - nI 10).toInt = x.toInt - 10 := by
    rw [Int32.toInt_sub, nI_toInt (by omega)]
    exact Int.bmod_eq_of_le (by omega) (by omega)
  have hf := zin_false h
  rw [e] at hf
  omega
theorem on10 {x : Int32} {j : Nat} (hj : j < 4) (h : x - nI 10 = nI j) : x = nI (j + 10) := by
  rw [← nI_add, ← h, Int32.sub_add_cancel]
/-- a sheet of the best -/
theorem best_both {s t : ZS} {B : (Nat × Nat × Nat × (Nat × Nat × Nat × Nat))} {j : Nat} (hj : j < 4) (h1 : B.1 ≠ 0) (h5 : B.1 ≤ 6) (a5 : s.1 22 5 = nI (B.1 - 1)) (a24 : ∀ i, i < B.1 - 1 → s.1 24 i = nI (at4 B.2.2.2 i)) (b19 : t.1 0 19 = nI (B.1 - 1)) (b13 : ∀ i, i < B.1 - 1 → t.1 13 i = nI (at4 B.2.2.2 i)) : ∃ r, fX5_bestSheet (nI j) s = some (r, s) ∧ fX7_bestOf (nI j) t = some (r, t) := by
  unfold fX5_bestSheet fX7_bestOf
  rw [a5, b19]
  by_cases e : B.1 - 1 ≤ j
  · rw [if_pos (show nI (B.1 - 1) ≤ nI j from nI_le e (by omega)), if_pos (show nI (B.1 - 1) ≤ nI j from nI_le e (by omega))]
    exact ⟨_, rfl, rfl⟩
  · rw [if_neg (show ¬ nI (B.1 - 1) ≤ nI j from nI_ge (by omega) (by omega)), if_neg (show ¬ nI (B.1 - 1) ≤ nI j from nI_ge (by omega) (by omega)), show (4 : Int32) = nI 4 from rfl, within_t hj (by omega), zb_mk, if_neg i0, zin_t (by omega) hj, zg_tr, zg_tr, nI_cl (by omega), a24 j (by omega), b13 j (by omega)]
    exact ⟨_, rfl, rfl⟩
set_option maxHeartbeats 1000000 in
theorem fewest_both {σ τ : ZS} {G : Nat → Nat} (hR : zR σ τ) (hg : zRg σ τ G) {la : Nat} (hl : la < 3) {y2 : Int32} (hy : y2 = 0 ∨ y2 = 1 ∨ (¬ y2 = 0 ∧ ¬ y2 = 1 ∧ ∃ j, j < 4 ∧ y2 - nI 10 = nI j)) : ∃ (r : Int32) (σ1 τ1 : ZS), fX6_fewest_31 (nI la) y2 σ = some (r, σ1) ∧ fX7_fewest_33 (nI la) y2 τ = some (r, τ1) ∧ zR σ1 τ1 := by
  have hI := hg.2.2
  obtain ⟨s, e1, c, r7, r5⟩ := seek_F hg.1 hI hl
  obtain ⟨t, e2, ⟨d, q19, q20, q21⟩, hB⟩ : ∃ t2, fX7_findBest (nI 4) (nI la) τ = some ((), t2) ∧ mRel τ t2 G (mO G la 5) ∧ gB (mO G la 5) 4 2000 := best_M hI hg.2.1 hl (show 4 ≤ 4 by decide)
  have h1 : (mO G la 5).1 ≠ 0 := mO_pos G la 4
  rw [if_neg h1] at q19
  obtain ⟨q20, q13⟩ := q20 h1
  have hfd := fd_le hB
  unfold fX6_fewest_31 fX7_fewest_33
  rw [e1, zb_mk, show fX7_findBest 4 (nI la) τ = some ((), t) from e2, zb_mk, r7, q20, q19, q21]
  by_cases h0 : (mO G la 5).2.1 = 0
  · have e3 : fd (mO G la 5) = (mO G la 5).2.2.1 := if_pos ⟨h1, h0⟩
    have hp := hB.2.2.2 h1 h0
    have hn : ¬ nI (fd (mO G la 5)) = (0 : Int32) := fun q => absurd ((nI_eq_iff (b := 0) (by omega) (by omega)).mp q) (by omega)
    obtain ⟨r5, r24⟩ := r5 (by omega)
    rw [if_neg hn, if_pos (show nI (mO G la 5).2.1 ≤ (0 : Int32) by rw [show (mO G la 5).2.1 = 0 from h0]; exact Int32.le_refl _), r5, e3]
    by_cases y0 : y2 = 0
    · rw [if_pos y0, if_pos y0]
      exact zAsk.R ⟨_, _, _, rfl, rfl, c.1, d.1⟩ hR
    · by_cases y1 : y2 = 1
      · rw [if_neg y0, if_neg y0, if_pos y1, if_pos y1]
        exact zAsk.R ⟨_, _, _, rfl, rfl, c.1, d.1⟩ hR
      · obtain ⟨-, -, j, hj, ej⟩ := (hy.resolve_left y0).resolve_left y1
        obtain ⟨r, b1, b2⟩ := best_both (B := mO G la 5) hj h1 (by have := hB.1; omega) r5 r24 q19 q13
        rw [if_neg y0, if_neg y0, if_neg y1, if_neg y1, show (10 : Int32) = nI 10 from rfl, ej, b1, b2]
        exact zAsk.R ⟨_, _, _, rfl, rfl, c.1, d.1⟩ hR
  · have e3 : fd (mO G la 5) = 0 := if_neg (fun q => h0 q.2)
    have hn : ¬ nI (mO G la 5).2.1 ≤ (0 : Int32) := nI_ge (b := (mO G la 5).2.1) (a := 0) (by omega) (by have := hB.2.1; omega)
    rw [if_pos (show nI (fd (mO G la 5)) = 0 by rw [e3]; rfl), if_neg hn]
    exact zAsk.R ⟨_, _, _, rfl, rfl, c.1, d.1⟩ hR
set_option maxHeartbeats 1000000 in
theorem nearest_both {σ τ : ZS} {G : Nat → Nat} (hR : zR σ τ) (hg : zRg σ τ G) {la : Nat} (hl : la < 3) {y2 : Int32} (hy : y2 = 0 ∨ y2 = 1 ∨ (¬ y2 = 0 ∧ ¬ y2 = 1 ∧ ∃ j, j < 3 ∧ y2 - nI 10 = nI j)) : ∃ (r : Int32) (σ1 τ1 : ZS), fX6_nearest_31 (nI la) y2 σ = some (r, σ1) ∧ fX7_nearest_33 (nI la) y2 τ = some (r, τ1) ∧ zR σ1 τ1 := by
  have hI := hg.2.2
  obtain ⟨s, e1, c, r6, r5⟩ := seek_N hg.1 hI hl
  obtain ⟨t, e2, ⟨d, q19, q20, q21⟩, hB⟩ : ∃ t2, fX7_findBest (nI 3) (nI la) τ = some ((), t2) ∧ mRel τ t2 G (mO G la 4) ∧ gB (mO G la 4) 3 1600 := best_M hI hg.2.1 hl (show 3 ≤ 4 by decide)
  have h1 : (mO G la 4).1 ≠ 0 := mO_pos G la 3
  rw [if_neg h1] at q19 r6
  obtain ⟨q20, q13⟩ := q20 h1
  obtain ⟨r5, r24⟩ := r5 h1
  unfold fX6_nearest_31 fX7_nearest_33
  rw [e1, zb_mk, show fX7_findBest 3 (nI la) τ = some ((), t) from e2, zb_mk, r5, r6, q20, q19]
  by_cases y0 : y2 = 0
  · rw [if_pos y0, if_pos y0]
    exact zAsk.R ⟨_, _, _, rfl, rfl, c.1, d.1⟩ hR
  · by_cases y1 : y2 = 1
    · rw [if_neg y0, if_neg y0, if_pos y1, if_pos y1]
      exact zAsk.R ⟨_, _, _, rfl, rfl, c.1, d.1⟩ hR
    · obtain ⟨-, -, j, hj, ej⟩ := (hy.resolve_left y0).resolve_left y1
      obtain ⟨r, b1, b2⟩ := best_both (B := mO G la 4) (show j < 4 by omega) h1 (by have := hB.1; omega) r5 r24 q19 q13
      rw [if_neg y0, if_neg y0, if_neg y1, if_neg y1, show (10 : Int32) = nI 10 from rfl, ej, b1, b2]
      exact zAsk.R ⟨_, _, _, rfl, rfl, c.1, d.1⟩ hR
set_option maxHeartbeats 1000000 in
theorem step18 : zStep18 zR := fun σ τ y1 y2 hR => by
  obtain ⟨⟨G, hg⟩, -⟩ := id hR
  have w2 : ∀ (x : Int32) (s : ZS), fX6_within x 2 s = fX6_within x (nI 2) s := fun _ _ => rfl
  have w3 : ∀ (x : Int32) (s : ZS), fX6_within x 3 s = fX6_within x (nI 3) s := fun _ _ => rfl
  have w4 : ∀ (x : Int32) (s : ZS), fX6_within x 4 s = fX6_within x (nI 4) s := fun _ _ => rfl
  have i1 : ∀ (x : Int64) (s : ZS), fX7_isIn x 0 1 s = fX7_isIn x 0 (lN 1) s := fun _ _ => rfl
  have iK : ∀ (x : Int64) (s : ZS), fX7_isIn x 10 13 s = fX7_isIn x (lN 10) (lN 13) s := fun _ _ => rfl
  unfold fX6_fewest fX7_fewest
  rw [show (10 : Int32) = nI 10 from rfl, w4 (y2 - nI 10)]
  rcases zin_or y2 2 (by omega) with ⟨v, hv, rfl⟩ | ⟨hz2, hx2⟩
  · have hu : fX6_within (nI v - nI 10) (nI 4) σ = some (0, σ) := within_f (sub_out (by omega) (by omega) (by omega) (by omega)) σ
    rw [hu, zb_mk, w3]
    rcases zin_or y1 3 (by omega) with ⟨la, hla, rfl⟩ | ⟨hz, hx⟩
    · rw [within_t hla (by omega), isLamp_t hla]
      simp only [zb_mk, if_neg i0]
      rw [w2, i1, within_t hv (by omega), isInN_t hv (by omega)]
      simp only [zb_mk, if_neg i0]
      exact fewest_both hR hg hla (by rcases (show v = 0 ∨ v = 1 by omega) with rfl | rfl; exact Or.inl rfl; exact Or.inr (Or.inl rfl))
    · rw [within_f hx, isLamp_f hz]
      exact sameR hR rfl rfl
  · have hy0 : ¬ y2 = 0 := fun q => by subst q; exact absurd hz2 (by decide)
    have hy1 : ¬ y2 = 1 := fun q => by subst q; exact absurd hz2 (by decide)
    rcases zin_or (y2 - nI 10) 4 (by omega) with ⟨j, hj, ej⟩ | ⟨hzk, hxk⟩
    · have ey := on10 (show j < 4 by omega) ej
      rw [ej, within_t hj (by omega), zb_mk, w3]
      rcases zin_or y1 3 (by omega) with ⟨la, hla, rfl⟩ | ⟨hz, hx⟩
      · rw [within_t hla (by omega), isLamp_t hla]
        simp only [zb_mk, if_neg i0]
        have hin : fX7_isIn y2.toInt64 (lN 10) (lN 13) τ = some (1, τ) := by
          rw [ey]; exact isIn_t (by omega) (by omega) (by omega) τ
        rw [w2, i1, within_f hx2, isInN_f (by omega) hz2, zb_mk, zb_mk, if_pos rfl, if_pos rfl, iK, hin, zb_mk, if_neg i0]
        exact fewest_both hR hg hla (Or.inr (Or.inr ⟨hy0, hy1, j, hj, ej⟩))
      · rw [within_f hx, isLamp_f hz]
        exact sameR hR rfl rfl
    · rw [within_f hxk, zb_mk, w3]
      rcases zin_or y1 3 (by omega) with ⟨la, hla, rfl⟩ | ⟨hz, hx⟩
      · rw [within_t hla (by omega), isLamp_t hla]
        simp only [zb_mk, if_neg i0]
        rw [w2, i1, within_f hx2, isInN_f (by omega) hz2, zb_mk, zb_mk, if_pos rfl, if_pos rfl, iK, show fX7_isIn y2.toInt64 (lN 10) (lN 13) τ = some (0, τ) from isInL_f (by omega) (by omega) (off10 (k := 4) (by decide) hzk) τ, zb_mk, if_pos rfl]
        exact sameR hR (if_pos trivial) rfl
      · rw [within_f hx, isLamp_f hz]
        exact sameR hR rfl rfl
set_option maxHeartbeats 1000000 in
theorem step19 : zStep19 zR := fun σ τ y1 y2 hR => by
  obtain ⟨⟨G, hg⟩, -⟩ := id hR
  have w2 : ∀ (x : Int32) (s : ZS), fX6_within x 2 s = fX6_within x (nI 2) s := fun _ _ => rfl
  have w3 : ∀ (x : Int32) (s : ZS), fX6_within x 3 s = fX6_within x (nI 3) s := fun _ _ => rfl
  have w4 : ∀ (x : Int32) (s : ZS), fX6_within x 4 s = fX6_within x (nI 4) s := fun _ _ => rfl
  have i1 : ∀ (x : Int64) (s : ZS), fX7_isIn x 0 1 s = fX7_isIn x 0 (lN 1) s := fun _ _ => rfl
  have iK : ∀ (x : Int64) (s : ZS), fX7_isIn x 10 12 s = fX7_isIn x (lN 10) (lN 12) s := fun _ _ => rfl
  unfold fX6_nearest fX7_nearest
  rw [show (10 : Int32) = nI 10 from rfl, w3 (y2 - nI 10)]
  rcases zin_or y2 2 (by omega) with ⟨v, hv, rfl⟩ | ⟨hz2, hx2⟩
  · have hu : fX6_within (nI v - nI 10) (nI 3) σ = some (0, σ) := within_f (sub_out (by omega) (by omega) (by omega) (by omega)) σ
    rw [hu, zb_mk, w3]
    rcases zin_or y1 3 (by omega) with ⟨la, hla, rfl⟩ | ⟨hz, hx⟩
    · rw [within_t hla (by omega), isLamp_t hla]
      simp only [zb_mk, if_neg i0]
      rw [w2, i1, within_t hv (by omega), isInN_t hv (by omega)]
      simp only [zb_mk, if_neg i0]
      exact nearest_both hR hg hla (by rcases (show v = 0 ∨ v = 1 by omega) with rfl | rfl; exact Or.inl rfl; exact Or.inr (Or.inl rfl))
    · rw [within_f hx, isLamp_f hz]
      exact sameR hR rfl rfl
  · have hy0 : ¬ y2 = 0 := fun q => by subst q; exact absurd hz2 (by decide)
    have hy1 : ¬ y2 = 1 := fun q => by subst q; exact absurd hz2 (by decide)
    rcases zin_or (y2 - nI 10) 3 (by omega) with ⟨j, hj, ej⟩ | ⟨hzk, hxk⟩
    · have ey := on10 (show j < 4 by omega) ej
      rw [ej, within_t hj (by omega), zb_mk, w3]
      rcases zin_or y1 3 (by omega) with ⟨la, hla, rfl⟩ | ⟨hz, hx⟩
      · rw [within_t hla (by omega), isLamp_t hla]
        simp only [zb_mk, if_neg i0]
        have hin : fX7_isIn y2.toInt64 (lN 10) (lN 12) τ = some (1, τ) := by
          rw [ey]; exact isIn_t (by omega) (by omega) (by omega) τ
        rw [w2, i1, within_f hx2, isInN_f (by omega) hz2, zb_mk, zb_mk, if_pos rfl, if_pos rfl, iK, hin, zb_mk, if_neg i0]
        exact nearest_both hR hg hla (Or.inr (Or.inr ⟨hy0, hy1, j, hj, ej⟩))
      · rw [within_f hx, isLamp_f hz]
        exact sameR hR rfl rfl
    · rw [within_f hxk, zb_mk, w3]
      rcases zin_or y1 3 (by omega) with ⟨la, hla, rfl⟩ | ⟨hz, hx⟩
      · rw [within_t hla (by omega), isLamp_t hla]
        simp only [zb_mk, if_neg i0]
        rw [w2, i1, within_f hx2, isInN_f (by omega) hz2, zb_mk, zb_mk, if_pos rfl, if_pos rfl, iK, show fX7_isIn y2.toInt64 (lN 10) (lN 12) τ = some (0, τ) from isInL_f (by omega) (by omega) (off10 (k := 3) (by decide) hzk) τ, zb_mk, if_pos rfl]
        exact sameR hR (if_pos trivial) rfl
      · rw [within_f hx, isLamp_f hz]
        exact sameR hR rfl rfl
