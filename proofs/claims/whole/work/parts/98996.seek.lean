/-- the class's side -/
theorem begin_C {s : ZS} {G : Nat → Nat} (hS : s.1 1 0 = nI (G 0)) (h8 : G 0 ≤ 8) {sz : Nat} (h4 : sz ≤ 4) : ∃ s2, fX5_begin (nI sz) s = some (if sz = 0 ∨ 0 < G 0 then 1 else 0, s2) ∧ (∀ c, c ≠ 23 → s2.1 c = s.1 c) ∧ rwC s2 sz (0, 0, 0, 0) := by
  have fin : ∀ s1 : ZS, s1.1 1 0 = nI (G 0) → fX5_begin_29 (nI sz) s1 = some (if sz = 0 ∨ 0 < G 0 then 1 else 0, s1) := by
    intro s1 h1
    unfold fX5_begin_29
    by_cases h0 : sz = 0
    · rw [if_pos (show nI sz = 0 by rw [h0]; rfl), if_pos (Or.inl h0)]
    · rw [if_neg (show ¬ nI sz = (0 : Int32) from fun q => h0 ((nI_eq_iff (b := 0) (by omega) (by omega)).mp q)), h1]
      by_cases hg : G 0 = 0
      · rw [if_pos (show nI (G 0) ≤ (0 : Int32) by rw [hg]; exact Int32.le_refl _), if_neg (by omega)]
      · rw [if_neg (show ¬ nI (G 0) ≤ (0 : Int32) from nI_ge (b := G 0) (a := 0) (by omega) (by omega)), if_pos (by omega)]
  unfold fX5_begin fX5_begin_2 fX5_begin_2n
  refine zloop_rule (fun i st => ∃ s1 : ZS, st = (nI sz, nI i, s1) ∧ i ≤ sz ∧ (∀ c, c ≠ 23 → s1.1 c = s.1 c) ∧ ∀ j, j < i → s1.1 23 j = 0) 4 (fun o => ∃ s2 : ZS, o = some (if sz = 0 ∨ 0 < G 0 then 1 else 0, s2) ∧ (∀ c, c ≠ 23 → s2.1 c = s.1 c) ∧ rwC s2 sz (0, 0, 0, 0)) (fun i s h => by have := h.choose_spec.2.1; omega) ?_ zN 0 _ ⟨s, rfl, Nat.zero_le _, fun _ _ => rfl, fun j hj => absurd hj (Nat.not_lt_zero j)⟩ (by unfold zN; omega)
  rintro f i st ⟨s1, rfl, hi, c1, c2⟩
  unfold fX5_begin_2b
  dsimp only
  by_cases e : i = sz
  · rw [if_pos (show nI sz ≤ nI i by rw [e]; exact Int32.le_refl _), fin s1 (by rw [c1 1 (by decide)]; exact hS)]
    exact Or.inr ⟨s1, rfl, c1, fun j hj => by rw [at0]; exact c2 j (by omega)⟩
  · rw [if_neg (show ¬ nI sz ≤ nI i from nI_ge (by omega) (by omega)), if_neg (show ¬ (4 : Int32) ≤ nI i from nI_ge (b := 4) (by omega) (by omega)), zin_t (show i < 2147483648 by omega) (show i < 4 by omega), zg_tr, nI_cl (show i < 2147483648 by omega), show nI i + 1 = nI (i + 1) from nI_add i 1]
    refine Or.inl ⟨_, rfl, _, rfl, by omega, fun c hc => by rw [zI_ne _ _ _ hc]; exact c1 c hc, fun j hj => ?_⟩
    rw [zI_at]
    by_cases ej : j = i
    · subst ej; rw [upd_at]
    · rw [upd_ne _ _ ej]; exact c2 j (by omega)
theorem keep_C {s : ZS} {sz : Nat} {r : (Nat × Nat × Nat × Nat)} (h4 : sz ≤ 4) (h : rwC s sz r) (x : Int32) : ∃ s2, fX5_keep (nI sz) x s = some ((), s2) ∧ (∀ c, c ≠ 22 → c ≠ 24 → s2.1 c = s.1 c) ∧ (∀ k, k ≠ 5 → k ≠ 6 → s2.1 22 k = s.1 22 k) ∧ s2.1 22 5 = nI sz ∧ s2.1 22 6 = x ∧ ∀ i, i < sz → s2.1 24 i = nI (at4 r i) := by
  unfold fX5_keep fX5_keep_2 fX5_keep_2n
  refine zloop_rule (fun i st => ∃ s1 : ZS, st = (nI sz, x, nI i, s1) ∧ i ≤ sz ∧ (∀ c, c ≠ 24 → s1.1 c = s.1 c) ∧ ∀ j, j < i → s1.1 24 j = nI (at4 r j)) 4 (fun o => ∃ s2 : ZS, o = some ((), s2) ∧ (∀ c, c ≠ 22 → c ≠ 24 → s2.1 c = s.1 c) ∧ (∀ k, k ≠ 5 → k ≠ 6 → s2.1 22 k = s.1 22 k) ∧ s2.1 22 5 = nI sz ∧ s2.1 22 6 = x ∧ ∀ i, i < sz → s2.1 24 i = nI (at4 r i)) (fun i s h => by have := h.choose_spec.2.1; omega) ?_ zN 0 _ ⟨s, rfl, Nat.zero_le _, fun _ _ => rfl, fun j hj => absurd hj (Nat.not_lt_zero j)⟩ (by unfold zN; omega)
  rintro f i st ⟨s1, rfl, hi, c1, c2⟩
  unfold fX5_keep_2b fX5_keep_34
  dsimp only
  by_cases e : i = sz
  · rw [if_pos (show nI sz ≤ nI i by rw [e]; exact Int32.le_refl _)]
    refine Or.inr ⟨_, rfl, fun c q1 q2 => by rw [zI_ne _ _ _ q1, zI_ne _ _ _ q1]; exact c1 c q2, fun k q1 q2 => by rw [zI_at, upd_ne _ _ q2, zI_at, upd_ne _ _ q1, c1 22 (by decide)], by rw [zI_at, upd_ne _ _ (by decide), zI_at, upd_at], by rw [zI_at, upd_at], fun j hj => by rw [zI_ne _ _ _ (by decide), zI_ne _ _ _ (by decide)]; exact c2 j (by omega)⟩
  · rw [if_neg (show ¬ nI sz ≤ nI i from nI_ge (by omega) (by omega)), if_neg (show ¬ (4 : Int32) ≤ nI i from nI_ge (b := 4) (by omega) (by omega)), zin_t (show i < 2147483648 by omega) (show i < 4 by omega), zg_tr, zg_tr, nI_cl (show i < 2147483648 by omega), c1 23 (by decide), h i (by omega), show nI i + 1 = nI (i + 1) from nI_add i 1]
    refine Or.inl ⟨_, rfl, _, rfl, by omega, fun c hc => by rw [zI_ne _ _ _ hc]; exact c1 c hc, fun j hj => ?_⟩
    rw [zI_at]
    by_cases ej : j = i
    · subst ej; rw [upd_at]
    · rw [upd_ne _ _ ej]; exact c2 j (by omega)
def fd (B : (Nat × Nat × Nat × (Nat × Nat × Nat × Nat))) : Nat := if B.1 ≠ 0 ∧ B.2.1 = 0 then B.2.2.1 else 0
def fRel (σ s : ZS) (G : Nat → Nat) (B : (Nat × Nat × Nat × (Nat × Nat × Nat × Nat))) : Prop := zCs σ s G ∧ s.1 22 7 = nI (fd B) ∧ (fd B ≠ 0 → s.1 22 5 = nI (B.1 - 1) ∧ ∀ i, i < B.1 - 1 → s.1 24 i = nI (at4 B.2.2.2 i))
def nRel (σ s : ZS) (G : Nat → Nat) (B : (Nat × Nat × Nat × (Nat × Nat × Nat × Nat))) : Prop := zCs σ s G ∧ s.1 22 6 = (if B.1 = 0 then 2147483647 else nI B.2.1) ∧ (B.1 ≠ 0 → s.1 22 5 = nI (B.1 - 1) ∧ ∀ i, i < B.1 - 1 → s.1 24 i = nI (at4 B.2.2.2 i))
/-- while the class searches, what is met is of this size -/
def gF (B : (Nat × Nat × Nat × (Nat × Nat × Nat × Nat))) (sz : Nat) : Prop := B.1 ≠ 0 → B.2.1 = 0 → B.1 = sz + 1
theorem gF_st {G : Nat → Nat} {la sz : Nat} {r : (Nat × Nat × Nat × Nat)} {B : (Nat × Nat × Nat × (Nat × Nat × Nat × Nat))} (h : gF B sz) : gF (mSt G la sz r B) sz := by
  unfold mSt mS1
  by_cases hc : B.1 = 0 ∨ nM G la sz r < B.2.1
  · rw [if_pos hc]
    unfold mS2
    rw [if_pos ⟨rfl, rfl⟩]
    exact fun _ _ => rfl
  · rw [if_neg hc]
    unfold mS2
    split
    · exact h
    · exact h
theorem fd_st {G : Nat → Nat} {la sz c : Nat} {r : (Nat × Nat × Nat × Nat)} {B : (Nat × Nat × Nat × (Nat × Nat × Nat × Nat))} (hg : gB B sz c) (h : gF B sz) : (nM G la sz r = 0 ∧ fd (mSt G la sz r B) = fd B + 1 ∧ (mSt G la sz r B).1 = sz + 1 ∧ (fd B = 0 → (mSt G la sz r B).2.2.2 = r) ∧ (fd B ≠ 0 → B.1 = sz + 1 ∧ (mSt G la sz r B).2.2.2 = B.2.2.2)) ∨ (nM G la sz r ≠ 0 ∧ fd (mSt G la sz r B) = fd B ∧ (fd B ≠ 0 → (mSt G la sz r B).1 = B.1 ∧ (mSt G la sz r B).2.2.2 = B.2.2.2)) := by
  have hh := hg.2.2.2
  by_cases hu : nM G la sz r = 0
  · refine Or.inl ⟨hu, ?_⟩
    by_cases hc : B.1 = 0 ∨ nM G la sz r < B.2.1
    · have e : mSt G la sz r B = (sz + 1, nM G la sz r, 1, r) := by
        unfold mSt mS1
        rw [if_pos hc]
        unfold mS2
        rw [if_pos ⟨rfl, rfl⟩]
      have e2 : fd B = 0 := if_neg (by omega)
      rw [e, e2]
      refine ⟨?_, rfl, fun _ => rfl, fun h => absurd rfl h⟩
      unfold fd
      rw [if_pos ⟨Nat.succ_ne_zero _, hu⟩]
    · have b1 : B.1 ≠ 0 := by omega
      have b2 : B.2.1 = 0 := by omega
      have b3 := h b1 b2
      have e : mSt G la sz r B = (B.1, B.2.1, B.2.2.1 + 1, B.2.2.2) := by
        unfold mSt mS1
        rw [if_neg hc]
        unfold mS2
        rw [if_pos ⟨by omega, by omega⟩]
      have e2 : fd B = B.2.2.1 := if_pos ⟨b1, b2⟩
      have := hh b1 b2
      rw [e, e2]
      refine ⟨?_, b3, fun h => by omega, fun _ => ⟨b3, rfl⟩⟩
      unfold fd
      rw [if_pos ⟨b1, b2⟩]
  · refine Or.inr ⟨hu, ?_⟩
    by_cases hc : B.1 = 0 ∨ nM G la sz r < B.2.1
    · have e : mSt G la sz r B = (sz + 1, nM G la sz r, 1, r) := by
        unfold mSt mS1
        rw [if_pos hc]
        unfold mS2
        rw [if_pos ⟨rfl, rfl⟩]
      have e2 : fd B = 0 := if_neg (by omega)
      rw [e, e2]
      refine ⟨?_, fun h => absurd rfl h⟩
      unfold fd
      rw [if_neg (fun q => hu q.2)]
    · have e1 : mS1 G la sz r B = B := if_neg hc
      by_cases hd : nM G la sz r = B.2.1 ∧ sz + 1 = B.1
      · have e : mSt G la sz r B = (B.1, B.2.1, B.2.2.1 + 1, B.2.2.2) := by
          unfold mSt
          rw [e1]
          exact if_pos hd
        rw [e]
        refine ⟨?_, fun _ => ⟨rfl, rfl⟩⟩
        show (if B.1 ≠ 0 ∧ B.2.1 = 0 then B.2.2.1 + 1 else 0) = (if B.1 ≠ 0 ∧ B.2.1 = 0 then B.2.2.1 else 0)
        have hq := hd.1
        rw [if_neg (show ¬ (B.1 ≠ 0 ∧ B.2.1 = 0) from fun q => hu (by rw [hq]; exact q.2)), if_neg (show ¬ (B.1 ≠ 0 ∧ B.2.1 = 0) from fun q => hu (by rw [hq]; exact q.2))]
      · have e : mSt G la sz r B = B := by
          unfold mSt
          rw [e1]
          exact if_neg hd
        rw [e]
        exact ⟨rfl, fun _ => ⟨rfl, rfl⟩⟩
theorem fd_le {B : (Nat × Nat × Nat × (Nat × Nat × Nat × Nat))} {sz c : Nat} (h : gB B sz c) : fd B ≤ c := by
  unfold fd
  split
  · exact h.2.2.1
  · exact Nat.zero_le _
theorem rwC.fr {s s2 : ZS} {sz : Nat} {r : (Nat × Nat × Nat × Nat)} (h : rwC s sz r) (e : s2.1 23 = s.1 23) : rwC s2 sz r := fun i hi => by rw [e]; exact h i hi
theorem zCs.seek {σ s s2 : ZS} {G : Nat → Nat} (c : zCs σ s G) (a : ∀ k, k ≠ 22 → k ≠ 24 → s2.1 k = s.1 k) : zCs σ s2 G := c.fr (fun k hk => a k (by omega) (by omega)) (a 20 (by decide) (by decide))
set_option maxHeartbeats 1000000 in
theorem step_F {σ s : ZS} {G : Nat → Nat} (hI : zInv G) {la sz cc i : Nat} {r : (Nat × Nat × Nat × Nat)} {B : (Nat × Nat × Nat × (Nat × Nat × Nat × Nat))} (hl : la < 3) (h4 : sz ≤ 4) (hc : cc ≤ 100000) (hi : i < 1000) (hr : ∀ i, i < sz → at4 r i < G 0) (hR : fRel σ s G B) (hB : gB B sz cc) (hF : gF B sz) (h : rwC s sz r) (k14 : Int32 → Int32 → ZS → Option (Unit × ZS)) (k35 : Int32 → Int32 → Int32 → Int32 → ZS → Option (Unit × ZS)) : ∃ s2, fX5_seekFewest_35b k14 k35 (nI la) (nI sz) 1 (nI i) s = zb (fX5_goOn (nI sz) s2) (fun u1 s1 => k35 (nI la) (nI sz) u1 (nI (i + 1)) s1) ∧ fRel σ s2 G (mSt G la sz r B) ∧ rwC s2 sz r := by
  obtain ⟨c, r7, r5⟩ := hR
  obtain ⟨s1, e1, p1, f1⟩ := tried_C hI c h4 hr h
  have c1 := c.fp f1
  have h1 : rwC s1 sz r := h.fr (f1.1 23 (by decide))
  have hfd := fd_le hB
  unfold fX5_seekFewest_35b fX5_seekFewest_83 fX5_seekFewest_73
  rw [if_neg (show ¬ (1000 : Int32) ≤ nI i from nI_ge (b := 1000) (by omega) (by omega)), if_neg i0, e1, zb_mk, wished_C c1.2.1 hI hl h4 hr p1, zb_mk, show nI i + 1 = nI (i + 1) from nI_add i 1, f1.1 22 (by decide), r7]
  rcases fd_st (G := G) (la := la) (r := r) hB hF with ⟨hu, d1, d2, d3, d4⟩ | ⟨hu, d1, d2⟩
  · rw [if_pos hu, if_neg i0]
    by_cases h0 : fd B = 0
    · obtain ⟨s2, e2, g1, g2, g3, g4, g5⟩ := keep_C h4 h1 0
      rw [if_pos (show nI (fd B) = 0 by rw [h0]; rfl), e2, zb_mk]
      refine ⟨zI s2 22 7 (s2.1 22 7 + 1), (by dsimp only; rw [show nI i + 1 = nI (i + 1) from nI_add i 1]), ⟨(c1.seek g1).one (q := 22) (fun k hk => zI_ne _ _ _ hk) (by decide), ?_, fun _ => ⟨?_, fun j hj => ?_⟩⟩, h1.fr (by rw [zI_ne _ _ _ (by decide), g1 23 (by decide) (by decide)])⟩
      · rw [zI_at, upd_at, g2 7 (by decide) (by decide), f1.1 22 (by decide), r7, d1, show (1 : Int32) = nI 1 from rfl, nI_add]
      · rw [zI_at, upd_ne _ _ (by decide), g3, d2, Nat.add_sub_cancel]
      · rw [d2, Nat.add_sub_cancel] at hj
        rw [zI_ne _ _ _ (by decide), g5 j hj, d3 h0]
    · rw [if_neg (show ¬ nI (fd B) = (0 : Int32) from fun q => h0 ((nI_eq_iff (b := 0) (by omega) (by omega)).mp q))]
      obtain ⟨q5, q24⟩ := r5 h0
      obtain ⟨d5, d6⟩ := d4 h0
      refine ⟨zI s1 22 7 (nI (fd B) + 1), (by dsimp only; rw [show nI i + 1 = nI (i + 1) from nI_add i 1]), ⟨c1.one (q := 22) (fun k hk => zI_ne _ _ _ hk) (by decide), ?_, fun _ => ⟨?_, fun j hj => ?_⟩⟩, h1.fr (zI_ne _ _ _ (by decide))⟩
      · rw [zI_at, upd_at, d1, show (1 : Int32) = nI 1 from rfl, nI_add]
      · rw [zI_at, upd_ne _ _ (by decide), f1.1 22 (by decide), q5, d2, d5]
      · rw [zI_ne _ _ _ (by decide), f1.1 24 (by decide), d6]
        exact q24 j (by rw [d2] at hj; rw [d5]; exact hj)
  · rw [if_neg hu, if_pos rfl]
    refine ⟨s1, rfl, ⟨c1, by rw [f1.1 22 (by decide), r7, d1], fun hh => ?_⟩, h1⟩
    rw [d1] at hh
    obtain ⟨q5, q24⟩ := r5 hh
    obtain ⟨d5, d6⟩ := d2 hh
    rw [d5, d6, f1.1 22 (by decide), f1.1 24 (by decide)]
    exact ⟨q5, q24⟩
theorem nm_st (G : Nat → Nat) (la sz : Nat) (r : (Nat × Nat × Nat × Nat)) (B : (Nat × Nat × Nat × (Nat × Nat × Nat × Nat))) : ((B.1 = 0 ∨ nM G la sz r < B.2.1) ∧ (mSt G la sz r B).1 = sz + 1 ∧ (mSt G la sz r B).2.1 = nM G la sz r ∧ (mSt G la sz r B).2.2.2 = r) ∨ (¬ (B.1 = 0 ∨ nM G la sz r < B.2.1) ∧ (mSt G la sz r B).1 = B.1 ∧ (mSt G la sz r B).2.1 = B.2.1 ∧ (mSt G la sz r B).2.2.2 = B.2.2.2) := by
  by_cases hc : B.1 = 0 ∨ nM G la sz r < B.2.1
  · refine Or.inl ⟨hc, ?_⟩
    have e : mSt G la sz r B = (sz + 1, nM G la sz r, 1, r) := by
      unfold mSt mS1
      rw [if_pos hc]
      unfold mS2
      rw [if_pos ⟨rfl, rfl⟩]
    rw [e]; exact ⟨rfl, rfl, rfl⟩
  · refine Or.inr ⟨hc, ?_⟩
    have e1 : mS1 G la sz r B = B := if_neg hc
    unfold mSt
    rw [e1]
    unfold mS2
    split
    · exact ⟨rfl, rfl, rfl⟩
    · exact ⟨rfl, rfl, rfl⟩
set_option maxHeartbeats 1000000 in
theorem step_N {σ s : ZS} {G : Nat → Nat} (hI : zInv G) {la sz cc i : Nat} {r : (Nat × Nat × Nat × Nat)} {B : (Nat × Nat × Nat × (Nat × Nat × Nat × Nat))} (hl : la < 3) (h4 : sz ≤ 4) (hc : cc ≤ 100000) (hi : i < 1000) (hr : ∀ i, i < sz → at4 r i < G 0) (hR : nRel σ s G B) (hB : gB B sz cc) (h : rwC s sz r) (k15 : Int32 → Int32 → ZS → Option (Unit × ZS)) (k29 : Int32 → Int32 → Int32 → Int32 → ZS → Option (Unit × ZS)) : ∃ s2, fX5_seekNearest_29b k15 k29 (nI la) (nI sz) 1 (nI i) s = zb (fX5_goOn (nI sz) s2) (fun u1 s1 => k29 (nI la) (nI sz) u1 (nI (i + 1)) s1) ∧ nRel σ s2 G (mSt G la sz r B) ∧ rwC s2 sz r := by
  obtain ⟨c, r6, r5⟩ := hR
  have hm := nM_le hI hl h4 hr
  obtain ⟨s0, e0, p0, f0⟩ := tried_C hI c h4 hr h
  have c0 := c.fp f0
  obtain ⟨s1, e1, -, f1⟩ := miss_C c0.2.1 hI hl h4 hr p0
  have c1 : zCs σ s1 G := c0.one f1 (by decide)
  have h1 : rwC s1 sz r := h.fr (by rw [f1 23 (by decide), f0.1 23 (by decide)])
  unfold fX5_seekNearest_29b fX5_seekNearest_69
  rw [if_neg (show ¬ (1000 : Int32) ≤ nI i from nI_ge (b := 1000) (by omega) (by omega)), if_neg i0, e0, zb_mk, e1, zb_mk, show nI i + 1 = nI (i + 1) from nI_add i 1, f1 22 (by decide), f0.1 22 (by decide), r6]
  rcases nm_st G la sz r B with ⟨hu, d1, d2, d3⟩ | ⟨hu, d1, d2, d3⟩
  · have hn : ¬ (if B.1 = 0 then (2147483647 : Int32) else nI B.2.1) ≤ nI (nM G la sz r) := by
      by_cases h0 : B.1 = 0
      · rw [if_pos h0]; exact nI_ge (a := nM G la sz r) (b := 2147483647) (by omega) (by omega)
      · rw [if_neg h0]; exact nI_ge (by omega) (by have := hB.2.1; omega)
    obtain ⟨s2, e2, g1, g2, g3, g4, g5⟩ := keep_C h4 h1 (nI (nM G la sz r))
    rw [if_neg hn, e2, zb_mk]
    refine ⟨s2, rfl, ⟨c1.seek g1, by rw [g4, d1, d2, if_neg (Nat.succ_ne_zero _)], fun _ => ⟨by rw [g3, d1, Nat.add_sub_cancel], fun j hj => by rw [d3]; exact g5 j (by rw [d1, Nat.add_sub_cancel] at hj; exact hj)⟩⟩, h1.fr (g1 23 (by decide) (by decide))⟩
  · have h0 : B.1 ≠ 0 := by omega
    rw [if_neg h0, if_pos (show nI B.2.1 ≤ nI (nM G la sz r) from nI_le (by omega) (by omega))]
    refine ⟨s1, rfl, ⟨c1, by rw [f1 22 (by decide), f0.1 22 (by decide), r6, d1, d2], fun hh => ?_⟩, h1⟩
    rw [d1, d3, f1 22 (by decide), f0.1 22 (by decide), f1 24 (by decide), f0.1 24 (by decide)]
    exact r5 h0
set_option maxHeartbeats 1000000 in
theorem run_F {σ s : ZS} {G : Nat → Nat} (hI : zInv G) {la sz cc : Nat} {B : (Nat × Nat × Nat × (Nat × Nat × Nat × Nat))} (hl : la < 3) (h4 : sz ≤ 4) (hcc : cc ≤ 50000) (hz : sz = 0 ∨ 0 < G 0) (hR : fRel σ s G B) (hB : gB B sz cc) (hF : gF B sz) (h : rwC s sz (0, 0, 0, 0)) (k14 : Int32 → Int32 → ZS → Option (Unit × ZS)) : ∃ s2, fX5_seekFewest_35 k14 (nI la) (nI sz) 1 0 s = k14 (nI la) (nI (sz + 1)) s2 ∧ fRel σ s2 G (mRn G la sz 330 (0, 0, 0, 0) B) ∧ gB (mRn G la sz 330 (0, 0, 0, 0) B) sz (cc + 330) := by
  have b0 := hI.1
  have hen := en_ok (G 0) (by omega) sz (by omega) (by omega)
  unfold fX5_seekFewest_35 fX5_seekFewest_35n
  refine zloop_rule (fun i st => (∃ (r : (Nat × Nat × Nat × Nat)) (C : (Nat × Nat × Nat × (Nat × Nat × Nat × Nat))) (s1 : ZS), st = (nI la, nI sz, 1, nI i, s1) ∧ i ≤ 330 ∧ (∀ j, j < sz → at4 r j < G 0) ∧ en (G 0) sz (330 - i) r = true ∧ fRel σ s1 G C ∧ gB C sz (cc + i) ∧ gF C sz ∧ rwC s1 sz r ∧ mRn G la sz (330 - i) r C = mRn G la sz 330 (0, 0, 0, 0) B) ∨ (∃ s1 : ZS, st = (nI la, nI sz, 0, nI i, s1) ∧ i ≤ 331 ∧ fRel σ s1 G (mRn G la sz 330 (0, 0, 0, 0) B) ∧ gB (mRn G la sz 330 (0, 0, 0, 0) B) sz (cc + 330))) 331 (fun o => ∃ s2 : ZS, o = k14 (nI la) (nI (sz + 1)) s2 ∧ fRel σ s2 G (mRn G la sz 330 (0, 0, 0, 0) B) ∧ gB (mRn G la sz 330 (0, 0, 0, 0) B) sz (cc + 330)) (fun i s h => by rcases h with ⟨_, _, _, _, h, _⟩ | ⟨_, _, h, _⟩ <;> omega) ?_ zN 0 _ (Or.inl ⟨(0, 0, 0, 0), B, s, rfl, by omega, st0 hz, hen, hR, hB, hF, h, rfl⟩) (by unfold zN; omega)
  rintro f i st (⟨r, C, s1, rfl, hi, hr, he, hC, hg, hgF, hw, hrun⟩ | ⟨s1, rfl, hi, hC, hg⟩)
  · dsimp only
    obtain ⟨n, hn⟩ : ∃ n, 330 - i = n + 1 := by
      rcases (show 330 - i = 0 ∨ 0 < 330 - i by omega) with h0 | h0
      · rw [h0] at he; exact Bool.noConfusion (show false = true from he)
      · exact ⟨330 - i - 1, by omega⟩
    obtain ⟨t2, e2, m2, w2⟩ := step_F hI hl h4 (show cc + i ≤ 100000 by omega) (show i < 1000 by omega) hr hC hg hgF hw k14 (fun x1 x2 x3 x4 s => f (x1, x2, x3, x4, s))
    have g2 := gB_st hI hl h4 hr hg
    rw [e2]
    rw [hn] at he hrun
    have ee : en (G 0) sz (n + 1) r = if pS (G 0) r sz = 0 then true else en (G 0) sz n (nx (G 0) sz r) := rfl
    have er : mRn G la sz (n + 1) r C = if pS (G 0) r sz = 0 then mSt G la sz r C else mRn G la sz n (nx (G 0) sz r) (mSt G la sz r C) := rfl
    rcases goOn_C m2.1.2.1.1 b0 h4 hr w2 with ⟨p0, e3⟩ | ⟨p0, t3, e3, f3, -, w3⟩
    · rw [e3, zb_mk]
      rw [er, if_pos p0] at hrun
      rw [hrun] at m2 g2
      exact Or.inl ⟨_, rfl, Or.inr ⟨t2, rfl, by omega, m2, ⟨g2.1, g2.2.1, by have := g2.2.2.1; omega, g2.2.2.2⟩⟩⟩
    · rw [e3, zb_mk]
      rw [er, if_neg p0] at hrun
      rw [ee, if_neg p0] at he
      exact Or.inl ⟨_, rfl, Or.inl ⟨nx (G 0) sz r, mSt G la sz r C, t3, rfl, by omega, nx_lt h4 hr p0, by rw [show 330 - (i + 1) = n by omega]; exact he, ⟨m2.1.one f3 (by decide), by rw [f3 22 (by decide)]; exact m2.2.1, fun hh => by rw [f3 22 (by decide), f3 24 (by decide)]; exact m2.2.2 hh⟩, g2, gF_st hgF, w3, by rw [show 330 - (i + 1) = n by omega]; exact hrun⟩⟩
  · unfold fX5_seekFewest_35b fX5_seekFewest_95
    dsimp only
    rw [if_neg (show ¬ (1000 : Int32) ≤ nI i from nI_ge (b := 1000) (by omega) (by omega)), if_pos rfl, show nI sz + 1 = nI (sz + 1) from nI_add sz 1]
    exact Or.inr ⟨s1, rfl, hC, hg⟩
set_option maxHeartbeats 1000000 in
theorem run_N {σ s : ZS} {G : Nat → Nat} (hI : zInv G) {la sz cc : Nat} {B : (Nat × Nat × Nat × (Nat × Nat × Nat × Nat))} (hl : la < 3) (h4 : sz ≤ 4) (hcc : cc ≤ 50000) (hz : sz = 0 ∨ 0 < G 0) (hR : nRel σ s G B) (hB : gB B sz cc) (h : rwC s sz (0, 0, 0, 0)) (k14 : Int32 → Int32 → ZS → Option (Unit × ZS)) : ∃ s2, fX5_seekNearest_29 k14 (nI la) (nI sz) 1 0 s = k14 (nI la) (nI (sz + 1)) s2 ∧ nRel σ s2 G (mRn G la sz 330 (0, 0, 0, 0) B) ∧ gB (mRn G la sz 330 (0, 0, 0, 0) B) sz (cc + 330) := by
  have b0 := hI.1
  have hen := en_ok (G 0) (by omega) sz (by omega) (by omega)
  unfold fX5_seekNearest_29 fX5_seekNearest_29n
  refine zloop_rule (fun i st => (∃ (r : (Nat × Nat × Nat × Nat)) (C : (Nat × Nat × Nat × (Nat × Nat × Nat × Nat))) (s1 : ZS), st = (nI la, nI sz, 1, nI i, s1) ∧ i ≤ 330 ∧ (∀ j, j < sz → at4 r j < G 0) ∧ en (G 0) sz (330 - i) r = true ∧ nRel σ s1 G C ∧ gB C sz (cc + i) ∧ rwC s1 sz r ∧ mRn G la sz (330 - i) r C = mRn G la sz 330 (0, 0, 0, 0) B) ∨ (∃ s1 : ZS, st = (nI la, nI sz, 0, nI i, s1) ∧ i ≤ 331 ∧ nRel σ s1 G (mRn G la sz 330 (0, 0, 0, 0) B) ∧ gB (mRn G la sz 330 (0, 0, 0, 0) B) sz (cc + 330))) 331 (fun o => ∃ s2 : ZS, o = k14 (nI la) (nI (sz + 1)) s2 ∧ nRel σ s2 G (mRn G la sz 330 (0, 0, 0, 0) B) ∧ gB (mRn G la sz 330 (0, 0, 0, 0) B) sz (cc + 330)) (fun i s h => by rcases h with ⟨_, _, _, _, h, _⟩ | ⟨_, _, h, _⟩ <;> omega) ?_ zN 0 _ (Or.inl ⟨(0, 0, 0, 0), B, s, rfl, by omega, st0 hz, hen, hR, hB, h, rfl⟩) (by unfold zN; omega)
  rintro f i st (⟨r, C, s1, rfl, hi, hr, he, hC, hg, hw, hrun⟩ | ⟨s1, rfl, hi, hC, hg⟩)
  · dsimp only
    obtain ⟨n, hn⟩ : ∃ n, 330 - i = n + 1 := by
      rcases (show 330 - i = 0 ∨ 0 < 330 - i by omega) with h0 | h0
      · rw [h0] at he; exact Bool.noConfusion (show false = true from he)
      · exact ⟨330 - i - 1, by omega⟩
    obtain ⟨t2, e2, m2, w2⟩ := step_N hI hl h4 (show cc + i ≤ 100000 by omega) (show i < 1000 by omega) hr hC hg hw k14 (fun x1 x2 x3 x4 s => f (x1, x2, x3, x4, s))
    have g2 := gB_st hI hl h4 hr hg
    rw [e2]
    rw [hn] at he hrun
    have ee : en (G 0) sz (n + 1) r = if pS (G 0) r sz = 0 then true else en (G 0) sz n (nx (G 0) sz r) := rfl
    have er : mRn G la sz (n + 1) r C = if pS (G 0) r sz = 0 then mSt G la sz r C else mRn G la sz n (nx (G 0) sz r) (mSt G la sz r C) := rfl
    rcases goOn_C m2.1.2.1.1 b0 h4 hr w2 with ⟨p0, e3⟩ | ⟨p0, t3, e3, f3, -, w3⟩
    · rw [e3, zb_mk]
      rw [er, if_pos p0] at hrun
      rw [hrun] at m2 g2
      exact Or.inl ⟨_, rfl, Or.inr ⟨t2, rfl, by omega, m2, ⟨g2.1, g2.2.1, by have := g2.2.2.1; omega, g2.2.2.2⟩⟩⟩
    · rw [e3, zb_mk]
      rw [er, if_neg p0] at hrun
      rw [ee, if_neg p0] at he
      exact Or.inl ⟨_, rfl, Or.inl ⟨nx (G 0) sz r, mSt G la sz r C, t3, rfl, by omega, nx_lt h4 hr p0, by rw [show 330 - (i + 1) = n by omega]; exact he, ⟨m2.1.one f3 (by decide), by rw [f3 22 (by decide)]; exact m2.2.1, fun hh => by rw [f3 22 (by decide), f3 24 (by decide)]; exact m2.2.2 hh⟩, g2, w3, by rw [show 330 - (i + 1) = n by omega]; exact hrun⟩⟩
  · unfold fX5_seekNearest_29b fX5_seekNearest_81
    dsimp only
    rw [if_neg (show ¬ (1000 : Int32) ≤ nI i from nI_ge (b := 1000) (by omega) (by omega)), if_pos rfl, show nI sz + 1 = nI (sz + 1) from nI_add sz 1]
    exact Or.inr ⟨s1, rfl, hC, hg⟩
