/-- false pairs, one after another: how many so far, and the first -/
def fpS (G : Nat → Nat) (la i j : Nat) (s : Nat × Int32) : Nat × Int32 := if nFk G i j la = (0 : Int32) then s else (s.1 + 1, if s.1 = 0 then nI 10 * nI i + nI j else s.2)
def fpI (G : Nat → Nat) (la i : Nat) (s : Nat × Int32) : Nat → Nat × Int32
  | 0 => s
  | k + 1 => fpS G la i (i + 1 + k) (fpI G la i s k)
def fpO (G : Nat → Nat) (la : Nat) : Nat → Nat × Int32
  | 0 => (0, -5)
  | i + 1 => fpI G la i (fpO G la i) (G 1 - (i + 1))
theorem fpS_le (G : Nat → Nat) (la i j : Nat) (s : Nat × Int32) : (fpS G la i j s).1 ≤ s.1 + 1 := by
  unfold fpS; split
  · exact Nat.le_succ _
  · exact Nat.le_refl _
theorem fpI_le (G : Nat → Nat) (la i : Nat) (s : Nat × Int32) : ∀ k, (fpI G la i s k).1 ≤ s.1 + k := by
  intro k
  induction k with
  | zero => exact Nat.le_refl _
  | succ k ih => have := fpS_le G la i (i + 1 + k) (fpI G la i s k); show (fpS G la i (i + 1 + k) (fpI G la i s k)).1 ≤ _; omega
theorem fpO_le {G : Nat → Nat} (hI : zInv G) (la : Nat) : ∀ i, (fpO G la i).1 ≤ 6 * i := by
  intro i
  induction i with
  | zero => exact Nat.le_refl _
  | succ i ih => have := fpI_le G la i (fpO G la i) (G 1 - (i + 1)); have := hI.2.1; show (fpI G la i (fpO G la i) (G 1 - (i + 1))).1 ≤ _; omega
theorem fpS_pos {G : Nat → Nat} {la i j : Nat} {s : Nat × Int32} (h : 0 < s.1) : 0 < (fpS G la i j s).1 ∧ (fpS G la i j s).2 = s.2 := by
  unfold fpS
  by_cases hc : nFk G i j la = 0
  · rw [if_pos hc]; exact ⟨h, rfl⟩
  · rw [if_neg hc]; exact ⟨Nat.succ_pos _, if_neg (by omega)⟩
theorem fpI_pos {G : Nat → Nat} {la i : Nat} {s : Nat × Int32} {k : Nat} (h : 0 < (fpI G la i s k).1) : ∀ m, 0 < (fpI G la i s (k + m)).1 ∧ (fpI G la i s (k + m)).2 = (fpI G la i s k).2 := by
  intro m
  induction m with
  | zero => exact ⟨h, rfl⟩
  | succ m ih =>
    have := fpS_pos (G := G) (la := la) (i := i) (j := i + 1 + (k + m)) ih.1
    exact ⟨this.1, this.2.trans ih.2⟩
theorem fpO_pos {G : Nat → Nat} {la k : Nat} (h : 0 < (fpO G la k).1) : ∀ m, 0 < (fpO G la (k + m)).1 ∧ (fpO G la (k + m)).2 = (fpO G la k).2 := by
  intro m
  induction m with
  | zero => exact ⟨h, rfl⟩
  | succ m ih =>
    have := fpI_pos (G := G) (la := la) (i := k + m) (s := fpO G la (k + m)) (k := 0) ih.1 (G 1 - (k + m + 1))
    rw [Nat.zero_add] at this
    exact ⟨this.1, this.2.trans ih.2⟩
theorem fpI_zero {G : Nat → Nat} {la i : Nat} {s : Nat × Int32} : ∀ k, (fpI G la i s k).1 = 0 → s.1 = 0 ∧ (fpI G la i s k).2 = s.2 := by
  intro k
  induction k with
  | zero => exact fun h => ⟨h, rfl⟩
  | succ k ih =>
    intro h
    have e : fpI G la i s (k + 1) = fpS G la i (i + 1 + k) (fpI G la i s k) := rfl
    rw [e] at h ⊢
    unfold fpS at h ⊢
    by_cases hc : nFk G i (i + 1 + k) la = 0
    · rw [if_pos hc] at h ⊢; exact ih h
    · rw [if_neg hc] at h; exact absurd h (Nat.succ_ne_zero _)
theorem fpO_zero {G : Nat → Nat} {la : Nat} : ∀ i, (fpO G la i).1 = 0 → (fpO G la i).2 = -5 := by
  intro i
  induction i with
  | zero => exact fun _ => rfl
  | succ i ih =>
    intro h
    have := fpI_zero (G := G) (la := la) (i := i) (s := fpO G la i) (G 1 - (i + 1)) h
    exact this.2.trans (ih this.1)
theorem fpM_in {τ τ1 : ZS} {G : Nat → Nat} (hI : zInv G) (c : zMs τ τ1 G) {i la : Nat} (hi : i < G 1) (hl : la < 3) (x2 : Int32) (s : Nat × Int32) (hs : s.1 ≤ 100) (k28 : Int32 → Int32 → Int32 → Int32 → Int32 → ZS → Option (Int32 × ZS)) : ∃ τ2, fX7_falsePairs_45 k28 (nI la) x2 (nI s.1) s.2 (nI i) (nI (i + 1)) τ1 = k28 (nI la) x2 (nI (fpI G la i s (G 1 - (i + 1))).1) (fpI G la i s (G 1 - (i + 1))).2 (nI (i + 1)) τ2 ∧ zMs τ τ2 G := by
  have b1 := hI.2.1
  unfold fX7_falsePairs_45 fX7_falsePairs_45n
  refine zloop_rule (fun k st => ∃ s1 : ZS, st = (nI la, x2, nI (fpI G la i s k).1, (fpI G la i s k).2, nI i, nI (i + 1 + k), s1) ∧ i + 1 + k ≤ G 1 ∧ zMs τ s1 G) 6 (fun o => ∃ τ2 : ZS, o = k28 (nI la) x2 (nI (fpI G la i s (G 1 - (i + 1))).1) (fpI G la i s (G 1 - (i + 1))).2 (nI (i + 1)) τ2 ∧ zMs τ τ2 G) (fun i s h => by have := h.choose_spec.2.1; omega) ?_ zN 0 _ ⟨τ1, rfl, by omega, c⟩ (by unfold zN; omega)
  rintro f k st ⟨s1, rfl, hk, cs⟩
  unfold fX7_falsePairs_45b
  dsimp only
  rw [show zin (1 : Int32) 133 = true from rfl, zg_tr, show ((1 : Int32)).toNatClampNeg = 1 from rfl, cs.2 1 (by decide)]
  by_cases e : i + 1 + k = G 1
  · rw [e, if_pos (Int32.le_refl _), show (1 : Int32) = nI 1 from rfl, nI_add]
    refine Or.inr ⟨s1, ?_, cs⟩
    rw [show G 1 - (i + 1) = k by omega]
  · obtain ⟨s2, e4, c4⟩ := false_M hI cs hi (show i + 1 + k < G 1 by omega) hl
    have hb := fpI_le G la i s k
    rw [if_neg (show ¬ nI (G 1) ≤ nI (i + 1 + k) from nI_ge (by omega) (by omega)), e4, zb_mk]
    unfold fX7_falsePairs_88 fX7_falsePairs_93
    refine Or.inl ⟨(nI la, x2, nI (fpI G la i s (k + 1)).1, (fpI G la i s (k + 1)).2, nI i, nI (i + 1 + (k + 1)), s2), ?_, s2, rfl, by omega, c4⟩
    have es : fpI G la i s (k + 1) = fpS G la i (i + 1 + k) (fpI G la i s k) := rfl
    rw [es]
    unfold fpS
    by_cases h0 : nFk G i (i + 1 + k) la = 0
    · rw [if_pos h0, if_pos h0, show (1 : Int32) = nI 1 from rfl, nI_add]; rfl
    · rw [if_neg h0, if_neg h0]
      by_cases h1 : (fpI G la i s k).1 = 0
      · rw [if_pos (show nI (fpI G la i s k).1 = 0 by rw [h1]; rfl), if_pos h1, show (1 : Int32) = nI 1 from rfl, nI_add, nI_add]; rfl
      · rw [if_neg (show ¬ nI (fpI G la i s k).1 = (0 : Int32) from fun e => h1 ((nI_eq_iff (b := 0) (by omega) (by omega)).mp e)), if_neg h1, show (1 : Int32) = nI 1 from rfl, nI_add, nI_add]; rfl
theorem fpC_in0 {σ σ1 : ZS} {G : Nat → Nat} (hI : zInv G) (c : zCs σ σ1 G) {i la : Nat} (hi : i < G 1) (hl : la < 3) (s : Nat × Int32) (k30 : Int32 → Int32 → Int32 → Int32 → ZS → Option (Int32 × ZS)) : ∃ σ2, fX6_falsePairs_48 k30 (nI la) (nI 0) (nI s.1) (nI i) (nI (i + 1)) σ1 = k30 (nI la) (nI 0) (nI (fpI G la i s (G 1 - (i + 1))).1) (nI (i + 1)) σ2 ∧ zCs σ σ2 G := by
  have b1 := hI.2.1
  unfold fX6_falsePairs_48 fX6_falsePairs_48n
  refine zloop_rule (fun k st => ∃ s1 : ZS, st = (nI la, nI 0, nI (fpI G la i s k).1, nI i, nI (i + 1 + k), s1) ∧ i + 1 + k ≤ G 1 ∧ zCs σ s1 G) 6 (fun o => ∃ σ2 : ZS, o = k30 (nI la) (nI 0) (nI (fpI G la i s (G 1 - (i + 1))).1) (nI (i + 1)) σ2 ∧ zCs σ σ2 G) (fun i s h => by have := h.choose_spec.2.1; omega) ?_ zN 0 _ ⟨σ1, rfl, by omega, c⟩ (by unfold zN; omega)
  rintro f k st ⟨s1, rfl, hk, cs⟩
  unfold fX6_falsePairs_48b
  dsimp only
  rw [cs.2.1.2.1]
  by_cases e : i + 1 + k = G 1
  · rw [e, if_pos (Int32.le_refl _), show (1 : Int32) = nI 1 from rfl, nI_add]
    refine Or.inr ⟨s1, ?_, cs⟩
    rw [show G 1 - (i + 1) = k by omega]
  · obtain ⟨s2, e4, c4⟩ := false_C hI cs hi (show i + 1 + k < G 1 by omega) hl
    rw [if_neg (show ¬ nI (G 1) ≤ nI (i + 1 + k) from nI_ge (by omega) (by omega)), e4, zb_mk]
    unfold fX6_falsePairs_89
    refine Or.inl ⟨(nI la, nI 0, nI (fpI G la i s (k + 1)).1, nI i, nI (i + 1 + (k + 1)), s2), ?_, s2, rfl, by omega, c4⟩
    have es : fpI G la i s (k + 1) = fpS G la i (i + 1 + k) (fpI G la i s k) := rfl
    rw [es]
    unfold fpS
    by_cases h0 : nFk G i (i + 1 + k) la = 0
    · rw [if_pos h0, if_pos h0, show (1 : Int32) = nI 1 from rfl, nI_add]; rfl
    · rw [if_neg h0, if_neg h0, if_neg (show ¬ nI 0 = (1 : Int32) by decide), show (1 : Int32) = nI 1 from rfl, nI_add, nI_add]; rfl
theorem fpC_in1 {σ σ1 : ZS} {G : Nat → Nat} (hI : zInv G) (c : zCs σ σ1 G) {i la : Nat} (hi : i < G 1) (hl : la < 3) (s : Nat × Int32) (hs : s.1 = 0) (k30 : Int32 → Int32 → Int32 → Int32 → ZS → Option (Int32 × ZS)) : ∃ σ2, zCs σ σ2 G ∧ ((fX6_falsePairs_48 k30 (nI la) (nI 1) (nI 0) (nI i) (nI (i + 1)) σ1 = k30 (nI la) (nI 1) (nI 0) (nI (i + 1)) σ2 ∧ (fpI G la i s (G 1 - (i + 1))).1 = 0) ∨ (fX6_falsePairs_48 k30 (nI la) (nI 1) (nI 0) (nI i) (nI (i + 1)) σ1 = some ((fpI G la i s (G 1 - (i + 1))).2, σ2) ∧ 0 < (fpI G la i s (G 1 - (i + 1))).1)) := by
  have b1 := hI.2.1
  unfold fX6_falsePairs_48 fX6_falsePairs_48n
  refine zloop_rule (fun k st => ∃ s1 : ZS, st = (nI la, nI 1, nI 0, nI i, nI (i + 1 + k), s1) ∧ i + 1 + k ≤ G 1 ∧ zCs σ s1 G ∧ (fpI G la i s k).1 = 0) 6 (fun o => ∃ σ2 : ZS, zCs σ σ2 G ∧ ((o = k30 (nI la) (nI 1) (nI 0) (nI (i + 1)) σ2 ∧ (fpI G la i s (G 1 - (i + 1))).1 = 0) ∨ (o = some ((fpI G la i s (G 1 - (i + 1))).2, σ2) ∧ 0 < (fpI G la i s (G 1 - (i + 1))).1))) (fun i s h => by have := h.choose_spec.2.1; omega) ?_ zN 0 _ ⟨σ1, rfl, by omega, c, hs⟩ (by unfold zN; omega)
  rintro f k st ⟨s1, rfl, hk, cs, hz⟩
  unfold fX6_falsePairs_48b
  dsimp only
  rw [cs.2.1.2.1]
  by_cases e : i + 1 + k = G 1
  · rw [e, if_pos (Int32.le_refl _), show (1 : Int32) = nI 1 from rfl, nI_add]
    refine Or.inr ⟨s1, cs, Or.inl ⟨rfl, ?_⟩⟩
    rw [show G 1 - (i + 1) = k by omega]
    exact hz
  · obtain ⟨s2, e4, c4⟩ := false_C hI cs hi (show i + 1 + k < G 1 by omega) hl
    rw [if_neg (show ¬ nI (G 1) ≤ nI (i + 1 + k) from nI_ge (by omega) (by omega)), e4, zb_mk]
    unfold fX6_falsePairs_89
    have es : fpI G la i s (k + 1) = fpS G la i (i + 1 + k) (fpI G la i s k) := rfl
    by_cases h0 : nFk G i (i + 1 + k) la = 0
    · refine Or.inl ⟨(nI la, nI 1, nI 0, nI i, nI (i + 1 + (k + 1)), s2), ?_, s2, rfl, by omega, c4, ?_⟩
      · rw [if_pos h0, show (1 : Int32) = nI 1 from rfl, nI_add]; rfl
      · rw [es]; unfold fpS; rw [if_pos h0]; exact hz
    · rw [if_neg h0, if_pos (show nI 1 = (1 : Int32) from rfl)]
      have hp : fpI G la i s (k + 1) = (1, nI 10 * nI i + nI (i + 1 + k)) := by
        rw [es]; unfold fpS; rw [if_neg h0, if_pos hz, hz]
      have hq := fpI_pos (G := G) (la := la) (i := i) (s := s) (k := k + 1) (by rw [hp]; exact Nat.succ_pos 0) (G 1 - (i + 1) - (k + 1))
      rw [show k + 1 + (G 1 - (i + 1) - (k + 1)) = G 1 - (i + 1) by omega, hp] at hq
      exact Or.inr ⟨s2, c4, Or.inr ⟨by rw [hq.2]; rfl, hq.1⟩⟩
theorem fp_M {τ τ1 : ZS} {G : Nat → Nat} (hI : zInv G) (c : zMs τ τ1 G) {la : Nat} (hl : la < 3) (x2 : Int32) : ∃ τ2, fX7_falsePairs_28 (nI la) x2 0 (-5) 0 τ1 = some (if x2 = 0 then nI (fpO G la (G 1)).1 else (fpO G la (G 1)).2, τ2) ∧ zMs τ τ2 G := by
  have b1 := hI.2.1
  unfold fX7_falsePairs_28 fX7_falsePairs_28n
  refine zloop_rule (fun i st => ∃ s1 : ZS, st = (nI la, x2, nI (fpO G la i).1, (fpO G la i).2, nI i, s1) ∧ i ≤ G 1 ∧ zMs τ s1 G) 6 (fun o => ∃ τ2 : ZS, o = some (if x2 = 0 then nI (fpO G la (G 1)).1 else (fpO G la (G 1)).2, τ2) ∧ zMs τ τ2 G) (fun i s h => by have := h.choose_spec.2.1; omega) ?_ zN 0 _ ⟨τ1, rfl, Nat.zero_le _, c⟩ (by unfold zN; omega)
  rintro f i st ⟨s1, rfl, hi, cs⟩
  unfold fX7_falsePairs_28b
  dsimp only
  rw [show zin (1 : Int32) 133 = true from rfl, zg_tr, show ((1 : Int32)).toNatClampNeg = 1 from rfl, cs.2 1 (by decide)]
  by_cases e : i = G 1
  · rw [e, if_pos (Int32.le_refl _)]
    refine Or.inr ⟨s1, ?_, cs⟩
    by_cases h : x2 = 0
    · rw [if_pos h, if_pos h]
    · rw [if_neg h, if_neg h]
  · have hb := fpO_le hI la i
    obtain ⟨s2, e2, c2⟩ := fpM_in hI cs (show i < G 1 by omega) hl x2 (fpO G la i) (by omega) (fun x1 x2 x3 x4 x5 s => f (x1, x2, x3, x4, x5, s))
    rw [if_neg (show ¬ nI (G 1) ≤ nI i from nI_ge (by omega) (by omega)), show nI i + 1 = nI (i + 1) from nI_add i 1, e2]
    exact Or.inl ⟨_, rfl, s2, rfl, by omega, c2⟩
theorem fp_C {σ σ1 : ZS} {G : Nat → Nat} (hI : zInv G) (c : zCs σ σ1 G) {la v : Nat} (hl : la < 3) (hv : v < 2) : ∃ σ2, fX6_falsePairs_30 (nI la) (nI v) 0 0 σ1 = some (if nI v = 0 then nI (fpO G la (G 1)).1 else (fpO G la (G 1)).2, σ2) ∧ zCs σ σ2 G := by
  have b1 := hI.2.1
  unfold fX6_falsePairs_30 fX6_falsePairs_30n
  rcases (show v = 0 ∨ v = 1 by omega) with rfl | rfl
  · rw [if_pos (show nI 0 = 0 from rfl)]
    refine zloop_rule (fun i st => ∃ s1 : ZS, st = (nI la, nI 0, nI (fpO G la i).1, nI i, s1) ∧ i ≤ G 1 ∧ zCs σ s1 G) 6 (fun o => ∃ σ2 : ZS, o = some (nI (fpO G la (G 1)).1, σ2) ∧ zCs σ σ2 G) (fun i s h => by have := h.choose_spec.2.1; omega) ?_ zN 0 _ ⟨σ1, rfl, Nat.zero_le _, c⟩ (by unfold zN; omega)
    rintro f i st ⟨s1, rfl, hi, cs⟩
    unfold fX6_falsePairs_30b
    dsimp only
    rw [cs.2.1.2.1]
    by_cases e : i = G 1
    · rw [e, if_pos (Int32.le_refl _), if_neg (show ¬ nI 0 = (1 : Int32) by decide)]
      exact Or.inr ⟨s1, rfl, cs⟩
    · obtain ⟨s2, e2, c2⟩ := fpC_in0 hI cs (show i < G 1 by omega) hl (fpO G la i) (fun x1 x2 x3 x4 s => f (x1, x2, x3, x4, s))
      rw [if_neg (show ¬ nI (G 1) ≤ nI i from nI_ge (by omega) (by omega)), show nI i + 1 = nI (i + 1) from nI_add i 1, e2]
      exact Or.inl ⟨_, rfl, s2, rfl, by omega, c2⟩
  · rw [if_neg (show ¬ nI 1 = (0 : Int32) by decide)]
    refine zloop_rule (fun i st => ∃ s1 : ZS, st = (nI la, nI 1, nI 0, nI i, s1) ∧ i ≤ G 1 ∧ zCs σ s1 G ∧ (fpO G la i).1 = 0) 6 (fun o => ∃ σ2 : ZS, o = some ((fpO G la (G 1)).2, σ2) ∧ zCs σ σ2 G) (fun i s h => by have := h.choose_spec.2.1; omega) ?_ zN 0 _ ⟨σ1, rfl, Nat.zero_le _, c, rfl⟩ (by unfold zN; omega)
    rintro f i st ⟨s1, rfl, hi, cs, hz⟩
    unfold fX6_falsePairs_30b
    dsimp only
    rw [cs.2.1.2.1]
    by_cases e : i = G 1
    · subst e
      rw [if_pos (Int32.le_refl _), if_pos (show nI 1 = (1 : Int32) from rfl), fpO_zero _ hz]
      exact Or.inr ⟨s1, rfl, cs⟩
    · obtain ⟨s2, c2, h⟩ := fpC_in1 hI cs (show i < G 1 by omega) hl (fpO G la i) hz (fun x1 x2 x3 x4 s => f (x1, x2, x3, x4, s))
      rw [if_neg (show ¬ nI (G 1) ≤ nI i from nI_ge (by omega) (by omega)), show nI i + 1 = nI (i + 1) from nI_add i 1]
      rcases h with ⟨e2, h2⟩ | ⟨e2, h2⟩
      · rw [e2]
        exact Or.inl ⟨_, rfl, s2, rfl, by omega, c2, h2⟩
      · rw [e2]
        have hq := fpO_pos (G := G) (la := la) (k := i + 1) h2 (G 1 - (i + 1))
        rw [show i + 1 + (G 1 - (i + 1)) = G 1 by omega] at hq
        exact Or.inr ⟨s2, by rw [hq.2]; rfl, c2⟩
set_option maxHeartbeats 1000000 in
theorem step15 : zStep15 zR := fun σ τ y1 y2 hR => by
  obtain ⟨⟨G, hg⟩, -⟩ := id hR
  have hS := hg.1
  have hI := hg.2.2
  unfold fX6_falsePairs fX7_falsePairs
  rw [show (3 : Int32) = nI 3 from rfl]
  rcases zin_or y1 3 (by omega) with ⟨la, hla, rfl⟩ | ⟨hz, hx⟩
  · rw [within_t hla (by omega), isLamp_t hla]
    simp only [zb_mk, if_neg i0]
    rw [show (2 : Int32) = nI 2 from rfl, show (1 : Int64) = lN 1 from rfl]
    rcases zin_or y2 2 (by omega) with ⟨v, hv, rfl⟩ | ⟨hz, hx⟩
    · rw [within_t hv (by omega), isInN_t hv (by omega)]
      simp only [zb_mk, if_neg i0]
      obtain ⟨σ1, e1, c1⟩ := look3 hS hI
      obtain ⟨σ2, e2, c2⟩ := fp_C hI c1 hla hv
      obtain ⟨τ1, e3, c3⟩ := fp_M hI (zMs.rf hg.2.1) hla (nI v)
      rw [e1, zb_mk, e2, e3]
      exact zAsk.R ⟨_, _, _, rfl, rfl, c2.1, c3.1⟩ hR
    · rw [within_f hx, isInN_f (by omega) hz]
      exact sameR hR rfl rfl
  · rw [within_f hx, isLamp_f hz]
    exact sameR hR rfl rfl
/-- brightness and ranks -/
def nBp (G : Nat → Nat) (t la : Nat) : Nat → Int64
  | 0 => 0
  | e + 1 => nBp G t la e + nBr G t la e
theorem bright_C {σ σ1 : ZS} {G : Nat → Nat} (hI : zInv G) (c : zCs σ σ1 G) {t la : Nat} (ht : t < G 1) (hl : la < 3) : ∃ σ2, fX6_brightness (nI t) (nI la) σ1 = some (nBp G t la 3, σ2) ∧ zCs σ σ2 G := by
  obtain ⟨σ2, e2, c2, v2, -⟩ := seenInto_39 hI c ht hl
  refine ⟨σ2, ?_, c2⟩
  unfold fX6_brightness
  rw [e2]
  unfold fX6_brightness_25 fX6_brightness_25n
  refine zloop_rule (fun i st => st = (nBp G t la i, nI i, σ2) ∧ i ≤ 3) 3 (fun o => o = some (nBp G t la 3, σ2)) (fun i s h => h.2) ?_ zN 0 _ ⟨rfl, Nat.zero_le _⟩ (by unfold zN; omega)
  rintro f i st ⟨rfl, hi⟩
  unfold fX6_brightness_25b
  dsimp only
  by_cases e : i = 3
  · subst e
    rw [if_pos (show (3 : Int32) ≤ nI 3 from Int32.le_refl _)]
    exact Or.inr rfl
  · rw [if_neg (show ¬ (3 : Int32) ≤ nI i from nI_ge (b := 3) (by omega) (by omega)), zin_t (by omega) (by omega), zg_tr, nI_cl (by omega), v2 i (by omega), show nI i + 1 = nI (i + 1) from nI_add i 1]
    exact Or.inl ⟨_, rfl, rfl, by omega⟩
theorem bright_M {τ τ1 : ZS} {G : Nat → Nat} (hI : zInv G) (c : zMs τ τ1 G) {t la : Nat} (ht : t < G 1) (hl : la < 3) : ∃ τ2, fX7_brightness (nI t) (nI la) τ1 = some (nBp G t la 3, τ2) ∧ zMs τ τ2 G := by
  obtain ⟨τ2, e2, c2, v2⟩ := findSeen_eq hI c ht hl
  refine ⟨τ2, ?_, c2⟩
  unfold fX7_brightness
  rw [e2]
  simp only [zb_mk, show zin (0 : Int32) 3 = true from rfl, show zin (1 : Int32) 3 = true from rfl, show zin (2 : Int32) 3 = true from rfl, zg_tr, show (0 : Int32).toNatClampNeg = 0 from rfl, show (1 : Int32).toNatClampNeg = 1 from rfl, show (2 : Int32).toNatClampNeg = 2 from rfl]
  rw [v2 0 (by decide), v2 1 (by decide), v2 2 (by decide)]
  show some (nBr G t la 0 + nBr G t la 1 + nBr G t la 2, τ2) = some (0 + nBr G t la 0 + nBr G t la 1 + nBr G t la 2, τ2)
  rw [Int64.zero_add]
def nAd (G : Nat → Nat) (la s o : Nat) : Nat := if (0 : Int32) < lg_cmp (nBp G o la 3) (nBp G s la 3) then 1 else (if lg_cmp (nBp G o la 3) (nBp G s la 3) = (0 : Int32) then (if s ≤ o then 0 else 1) else 0)
def sm (f : Nat → Nat) : Nat → Nat
  | 0 => 0
  | k + 1 => sm f k + f k
theorem sm_le {f g : Nat → Nat} : ∀ n, (∀ o, o < n → f o ≤ g o) → sm f n ≤ sm g n := by
  intro n
  induction n with
  | zero => exact fun _ => Nat.le_refl _
  | succ n ih => intro h; exact Nat.add_le_add (ih (fun o ho => h o (by omega))) (h n (by omega))
theorem sm_lt {f g : Nat → Nat} {q : Nat} : ∀ n, (∀ o, o < n → f o ≤ g o) → q < n → f q < g q → sm f n < sm g n := by
  intro n
  induction n with
  | zero => exact fun _ h => absurd h (Nat.not_lt_zero _)
  | succ n ih =>
    intro h hq hl
    by_cases e : q = n
    · subst e; exact Nat.add_lt_add_of_le_of_lt (sm_le q (fun o ho => h o (by omega))) hl
    · exact Nat.add_lt_add_of_lt_of_le (ih (fun o ho => h o (by omega)) (by omega) hl) (h n (by omega))
theorem sm_one : ∀ n, sm (fun _ => 1) n = n := by
  intro n
  induction n with
  | zero => rfl
  | succ n ih => show sm (fun _ => 1) n + 1 = n + 1; rw [ih]
def nBi (G : Nat → Nat) (la t : Nat) : Int := (nBp G t la 3).toInt
theorem nAd_one {G : Nat → Nat} {la s o : Nat} : (nAd G la s o = 1 ∧ (nBi G la s < nBi G la o ∨ (nBi G la o = nBi G la s ∧ o < s))) ∨ (nAd G la s o = 0 ∧ ¬ (nBi G la s < nBi G la o ∨ (nBi G la o = nBi G la s ∧ o < s))) := by
  unfold nAd nBi
  by_cases h1 : (0 : Int32) < lg_cmp (nBp G o la 3) (nBp G s la 3)
  · rw [if_pos h1]
    exact Or.inl ⟨rfl, Or.inl (Int64.lt_iff_toInt_lt.mp ((lcmp_gt _ _).mp h1))⟩
  · rw [if_neg h1]
    have n1 : ¬ (nBp G s la 3).toInt < (nBp G o la 3).toInt := fun h => h1 ((lcmp_gt _ _).mpr (Int64.lt_iff_toInt_lt.mpr h))
    by_cases h2 : lg_cmp (nBp G o la 3) (nBp G s la 3) = 0
    · have e := (lcmp_eq _ _).mp h2
      rw [if_pos h2, e]
      by_cases h3 : s ≤ o
      · rw [if_pos h3]; exact Or.inr ⟨rfl, by omega⟩
      · rw [if_neg h3]; exact Or.inl ⟨rfl, by omega⟩
    · rw [if_neg h2]
      have n2 : ¬ (nBp G o la 3).toInt = (nBp G s la 3).toInt := fun h => h2 ((lcmp_eq _ _).mpr (Int64.toInt_inj.mp h))
      exact Or.inr ⟨rfl, by omega⟩
def nRk (G : Nat → Nat) (la s : Nat) : Nat := sm (nAd G la s) (G 1)
theorem nRk_lt {G : Nat → Nat} {la s : Nat} (hs : s < G 1) : nRk G la s < G 1 := by
  have h := sm_lt (f := nAd G la s) (g := fun _ => 1) (q := s) (G 1) (fun o _ => by
    rcases nAd_one (G := G) (la := la) (s := s) (o := o) with h | h
    · rw [h.1]; exact Nat.le_refl _
    · rw [h.1]; exact Nat.zero_le _) hs (by
    rcases nAd_one (G := G) (la := la) (s := s) (o := s) with h | h
    · have := h.2; omega
    · rw [h.1]; decide)
  rw [sm_one] at h
  exact h
theorem nRk_mono {G : Nat → Nat} {la s s' : Nat} (hs : s' < G 1) (h : nAd G la s s' = 1) : nRk G la s' < nRk G la s := by
  have h0 : nBi G la s < nBi G la s' ∨ (nBi G la s' = nBi G la s ∧ s' < s) := by
    rcases nAd_one (G := G) (la := la) (s := s) (o := s') with q | q
    · exact q.2
    · rw [q.1] at h; exact absurd h (by decide)
  refine sm_lt (q := s') (G 1) (fun o _ => ?_) hs ?_
  · rcases nAd_one (G := G) (la := la) (s := s') (o := o) with q | q
    · rcases nAd_one (G := G) (la := la) (s := s) (o := o) with r | r
      · rw [q.1, r.1]; exact Nat.le_refl _
      · have := q.2; have := r.2; omega
    · rw [q.1]; exact Nat.zero_le _
  · rcases nAd_one (G := G) (la := la) (s := s') (o := s') with q | q
    · have := q.2; omega
    · rw [q.1, h]; decide
theorem nRk_inj {G : Nat → Nat} {la s s' : Nat} (hs : s < G 1) (hs' : s' < G 1) (h : nRk G la s = nRk G la s') : s = s' := by
  rcases Nat.lt_trichotomy s s' with q | q | q
  · rcases nAd_one (G := G) (la := la) (s := s) (o := s') with r | r
    · have := nRk_mono hs' r.1; omega
    · rcases nAd_one (G := G) (la := la) (s := s') (o := s) with r2 | r2
      · have := nRk_mono hs r2.1; omega
      · have := r.2; have := r2.2; omega
  · exact q
  · rcases nAd_one (G := G) (la := la) (s := s) (o := s') with r | r
    · have := nRk_mono hs' r.1; omega
    · rcases nAd_one (G := G) (la := la) (s := s') (o := s) with r2 | r2
      · have := nRk_mono hs r2.1; omega
      · have := r.2; have := r2.2; omega
theorem pigeon : ∀ (n : Nat) (f : Nat → Nat), (∀ i, i < n → f i < n) → (∀ i j, i < n → j < n → f i = f j → i = j) → ∀ p, p < n → ∃ i, i < n ∧ f i = p := by
  intro n
  induction n with
  | zero => exact fun _ _ _ p h => absurd h (Nat.not_lt_zero _)
  | succ n ih =>
    intro f hf hi p hp
    have h1 : ∀ i, i < n → (if f i = n then f n else f i) < n := by
      intro i hin
      have a := hf i (by omega)
      have b := hf n (by omega)
      by_cases e : f i = n
      · rw [if_pos e]
        have : f n ≠ n := fun e2 => by have := hi i n (by omega) (by omega) (by omega); omega
        omega
      · rw [if_neg e]; omega
    have h2 : ∀ i j, i < n → j < n → (if f i = n then f n else f i) = (if f j = n then f n else f j) → i = j := by
      intro i j hi' hj' e
      by_cases ei : f i = n
      · rw [if_pos ei] at e
        by_cases ej : f j = n
        · exact hi i j (by omega) (by omega) (by omega)
        · rw [if_neg ej] at e
          have := hi n j (by omega) (by omega) e; omega
      · rw [if_neg ei] at e
        by_cases ej : f j = n
        · rw [if_pos ej] at e
          have := hi i n (by omega) (by omega) e; omega
        · rw [if_neg ej] at e
          exact hi i j (by omega) (by omega) e
    by_cases hm : p = f n
    · exact ⟨n, by omega, hm.symm⟩
    · by_cases hpn : p = n
      · have : f n < n := by have := hf n (by omega); omega
        obtain ⟨i, hi1, hi2⟩ := ih (fun i => if f i = n then f n else f i) h1 h2 (f n) this
        by_cases ei : f i = n
        · exact ⟨i, by omega, by omega⟩
        · have hi3 : (if f i = n then f n else f i) = f n := hi2
          rw [if_neg ei] at hi3
          have := hi i n (by omega) (by omega) hi3; omega
      · obtain ⟨i, hi1, hi2⟩ := ih (fun i => if f i = n then f n else f i) h1 h2 p (by omega)
        have hi3 : (if f i = n then f n else f i) = p := hi2
        by_cases ei : f i = n
        · rw [if_pos ei] at hi3; omega
        · rw [if_neg ei] at hi3; exact ⟨i, by omega, hi3⟩
theorem rank_C {σ σ1 : ZS} {G : Nat → Nat} (hI : zInv G) (c : zCs σ σ1 G) {s la : Nat} (hs : s < G 1) (hl : la < 3) : ∃ σ2, fX6_brighterThan (nI s) (nI la) σ1 = some (nI (nRk G la s), σ2) ∧ zCs σ σ2 G := by
  have b1 := hI.2.1
  obtain ⟨σ2, e2, c2⟩ := bright_C hI c hs hl
  unfold fX6_brighterThan
  rw [e2, zb_mk]
  unfold fX6_brighterThan_13 fX6_brighterThan_13n
  refine zloop_rule (fun i st => ∃ s1 : ZS, st = (nI s, nI la, nBp G s la 3, nI (sm (nAd G la s) i), nI i, s1) ∧ i ≤ G 1 ∧ zCs σ s1 G) 6 (fun o => ∃ σ2 : ZS, o = some (nI (nRk G la s), σ2) ∧ zCs σ σ2 G) (fun i s h => by have := h.choose_spec.2.1; omega) ?_ zN 0 _ ⟨σ2, rfl, Nat.zero_le _, c2⟩ (by unfold zN; omega)
  rintro f i st ⟨s1, rfl, hi, cs⟩
  unfold fX6_brighterThan_13b
  dsimp only
  rw [cs.2.1.2.1]
  by_cases e : i = G 1
  · subst e
    rw [if_pos (Int32.le_refl _)]
    exact Or.inr ⟨s1, rfl, cs⟩
  · obtain ⟨s2, e4, c4⟩ := bright_C hI cs (show i < G 1 by omega) hl
    rw [if_neg (show ¬ nI (G 1) ≤ nI i from nI_ge (by omega) (by omega)), e4, zb_mk]
    unfold fX6_brighterThan_54 fX6_brighterThan_57
    refine Or.inl ⟨(nI s, nI la, nBp G s la 3, nI (sm (nAd G la s) (i + 1)), nI (i + 1), s2), ?_, s2, rfl, by omega, c4⟩
    rw [show (1 : Int32) = nI 1 from rfl, nI_add, nI_add]
    show _ = f (nI s, nI la, nBp G s la 3, nI (sm (nAd G la s) i + nAd G la s i), nI (i + 1), s2)
    unfold nAd
    by_cases h1 : (0 : Int32) < lg_cmp (nBp G i la 3) (nBp G s la 3)
    · rw [if_pos h1, if_pos h1]
    · rw [if_neg h1, if_neg h1]
      by_cases h2 : lg_cmp (nBp G i la 3) (nBp G s la 3) = 0
      · rw [if_pos h2, if_pos h2]
        by_cases h3 : s ≤ i
        · rw [if_pos (show nI s ≤ nI i from nI_le h3 (by omega)), if_pos h3]; rfl
        · rw [if_neg (show ¬ nI s ≤ nI i from nI_ge (by omega) (by omega)), if_neg h3]
      · rw [if_neg h2, if_neg h2]; rfl
theorem rank_M {τ τ1 : ZS} {G : Nat → Nat} (hI : zInv G) (c : zMs τ τ1 G) {s la pl' : Nat} (hs : s < G 1) (hl : la < 3) (hp : pl' < G 1) (x3 : Int32) (k32 : Int32 → Int32 → Int32 → Int32 → ZS → Option (Int32 × ZS)) : ∃ τ2, fX7_ranked_58 k32 (nI la) (nI pl') x3 (nI s) 0 (nBp G s la 3) 0 τ1 = k32 (nI la) (nI pl') (if nRk G la s = pl' then nI s else x3) (nI (s + 1)) τ2 ∧ zMs τ τ2 G := by
  have b1 := hI.2.1
  unfold fX7_ranked_58 fX7_ranked_58n
  refine zloop_rule (fun i st => ∃ s1 : ZS, st = (nI la, nI pl', x3, nI s, nI (sm (nAd G la s) i), nBp G s la 3, nI i, s1) ∧ i ≤ G 1 ∧ zMs τ s1 G) 6 (fun o => ∃ τ2 : ZS, o = k32 (nI la) (nI pl') (if nRk G la s = pl' then nI s else x3) (nI (s + 1)) τ2 ∧ zMs τ τ2 G) (fun i s h => by have := h.choose_spec.2.1; omega) ?_ zN 0 _ ⟨τ1, rfl, Nat.zero_le _, c⟩ (by unfold zN; omega)
  rintro f i st ⟨s1, rfl, hi, cs⟩
  unfold fX7_ranked_58b
  dsimp only
  rw [show zin (1 : Int32) 133 = true from rfl, zg_tr, show ((1 : Int32)).toNatClampNeg = 1 from rfl, cs.2 1 (by decide)]
  by_cases e : i = G 1
  · subst e
    rw [if_pos (Int32.le_refl _)]
    unfold fX7_ranked_129
    rw [show nI s + 1 = nI (s + 1) from nI_add s 1]
    refine Or.inr ⟨s1, ?_, cs⟩
    have hr := nRk_lt (la := la) hs
    by_cases h : nRk G la s = pl'
    · rw [if_pos h, if_pos (show nI (sm (nAd G la s) (G 1)) = nI pl' from congrArg nI h)]
    · rw [if_neg h, if_neg (show ¬ nI (sm (nAd G la s) (G 1)) = nI pl' from fun e => h ((nI_eq_iff (a := nRk G la s) (by omega) (by omega)).mp e))]
  · obtain ⟨s2, e4, c4⟩ := bright_M hI cs (show i < G 1 by omega) hl
    rw [if_neg (show ¬ nI (G 1) ≤ nI i from nI_ge (by omega) (by omega)), e4, zb_mk]
    unfold fX7_ranked_103 fX7_ranked_107 fX7_ranked_108
    refine Or.inl ⟨(nI la, nI pl', x3, nI s, nI (sm (nAd G la s) (i + 1)), nBp G s la 3, nI (i + 1), s2), ?_, s2, rfl, by omega, c4⟩
    rw [show (1 : Int32) = nI 1 from rfl, nI_add, nI_add]
    show _ = f (nI la, nI pl', x3, nI s, nI (sm (nAd G la s) i + nAd G la s i), nBp G s la 3, nI (i + 1), s2)
    unfold nAd
    by_cases h1 : (0 : Int32) < lg_cmp (nBp G i la 3) (nBp G s la 3)
    · rw [if_pos h1, if_pos h1]
    · rw [if_neg h1, if_neg h1]
      by_cases h2 : lg_cmp (nBp G i la 3) (nBp G s la 3) = 0
      · rw [if_pos h2, if_pos h2]
        by_cases h3 : s ≤ i
        · rw [if_pos (show nI s ≤ nI i from nI_le h3 (by omega)), if_pos h3, show (0 : Int32) = nI 0 from rfl, nI_add]
        · rw [if_neg (show ¬ nI s ≤ nI i from nI_ge (by omega) (by omega)), if_neg h3]
      · rw [if_neg h2, if_neg h2, show (0 : Int32) = nI 0 from rfl, nI_add]
set_option maxHeartbeats 1000000 in
theorem step16 : zStep16 zR := fun σ τ y1 y2 hR => by
  obtain ⟨⟨G, hg⟩, -⟩ := id hR
  have hS := hg.1
  have hI := hg.2.2
  have b1 := hI.2.1
  unfold fX6_ranked fX7_ranked
  rw [show (3 : Int32) = nI 3 from rfl]
  rcases zin_or y1 3 (by omega) with ⟨la, hla, rfl⟩ | ⟨hz, hx⟩
  · rw [within_t hla (by omega), isLamp_t hla]
    simp only [zb_mk, if_neg i0]
    rw [show zin (1 : Int32) 133 = true from rfl, zg_tr, show ((1 : Int32)).toNatClampNeg = 1 from rfl, hg.2.1 1 (by decide), hS.2.1]
    rcases zin_or y2 (G 1) (by omega) with ⟨p, hp, rfl⟩ | ⟨hz, hx⟩
    · rw [within_t hp (by omega), isIn0_t (by omega) hp]
      simp only [zb_mk, if_neg i0]
      obtain ⟨q, hq, eq⟩ := pigeon (G 1) (nRk G la) (fun i hi => nRk_lt hi) (fun i j hi hj e => nRk_inj hi hj e) p hp
      obtain ⟨σ1, e1, c1⟩ := look3 hS hI
      rw [e1, zb_mk]
      have hC : ∃ σ2, fX6_ranked_33 (nI la) (nI p) 0 σ1 = some (nI q, σ2) ∧ zCs σ σ2 G := by
        unfold fX6_ranked_33 fX6_ranked_33n
        refine zloop_rule (fun i st => ∃ s1 : ZS, st = (nI la, nI p, nI i, s1) ∧ i ≤ q ∧ zCs σ s1 G) 6 (fun o => ∃ σ2 : ZS, o = some (nI q, σ2) ∧ zCs σ σ2 G) (fun i s h => by have := h.choose_spec.2.1; omega) ?_ zN 0 _ ⟨σ1, rfl, Nat.zero_le _, c1⟩ (by unfold zN; omega)
        rintro f i st ⟨s1, rfl, hi, cs⟩
        unfold fX6_ranked_33b
        dsimp only
        obtain ⟨s2, e4, c4⟩ := rank_C hI cs (show i < G 1 by omega) hla
        have hr := nRk_lt (G := G) (la := la) (s := i) (by omega)
        rw [cs.2.1.2.1, if_neg (show ¬ nI (G 1) ≤ nI i from nI_ge (by omega) (by omega)), e4, zb_mk]
        by_cases e : i = q
        · subst e
          rw [if_pos (show nI (nRk G la i) = nI p by rw [eq])]
          exact Or.inr ⟨s2, rfl, c4⟩
        · rw [if_neg (show ¬ nI (nRk G la i) = nI p from fun e5 => e (nRk_inj (by omega) hq (by rw [eq]; exact (nI_eq_iff (by omega) (by omega)).mp e5))), show nI i + 1 = nI (i + 1) from nI_add i 1]
          exact Or.inl ⟨_, rfl, s2, rfl, by omega, c4⟩
      have hM : ∃ τ2, fX7_ranked_32 (nI la) (nI p) 0 0 τ = some (nI q, τ2) ∧ zMs τ τ2 G := by
        unfold fX7_ranked_32 fX7_ranked_32n
        refine zloop_rule (fun i st => ∃ s1 : ZS, st = (nI la, nI p, (if i ≤ q then nI 0 else nI q), nI i, s1) ∧ i ≤ G 1 ∧ zMs τ s1 G) 6 (fun o => ∃ σ2 : ZS, o = some (nI q, σ2) ∧ zMs τ σ2 G) (fun i s h => by have := h.choose_spec.2.1; omega) ?_ zN 0 _ ⟨τ, by rw [if_pos (Nat.zero_le _)]; rfl, Nat.zero_le _, zMs.rf hg.2.1⟩ (by unfold zN; omega)
        rintro f i st ⟨s1, rfl, hi, cs⟩
        unfold fX7_ranked_32b
        dsimp only
        rw [show zin (1 : Int32) 133 = true from rfl, zg_tr, show ((1 : Int32)).toNatClampNeg = 1 from rfl, cs.2 1 (by decide)]
        by_cases e : i = G 1
        · subst e
          rw [if_pos (Int32.le_refl _), if_neg (by omega)]
          exact Or.inr ⟨s1, rfl, cs⟩
        · obtain ⟨s2, e4, c4⟩ := bright_M hI cs (show i < G 1 by omega) hla
          obtain ⟨s3, e5, c5⟩ := rank_M hI c4 (show i < G 1 by omega) hla hp (if i ≤ q then nI 0 else nI q) (fun x1 x2 x3 x4 s => f (x1, x2, x3, x4, s))
          rw [if_neg (show ¬ nI (G 1) ≤ nI i from nI_ge (by omega) (by omega)), e4, zb_mk, e5]
          refine Or.inl ⟨(nI la, nI p, (if i + 1 ≤ q then nI 0 else nI q), nI (i + 1), s3), ?_, s3, rfl, by omega, c5⟩
          by_cases e6 : i = q
          · subst e6
            rw [if_pos eq, if_neg (by omega)]
          · rw [if_neg (fun e7 => e6 (nRk_inj (by omega) hq (by rw [eq, e7])))]
            by_cases e8 : i ≤ q
            · rw [if_pos e8, if_pos (by omega)]
            · rw [if_neg e8, if_neg (by omega)]
      obtain ⟨σ2, e2, c2⟩ := hC
      obtain ⟨τ2, e3, c3⟩ := hM
      rw [e2, e3]
      exact zAsk.R ⟨_, _, _, rfl, rfl, c2.1, c3.1⟩ hR
    · rw [within_f hx, isIn0_f (by omega) hz]
      exact sameR hR rfl rfl
  · rw [within_f hx, isLamp_f hz]
    exact sameR hR rfl rfl
