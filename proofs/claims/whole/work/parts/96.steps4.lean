theorem cp_2_11 (σ : ZS) : ∃ τ : ZS, fX3_copyRow_2_11 σ = some ((), τ) ∧ (∀ c, c ≠ 11 → τ.1 c = σ.1 c) ∧ τ.2 = σ.2 ∧ ∀ k, k < 8 → τ.1 11 k = σ.1 2 k := by
  unfold fX3_copyRow_2_11 fX3_copyRow_2_11_2 fX3_copyRow_2_11_2n
  refine zloop_rule (fun i s => ∃ s1 : ZS, s = (nI i, s1) ∧ i ≤ 8 ∧ (∀ c, c ≠ 11 → s1.1 c = σ.1 c) ∧ s1.2 = σ.2 ∧ ∀ k, k < i → s1.1 11 k = σ.1 2 k) 8 (fun o => ∃ τ : ZS, o = some ((), τ) ∧ (∀ c, c ≠ 11 → τ.1 c = σ.1 c) ∧ τ.2 = σ.2 ∧ ∀ k, k < 8 → τ.1 11 k = σ.1 2 k) (fun i s h => h.choose_spec.2.1) ?_ zN 0 _ ⟨σ, rfl, Nat.zero_le _, fun _ _ => rfl, rfl, fun k h => absurd h (Nat.not_lt_zero k)⟩ (by unfold zN; omega)
  rintro f i s ⟨s1, rfl, h1, h2, h3, h4⟩
  unfold fX3_copyRow_2_11_2b
  dsimp only
  by_cases hi : i = 8
  · subst hi
    rw [if_pos (show (8 : Int32) ≤ nI 8 from Int32.le_refl _)]
    exact Or.inr ⟨s1, rfl, h2, h3, h4⟩
  · refine Or.inl ?_
    rw [if_neg (show ¬ (8 : Int32) ≤ nI i from nI_ge (b := 8) (by omega) (by omega)), if_neg (show ¬ (8 : Int32) ≤ nI i from nI_ge (b := 8) (by omega) (by omega)), zin_t (by omega) (by omega), zg_tr, zg_tr, nI_cl (by omega)]
    refine ⟨_, rfl, zI s1 11 i (s1.1 2 i), by rw [show (1 : Int32) = nI 1 from rfl, nI_add], by omega, fun c hc => by rw [zI_ne _ _ _ hc]; exact h2 c hc, h3, fun k hk => ?_⟩
    rw [zI_at]
    by_cases e : k = i
    · subst e; rw [upd_at, h2 2 (by decide)]
    · rw [upd_ne _ _ e]; exact h4 k (by omega)
theorem cp_3_12 (σ : ZS) : ∃ τ : ZS, fX3_copyRow_3_12 σ = some ((), τ) ∧ (∀ c, c ≠ 12 → τ.1 c = σ.1 c) ∧ τ.2 = σ.2 ∧ ∀ k, k < 8 → τ.1 12 k = σ.1 3 k := by
  unfold fX3_copyRow_3_12 fX3_copyRow_3_12_2 fX3_copyRow_3_12_2n
  refine zloop_rule (fun i s => ∃ s1 : ZS, s = (nI i, s1) ∧ i ≤ 8 ∧ (∀ c, c ≠ 12 → s1.1 c = σ.1 c) ∧ s1.2 = σ.2 ∧ ∀ k, k < i → s1.1 12 k = σ.1 3 k) 8 (fun o => ∃ τ : ZS, o = some ((), τ) ∧ (∀ c, c ≠ 12 → τ.1 c = σ.1 c) ∧ τ.2 = σ.2 ∧ ∀ k, k < 8 → τ.1 12 k = σ.1 3 k) (fun i s h => h.choose_spec.2.1) ?_ zN 0 _ ⟨σ, rfl, Nat.zero_le _, fun _ _ => rfl, rfl, fun k h => absurd h (Nat.not_lt_zero k)⟩ (by unfold zN; omega)
  rintro f i s ⟨s1, rfl, h1, h2, h3, h4⟩
  unfold fX3_copyRow_3_12_2b
  dsimp only
  by_cases hi : i = 8
  · subst hi
    rw [if_pos (show (8 : Int32) ≤ nI 8 from Int32.le_refl _)]
    exact Or.inr ⟨s1, rfl, h2, h3, h4⟩
  · refine Or.inl ?_
    rw [if_neg (show ¬ (8 : Int32) ≤ nI i from nI_ge (b := 8) (by omega) (by omega)), if_neg (show ¬ (8 : Int32) ≤ nI i from nI_ge (b := 8) (by omega) (by omega)), zin_t (by omega) (by omega), zg_tr, zg_tr, nI_cl (by omega)]
    refine ⟨_, rfl, zI s1 12 i (s1.1 3 i), by rw [show (1 : Int32) = nI 1 from rfl, nI_add], by omega, fun c hc => by rw [zI_ne _ _ _ hc]; exact h2 c hc, h3, fun k hk => ?_⟩
    rw [zI_at]
    by_cases e : k = i
    · subst e; rw [upd_at, h2 3 (by decide)]
    · rw [upd_ne _ _ e]; exact h4 k (by omega)
theorem cp_4_13 (σ : ZS) : ∃ τ : ZS, fX3_copyRow_4_13 σ = some ((), τ) ∧ (∀ c, c ≠ 13 → τ.1 c = σ.1 c) ∧ τ.2 = σ.2 ∧ ∀ k, k < 40 → τ.1 13 k = σ.1 4 k := by
  unfold fX3_copyRow_4_13 fX3_copyRow_4_13_2 fX3_copyRow_4_13_2n
  refine zloop_rule (fun i s => ∃ s1 : ZS, s = (nI i, s1) ∧ i ≤ 40 ∧ (∀ c, c ≠ 13 → s1.1 c = σ.1 c) ∧ s1.2 = σ.2 ∧ ∀ k, k < i → s1.1 13 k = σ.1 4 k) 40 (fun o => ∃ τ : ZS, o = some ((), τ) ∧ (∀ c, c ≠ 13 → τ.1 c = σ.1 c) ∧ τ.2 = σ.2 ∧ ∀ k, k < 40 → τ.1 13 k = σ.1 4 k) (fun i s h => h.choose_spec.2.1) ?_ zN 0 _ ⟨σ, rfl, Nat.zero_le _, fun _ _ => rfl, rfl, fun k h => absurd h (Nat.not_lt_zero k)⟩ (by unfold zN; omega)
  rintro f i s ⟨s1, rfl, h1, h2, h3, h4⟩
  unfold fX3_copyRow_4_13_2b
  dsimp only
  by_cases hi : i = 40
  · subst hi
    rw [if_pos (show (40 : Int32) ≤ nI 40 from Int32.le_refl _)]
    exact Or.inr ⟨s1, rfl, h2, h3, h4⟩
  · refine Or.inl ?_
    rw [if_neg (show ¬ (40 : Int32) ≤ nI i from nI_ge (b := 40) (by omega) (by omega)), if_neg (show ¬ (40 : Int32) ≤ nI i from nI_ge (b := 40) (by omega) (by omega)), zin_t (by omega) (by omega), zg_tr, zg_tr, nI_cl (by omega)]
    refine ⟨_, rfl, zI s1 13 i (s1.1 4 i), by rw [show (1 : Int32) = nI 1 from rfl, nI_add], by omega, fun c hc => by rw [zI_ne _ _ _ hc]; exact h2 c hc, h3, fun k hk => ?_⟩
    rw [zI_at]
    by_cases e : k = i
    · subst e; rw [upd_at, h2 4 (by decide)]
    · rw [upd_ne _ _ e]; exact h4 k (by omega)
theorem cp_5_14 (σ : ZS) : ∃ τ : ZS, fX3_copyRow_5_14 σ = some ((), τ) ∧ (∀ c, c ≠ 14 → τ.1 c = σ.1 c) ∧ τ.2 = σ.2 ∧ ∀ k, k < 6 → τ.1 14 k = σ.1 5 k := by
  unfold fX3_copyRow_5_14 fX3_copyRow_5_14_2 fX3_copyRow_5_14_2n
  refine zloop_rule (fun i s => ∃ s1 : ZS, s = (nI i, s1) ∧ i ≤ 6 ∧ (∀ c, c ≠ 14 → s1.1 c = σ.1 c) ∧ s1.2 = σ.2 ∧ ∀ k, k < i → s1.1 14 k = σ.1 5 k) 6 (fun o => ∃ τ : ZS, o = some ((), τ) ∧ (∀ c, c ≠ 14 → τ.1 c = σ.1 c) ∧ τ.2 = σ.2 ∧ ∀ k, k < 6 → τ.1 14 k = σ.1 5 k) (fun i s h => h.choose_spec.2.1) ?_ zN 0 _ ⟨σ, rfl, Nat.zero_le _, fun _ _ => rfl, rfl, fun k h => absurd h (Nat.not_lt_zero k)⟩ (by unfold zN; omega)
  rintro f i s ⟨s1, rfl, h1, h2, h3, h4⟩
  unfold fX3_copyRow_5_14_2b
  dsimp only
  by_cases hi : i = 6
  · subst hi
    rw [if_pos (show (6 : Int32) ≤ nI 6 from Int32.le_refl _)]
    exact Or.inr ⟨s1, rfl, h2, h3, h4⟩
  · refine Or.inl ?_
    rw [if_neg (show ¬ (6 : Int32) ≤ nI i from nI_ge (b := 6) (by omega) (by omega)), if_neg (show ¬ (6 : Int32) ≤ nI i from nI_ge (b := 6) (by omega) (by omega)), zin_t (by omega) (by omega), zg_tr, zg_tr, nI_cl (by omega)]
    refine ⟨_, rfl, zI s1 14 i (s1.1 5 i), by rw [show (1 : Int32) = nI 1 from rfl, nI_add], by omega, fun c hc => by rw [zI_ne _ _ _ hc]; exact h2 c hc, h3, fun k hk => ?_⟩
    rw [zI_at]
    by_cases e : k = i
    · subst e; rw [upd_at, h2 5 (by decide)]
    · rw [upd_ne _ _ e]; exact h4 k (by omega)
theorem cp_6_15 (σ : ZS) : ∃ τ : ZS, fX3_copyRow_6_15 σ = some ((), τ) ∧ (∀ c, c ≠ 15 → τ.1 c = σ.1 c) ∧ τ.2 = σ.2 ∧ ∀ k, k < 36 → τ.1 15 k = σ.1 6 k := by
  unfold fX3_copyRow_6_15 fX3_copyRow_6_15_2 fX3_copyRow_6_15_2n
  refine zloop_rule (fun i s => ∃ s1 : ZS, s = (nI i, s1) ∧ i ≤ 36 ∧ (∀ c, c ≠ 15 → s1.1 c = σ.1 c) ∧ s1.2 = σ.2 ∧ ∀ k, k < i → s1.1 15 k = σ.1 6 k) 36 (fun o => ∃ τ : ZS, o = some ((), τ) ∧ (∀ c, c ≠ 15 → τ.1 c = σ.1 c) ∧ τ.2 = σ.2 ∧ ∀ k, k < 36 → τ.1 15 k = σ.1 6 k) (fun i s h => h.choose_spec.2.1) ?_ zN 0 _ ⟨σ, rfl, Nat.zero_le _, fun _ _ => rfl, rfl, fun k h => absurd h (Nat.not_lt_zero k)⟩ (by unfold zN; omega)
  rintro f i s ⟨s1, rfl, h1, h2, h3, h4⟩
  unfold fX3_copyRow_6_15_2b
  dsimp only
  by_cases hi : i = 36
  · subst hi
    rw [if_pos (show (36 : Int32) ≤ nI 36 from Int32.le_refl _)]
    exact Or.inr ⟨s1, rfl, h2, h3, h4⟩
  · refine Or.inl ?_
    rw [if_neg (show ¬ (36 : Int32) ≤ nI i from nI_ge (b := 36) (by omega) (by omega)), if_neg (show ¬ (36 : Int32) ≤ nI i from nI_ge (b := 36) (by omega) (by omega)), zin_t (by omega) (by omega), zg_tr, zg_tr, nI_cl (by omega)]
    refine ⟨_, rfl, zI s1 15 i (s1.1 6 i), by rw [show (1 : Int32) = nI 1 from rfl, nI_add], by omega, fun c hc => by rw [zI_ne _ _ _ hc]; exact h2 c hc, h3, fun k hk => ?_⟩
    rw [zI_at]
    by_cases e : k = i
    · subst e; rw [upd_at, h2 6 (by decide)]
    · rw [upd_ne _ _ e]; exact h4 k (by omega)
theorem cp_7_16 (σ : ZS) : ∃ τ : ZS, fX3_copyRow_7_16 σ = some ((), τ) ∧ (∀ c, c ≠ 16 → τ.1 c = σ.1 c) ∧ τ.2 = σ.2 ∧ ∀ k, k < 15 → τ.1 16 k = σ.1 7 k := by
  unfold fX3_copyRow_7_16 fX3_copyRow_7_16_2 fX3_copyRow_7_16_2n
  refine zloop_rule (fun i s => ∃ s1 : ZS, s = (nI i, s1) ∧ i ≤ 15 ∧ (∀ c, c ≠ 16 → s1.1 c = σ.1 c) ∧ s1.2 = σ.2 ∧ ∀ k, k < i → s1.1 16 k = σ.1 7 k) 15 (fun o => ∃ τ : ZS, o = some ((), τ) ∧ (∀ c, c ≠ 16 → τ.1 c = σ.1 c) ∧ τ.2 = σ.2 ∧ ∀ k, k < 15 → τ.1 16 k = σ.1 7 k) (fun i s h => h.choose_spec.2.1) ?_ zN 0 _ ⟨σ, rfl, Nat.zero_le _, fun _ _ => rfl, rfl, fun k h => absurd h (Nat.not_lt_zero k)⟩ (by unfold zN; omega)
  rintro f i s ⟨s1, rfl, h1, h2, h3, h4⟩
  unfold fX3_copyRow_7_16_2b
  dsimp only
  by_cases hi : i = 15
  · subst hi
    rw [if_pos (show (15 : Int32) ≤ nI 15 from Int32.le_refl _)]
    exact Or.inr ⟨s1, rfl, h2, h3, h4⟩
  · refine Or.inl ?_
    rw [if_neg (show ¬ (15 : Int32) ≤ nI i from nI_ge (b := 15) (by omega) (by omega)), if_neg (show ¬ (15 : Int32) ≤ nI i from nI_ge (b := 15) (by omega) (by omega)), zin_t (by omega) (by omega), zg_tr, zg_tr, nI_cl (by omega)]
    refine ⟨_, rfl, zI s1 16 i (s1.1 7 i), by rw [show (1 : Int32) = nI 1 from rfl, nI_add], by omega, fun c hc => by rw [zI_ne _ _ _ hc]; exact h2 c hc, h3, fun k hk => ?_⟩
    rw [zI_at]
    by_cases e : k = i
    · subst e; rw [upd_at, h2 7 (by decide)]
    · rw [upd_ne _ _ e]; exact h4 k (by omega)
theorem cp_8_17 (σ : ZS) : ∃ τ : ZS, fX3_copyRow_8_17 σ = some ((), τ) ∧ (∀ c, c ≠ 17 → τ.1 c = σ.1 c) ∧ τ.2 = σ.2 ∧ ∀ k, k < 15 → τ.1 17 k = σ.1 8 k := by
  unfold fX3_copyRow_8_17 fX3_copyRow_8_17_2 fX3_copyRow_8_17_2n
  refine zloop_rule (fun i s => ∃ s1 : ZS, s = (nI i, s1) ∧ i ≤ 15 ∧ (∀ c, c ≠ 17 → s1.1 c = σ.1 c) ∧ s1.2 = σ.2 ∧ ∀ k, k < i → s1.1 17 k = σ.1 8 k) 15 (fun o => ∃ τ : ZS, o = some ((), τ) ∧ (∀ c, c ≠ 17 → τ.1 c = σ.1 c) ∧ τ.2 = σ.2 ∧ ∀ k, k < 15 → τ.1 17 k = σ.1 8 k) (fun i s h => h.choose_spec.2.1) ?_ zN 0 _ ⟨σ, rfl, Nat.zero_le _, fun _ _ => rfl, rfl, fun k h => absurd h (Nat.not_lt_zero k)⟩ (by unfold zN; omega)
  rintro f i s ⟨s1, rfl, h1, h2, h3, h4⟩
  unfold fX3_copyRow_8_17_2b
  dsimp only
  by_cases hi : i = 15
  · subst hi
    rw [if_pos (show (15 : Int32) ≤ nI 15 from Int32.le_refl _)]
    exact Or.inr ⟨s1, rfl, h2, h3, h4⟩
  · refine Or.inl ?_
    rw [if_neg (show ¬ (15 : Int32) ≤ nI i from nI_ge (b := 15) (by omega) (by omega)), if_neg (show ¬ (15 : Int32) ≤ nI i from nI_ge (b := 15) (by omega) (by omega)), zin_t (by omega) (by omega), zg_tr, zg_tr, nI_cl (by omega)]
    refine ⟨_, rfl, zI s1 17 i (s1.1 8 i), by rw [show (1 : Int32) = nI 1 from rfl, nI_add], by omega, fun c hc => by rw [zI_ne _ _ _ hc]; exact h2 c hc, h3, fun k hk => ?_⟩
    rw [zI_at]
    by_cases e : k = i
    · subst e; rw [upd_at, h2 8 (by decide)]
    · rw [upd_ne _ _ e]; exact h4 k (by omega)
theorem cp_9_18 (σ : ZS) : ∃ τ : ZS, fX3_copyRow_9_18 σ = some ((), τ) ∧ (∀ c, c ≠ 18 → τ.1 c = σ.1 c) ∧ τ.2 = σ.2 ∧ ∀ k, k < 3 → τ.1 18 k = σ.1 9 k := by
  unfold fX3_copyRow_9_18 fX3_copyRow_9_18_2 fX3_copyRow_9_18_2n
  refine zloop_rule (fun i s => ∃ s1 : ZS, s = (nI i, s1) ∧ i ≤ 3 ∧ (∀ c, c ≠ 18 → s1.1 c = σ.1 c) ∧ s1.2 = σ.2 ∧ ∀ k, k < i → s1.1 18 k = σ.1 9 k) 3 (fun o => ∃ τ : ZS, o = some ((), τ) ∧ (∀ c, c ≠ 18 → τ.1 c = σ.1 c) ∧ τ.2 = σ.2 ∧ ∀ k, k < 3 → τ.1 18 k = σ.1 9 k) (fun i s h => h.choose_spec.2.1) ?_ zN 0 _ ⟨σ, rfl, Nat.zero_le _, fun _ _ => rfl, rfl, fun k h => absurd h (Nat.not_lt_zero k)⟩ (by unfold zN; omega)
  rintro f i s ⟨s1, rfl, h1, h2, h3, h4⟩
  unfold fX3_copyRow_9_18_2b
  dsimp only
  by_cases hi : i = 3
  · subst hi
    rw [if_pos (show (3 : Int32) ≤ nI 3 from Int32.le_refl _)]
    exact Or.inr ⟨s1, rfl, h2, h3, h4⟩
  · refine Or.inl ?_
    rw [if_neg (show ¬ (3 : Int32) ≤ nI i from nI_ge (b := 3) (by omega) (by omega)), if_neg (show ¬ (3 : Int32) ≤ nI i from nI_ge (b := 3) (by omega) (by omega)), zin_t (by omega) (by omega), zg_tr, zg_tr, nI_cl (by omega)]
    refine ⟨_, rfl, zI s1 18 i (s1.1 9 i), by rw [show (1 : Int32) = nI 1 from rfl, nI_add], by omega, fun c hc => by rw [zI_ne _ _ _ hc]; exact h2 c hc, h3, fun k hk => ?_⟩
    rw [zI_at]
    by_cases e : k = i
    · subst e; rw [upd_at, h2 9 (by decide)]
    · rw [upd_ne _ _ e]; exact h4 k (by omega)
theorem cp_11_2 (σ : ZS) : ∃ τ : ZS, fX3_copyRow_11_2 σ = some ((), τ) ∧ (∀ c, c ≠ 2 → τ.1 c = σ.1 c) ∧ τ.2 = σ.2 ∧ ∀ k, k < 8 → τ.1 2 k = σ.1 11 k := by
  unfold fX3_copyRow_11_2 fX3_copyRow_11_2_2 fX3_copyRow_11_2_2n
  refine zloop_rule (fun i s => ∃ s1 : ZS, s = (nI i, s1) ∧ i ≤ 8 ∧ (∀ c, c ≠ 2 → s1.1 c = σ.1 c) ∧ s1.2 = σ.2 ∧ ∀ k, k < i → s1.1 2 k = σ.1 11 k) 8 (fun o => ∃ τ : ZS, o = some ((), τ) ∧ (∀ c, c ≠ 2 → τ.1 c = σ.1 c) ∧ τ.2 = σ.2 ∧ ∀ k, k < 8 → τ.1 2 k = σ.1 11 k) (fun i s h => h.choose_spec.2.1) ?_ zN 0 _ ⟨σ, rfl, Nat.zero_le _, fun _ _ => rfl, rfl, fun k h => absurd h (Nat.not_lt_zero k)⟩ (by unfold zN; omega)
  rintro f i s ⟨s1, rfl, h1, h2, h3, h4⟩
  unfold fX3_copyRow_11_2_2b
  dsimp only
  by_cases hi : i = 8
  · subst hi
    rw [if_pos (show (8 : Int32) ≤ nI 8 from Int32.le_refl _)]
    exact Or.inr ⟨s1, rfl, h2, h3, h4⟩
  · refine Or.inl ?_
    rw [if_neg (show ¬ (8 : Int32) ≤ nI i from nI_ge (b := 8) (by omega) (by omega)), if_neg (show ¬ (8 : Int32) ≤ nI i from nI_ge (b := 8) (by omega) (by omega)), zin_t (by omega) (by omega), zg_tr, zg_tr, nI_cl (by omega)]
    refine ⟨_, rfl, zI s1 2 i (s1.1 11 i), by rw [show (1 : Int32) = nI 1 from rfl, nI_add], by omega, fun c hc => by rw [zI_ne _ _ _ hc]; exact h2 c hc, h3, fun k hk => ?_⟩
    rw [zI_at]
    by_cases e : k = i
    · subst e; rw [upd_at, h2 11 (by decide)]
    · rw [upd_ne _ _ e]; exact h4 k (by omega)
theorem cp_12_3 (σ : ZS) : ∃ τ : ZS, fX3_copyRow_12_3 σ = some ((), τ) ∧ (∀ c, c ≠ 3 → τ.1 c = σ.1 c) ∧ τ.2 = σ.2 ∧ ∀ k, k < 8 → τ.1 3 k = σ.1 12 k := by
  unfold fX3_copyRow_12_3 fX3_copyRow_12_3_2 fX3_copyRow_12_3_2n
  refine zloop_rule (fun i s => ∃ s1 : ZS, s = (nI i, s1) ∧ i ≤ 8 ∧ (∀ c, c ≠ 3 → s1.1 c = σ.1 c) ∧ s1.2 = σ.2 ∧ ∀ k, k < i → s1.1 3 k = σ.1 12 k) 8 (fun o => ∃ τ : ZS, o = some ((), τ) ∧ (∀ c, c ≠ 3 → τ.1 c = σ.1 c) ∧ τ.2 = σ.2 ∧ ∀ k, k < 8 → τ.1 3 k = σ.1 12 k) (fun i s h => h.choose_spec.2.1) ?_ zN 0 _ ⟨σ, rfl, Nat.zero_le _, fun _ _ => rfl, rfl, fun k h => absurd h (Nat.not_lt_zero k)⟩ (by unfold zN; omega)
  rintro f i s ⟨s1, rfl, h1, h2, h3, h4⟩
  unfold fX3_copyRow_12_3_2b
  dsimp only
  by_cases hi : i = 8
  · subst hi
    rw [if_pos (show (8 : Int32) ≤ nI 8 from Int32.le_refl _)]
    exact Or.inr ⟨s1, rfl, h2, h3, h4⟩
  · refine Or.inl ?_
    rw [if_neg (show ¬ (8 : Int32) ≤ nI i from nI_ge (b := 8) (by omega) (by omega)), if_neg (show ¬ (8 : Int32) ≤ nI i from nI_ge (b := 8) (by omega) (by omega)), zin_t (by omega) (by omega), zg_tr, zg_tr, nI_cl (by omega)]
    refine ⟨_, rfl, zI s1 3 i (s1.1 12 i), by rw [show (1 : Int32) = nI 1 from rfl, nI_add], by omega, fun c hc => by rw [zI_ne _ _ _ hc]; exact h2 c hc, h3, fun k hk => ?_⟩
    rw [zI_at]
    by_cases e : k = i
    · subst e; rw [upd_at, h2 12 (by decide)]
    · rw [upd_ne _ _ e]; exact h4 k (by omega)
theorem cp_13_4 (σ : ZS) : ∃ τ : ZS, fX3_copyRow_13_4 σ = some ((), τ) ∧ (∀ c, c ≠ 4 → τ.1 c = σ.1 c) ∧ τ.2 = σ.2 ∧ ∀ k, k < 40 → τ.1 4 k = σ.1 13 k := by
  unfold fX3_copyRow_13_4 fX3_copyRow_13_4_2 fX3_copyRow_13_4_2n
  refine zloop_rule (fun i s => ∃ s1 : ZS, s = (nI i, s1) ∧ i ≤ 40 ∧ (∀ c, c ≠ 4 → s1.1 c = σ.1 c) ∧ s1.2 = σ.2 ∧ ∀ k, k < i → s1.1 4 k = σ.1 13 k) 40 (fun o => ∃ τ : ZS, o = some ((), τ) ∧ (∀ c, c ≠ 4 → τ.1 c = σ.1 c) ∧ τ.2 = σ.2 ∧ ∀ k, k < 40 → τ.1 4 k = σ.1 13 k) (fun i s h => h.choose_spec.2.1) ?_ zN 0 _ ⟨σ, rfl, Nat.zero_le _, fun _ _ => rfl, rfl, fun k h => absurd h (Nat.not_lt_zero k)⟩ (by unfold zN; omega)
  rintro f i s ⟨s1, rfl, h1, h2, h3, h4⟩
  unfold fX3_copyRow_13_4_2b
  dsimp only
  by_cases hi : i = 40
  · subst hi
    rw [if_pos (show (40 : Int32) ≤ nI 40 from Int32.le_refl _)]
    exact Or.inr ⟨s1, rfl, h2, h3, h4⟩
  · refine Or.inl ?_
    rw [if_neg (show ¬ (40 : Int32) ≤ nI i from nI_ge (b := 40) (by omega) (by omega)), if_neg (show ¬ (40 : Int32) ≤ nI i from nI_ge (b := 40) (by omega) (by omega)), zin_t (by omega) (by omega), zg_tr, zg_tr, nI_cl (by omega)]
    refine ⟨_, rfl, zI s1 4 i (s1.1 13 i), by rw [show (1 : Int32) = nI 1 from rfl, nI_add], by omega, fun c hc => by rw [zI_ne _ _ _ hc]; exact h2 c hc, h3, fun k hk => ?_⟩
    rw [zI_at]
    by_cases e : k = i
    · subst e; rw [upd_at, h2 13 (by decide)]
    · rw [upd_ne _ _ e]; exact h4 k (by omega)
theorem cp_14_5 (σ : ZS) : ∃ τ : ZS, fX3_copyRow_14_5 σ = some ((), τ) ∧ (∀ c, c ≠ 5 → τ.1 c = σ.1 c) ∧ τ.2 = σ.2 ∧ ∀ k, k < 6 → τ.1 5 k = σ.1 14 k := by
  unfold fX3_copyRow_14_5 fX3_copyRow_14_5_2 fX3_copyRow_14_5_2n
  refine zloop_rule (fun i s => ∃ s1 : ZS, s = (nI i, s1) ∧ i ≤ 6 ∧ (∀ c, c ≠ 5 → s1.1 c = σ.1 c) ∧ s1.2 = σ.2 ∧ ∀ k, k < i → s1.1 5 k = σ.1 14 k) 6 (fun o => ∃ τ : ZS, o = some ((), τ) ∧ (∀ c, c ≠ 5 → τ.1 c = σ.1 c) ∧ τ.2 = σ.2 ∧ ∀ k, k < 6 → τ.1 5 k = σ.1 14 k) (fun i s h => h.choose_spec.2.1) ?_ zN 0 _ ⟨σ, rfl, Nat.zero_le _, fun _ _ => rfl, rfl, fun k h => absurd h (Nat.not_lt_zero k)⟩ (by unfold zN; omega)
  rintro f i s ⟨s1, rfl, h1, h2, h3, h4⟩
  unfold fX3_copyRow_14_5_2b
  dsimp only
  by_cases hi : i = 6
  · subst hi
    rw [if_pos (show (6 : Int32) ≤ nI 6 from Int32.le_refl _)]
    exact Or.inr ⟨s1, rfl, h2, h3, h4⟩
  · refine Or.inl ?_
    rw [if_neg (show ¬ (6 : Int32) ≤ nI i from nI_ge (b := 6) (by omega) (by omega)), if_neg (show ¬ (6 : Int32) ≤ nI i from nI_ge (b := 6) (by omega) (by omega)), zin_t (by omega) (by omega), zg_tr, zg_tr, nI_cl (by omega)]
    refine ⟨_, rfl, zI s1 5 i (s1.1 14 i), by rw [show (1 : Int32) = nI 1 from rfl, nI_add], by omega, fun c hc => by rw [zI_ne _ _ _ hc]; exact h2 c hc, h3, fun k hk => ?_⟩
    rw [zI_at]
    by_cases e : k = i
    · subst e; rw [upd_at, h2 14 (by decide)]
    · rw [upd_ne _ _ e]; exact h4 k (by omega)
theorem cp_15_6 (σ : ZS) : ∃ τ : ZS, fX3_copyRow_15_6 σ = some ((), τ) ∧ (∀ c, c ≠ 6 → τ.1 c = σ.1 c) ∧ τ.2 = σ.2 ∧ ∀ k, k < 36 → τ.1 6 k = σ.1 15 k := by
  unfold fX3_copyRow_15_6 fX3_copyRow_15_6_2 fX3_copyRow_15_6_2n
  refine zloop_rule (fun i s => ∃ s1 : ZS, s = (nI i, s1) ∧ i ≤ 36 ∧ (∀ c, c ≠ 6 → s1.1 c = σ.1 c) ∧ s1.2 = σ.2 ∧ ∀ k, k < i → s1.1 6 k = σ.1 15 k) 36 (fun o => ∃ τ : ZS, o = some ((), τ) ∧ (∀ c, c ≠ 6 → τ.1 c = σ.1 c) ∧ τ.2 = σ.2 ∧ ∀ k, k < 36 → τ.1 6 k = σ.1 15 k) (fun i s h => h.choose_spec.2.1) ?_ zN 0 _ ⟨σ, rfl, Nat.zero_le _, fun _ _ => rfl, rfl, fun k h => absurd h (Nat.not_lt_zero k)⟩ (by unfold zN; omega)
  rintro f i s ⟨s1, rfl, h1, h2, h3, h4⟩
  unfold fX3_copyRow_15_6_2b
  dsimp only
  by_cases hi : i = 36
  · subst hi
    rw [if_pos (show (36 : Int32) ≤ nI 36 from Int32.le_refl _)]
    exact Or.inr ⟨s1, rfl, h2, h3, h4⟩
  · refine Or.inl ?_
    rw [if_neg (show ¬ (36 : Int32) ≤ nI i from nI_ge (b := 36) (by omega) (by omega)), if_neg (show ¬ (36 : Int32) ≤ nI i from nI_ge (b := 36) (by omega) (by omega)), zin_t (by omega) (by omega), zg_tr, zg_tr, nI_cl (by omega)]
    refine ⟨_, rfl, zI s1 6 i (s1.1 15 i), by rw [show (1 : Int32) = nI 1 from rfl, nI_add], by omega, fun c hc => by rw [zI_ne _ _ _ hc]; exact h2 c hc, h3, fun k hk => ?_⟩
    rw [zI_at]
    by_cases e : k = i
    · subst e; rw [upd_at, h2 15 (by decide)]
    · rw [upd_ne _ _ e]; exact h4 k (by omega)
theorem cp_16_7 (σ : ZS) : ∃ τ : ZS, fX3_copyRow_16_7 σ = some ((), τ) ∧ (∀ c, c ≠ 7 → τ.1 c = σ.1 c) ∧ τ.2 = σ.2 ∧ ∀ k, k < 15 → τ.1 7 k = σ.1 16 k := by
  unfold fX3_copyRow_16_7 fX3_copyRow_16_7_2 fX3_copyRow_16_7_2n
  refine zloop_rule (fun i s => ∃ s1 : ZS, s = (nI i, s1) ∧ i ≤ 15 ∧ (∀ c, c ≠ 7 → s1.1 c = σ.1 c) ∧ s1.2 = σ.2 ∧ ∀ k, k < i → s1.1 7 k = σ.1 16 k) 15 (fun o => ∃ τ : ZS, o = some ((), τ) ∧ (∀ c, c ≠ 7 → τ.1 c = σ.1 c) ∧ τ.2 = σ.2 ∧ ∀ k, k < 15 → τ.1 7 k = σ.1 16 k) (fun i s h => h.choose_spec.2.1) ?_ zN 0 _ ⟨σ, rfl, Nat.zero_le _, fun _ _ => rfl, rfl, fun k h => absurd h (Nat.not_lt_zero k)⟩ (by unfold zN; omega)
  rintro f i s ⟨s1, rfl, h1, h2, h3, h4⟩
  unfold fX3_copyRow_16_7_2b
  dsimp only
  by_cases hi : i = 15
  · subst hi
    rw [if_pos (show (15 : Int32) ≤ nI 15 from Int32.le_refl _)]
    exact Or.inr ⟨s1, rfl, h2, h3, h4⟩
  · refine Or.inl ?_
    rw [if_neg (show ¬ (15 : Int32) ≤ nI i from nI_ge (b := 15) (by omega) (by omega)), if_neg (show ¬ (15 : Int32) ≤ nI i from nI_ge (b := 15) (by omega) (by omega)), zin_t (by omega) (by omega), zg_tr, zg_tr, nI_cl (by omega)]
    refine ⟨_, rfl, zI s1 7 i (s1.1 16 i), by rw [show (1 : Int32) = nI 1 from rfl, nI_add], by omega, fun c hc => by rw [zI_ne _ _ _ hc]; exact h2 c hc, h3, fun k hk => ?_⟩
    rw [zI_at]
    by_cases e : k = i
    · subst e; rw [upd_at, h2 16 (by decide)]
    · rw [upd_ne _ _ e]; exact h4 k (by omega)
theorem cp_17_8 (σ : ZS) : ∃ τ : ZS, fX3_copyRow_17_8 σ = some ((), τ) ∧ (∀ c, c ≠ 8 → τ.1 c = σ.1 c) ∧ τ.2 = σ.2 ∧ ∀ k, k < 15 → τ.1 8 k = σ.1 17 k := by
  unfold fX3_copyRow_17_8 fX3_copyRow_17_8_2 fX3_copyRow_17_8_2n
  refine zloop_rule (fun i s => ∃ s1 : ZS, s = (nI i, s1) ∧ i ≤ 15 ∧ (∀ c, c ≠ 8 → s1.1 c = σ.1 c) ∧ s1.2 = σ.2 ∧ ∀ k, k < i → s1.1 8 k = σ.1 17 k) 15 (fun o => ∃ τ : ZS, o = some ((), τ) ∧ (∀ c, c ≠ 8 → τ.1 c = σ.1 c) ∧ τ.2 = σ.2 ∧ ∀ k, k < 15 → τ.1 8 k = σ.1 17 k) (fun i s h => h.choose_spec.2.1) ?_ zN 0 _ ⟨σ, rfl, Nat.zero_le _, fun _ _ => rfl, rfl, fun k h => absurd h (Nat.not_lt_zero k)⟩ (by unfold zN; omega)
  rintro f i s ⟨s1, rfl, h1, h2, h3, h4⟩
  unfold fX3_copyRow_17_8_2b
  dsimp only
  by_cases hi : i = 15
  · subst hi
    rw [if_pos (show (15 : Int32) ≤ nI 15 from Int32.le_refl _)]
    exact Or.inr ⟨s1, rfl, h2, h3, h4⟩
  · refine Or.inl ?_
    rw [if_neg (show ¬ (15 : Int32) ≤ nI i from nI_ge (b := 15) (by omega) (by omega)), if_neg (show ¬ (15 : Int32) ≤ nI i from nI_ge (b := 15) (by omega) (by omega)), zin_t (by omega) (by omega), zg_tr, zg_tr, nI_cl (by omega)]
    refine ⟨_, rfl, zI s1 8 i (s1.1 17 i), by rw [show (1 : Int32) = nI 1 from rfl, nI_add], by omega, fun c hc => by rw [zI_ne _ _ _ hc]; exact h2 c hc, h3, fun k hk => ?_⟩
    rw [zI_at]
    by_cases e : k = i
    · subst e; rw [upd_at, h2 17 (by decide)]
    · rw [upd_ne _ _ e]; exact h4 k (by omega)
theorem cp_18_9 (σ : ZS) : ∃ τ : ZS, fX3_copyRow_18_9 σ = some ((), τ) ∧ (∀ c, c ≠ 9 → τ.1 c = σ.1 c) ∧ τ.2 = σ.2 ∧ ∀ k, k < 3 → τ.1 9 k = σ.1 18 k := by
  unfold fX3_copyRow_18_9 fX3_copyRow_18_9_2 fX3_copyRow_18_9_2n
  refine zloop_rule (fun i s => ∃ s1 : ZS, s = (nI i, s1) ∧ i ≤ 3 ∧ (∀ c, c ≠ 9 → s1.1 c = σ.1 c) ∧ s1.2 = σ.2 ∧ ∀ k, k < i → s1.1 9 k = σ.1 18 k) 3 (fun o => ∃ τ : ZS, o = some ((), τ) ∧ (∀ c, c ≠ 9 → τ.1 c = σ.1 c) ∧ τ.2 = σ.2 ∧ ∀ k, k < 3 → τ.1 9 k = σ.1 18 k) (fun i s h => h.choose_spec.2.1) ?_ zN 0 _ ⟨σ, rfl, Nat.zero_le _, fun _ _ => rfl, rfl, fun k h => absurd h (Nat.not_lt_zero k)⟩ (by unfold zN; omega)
  rintro f i s ⟨s1, rfl, h1, h2, h3, h4⟩
  unfold fX3_copyRow_18_9_2b
  dsimp only
  by_cases hi : i = 3
  · subst hi
    rw [if_pos (show (3 : Int32) ≤ nI 3 from Int32.le_refl _)]
    exact Or.inr ⟨s1, rfl, h2, h3, h4⟩
  · refine Or.inl ?_
    rw [if_neg (show ¬ (3 : Int32) ≤ nI i from nI_ge (b := 3) (by omega) (by omega)), if_neg (show ¬ (3 : Int32) ≤ nI i from nI_ge (b := 3) (by omega) (by omega)), zin_t (by omega) (by omega), zg_tr, zg_tr, nI_cl (by omega)]
    refine ⟨_, rfl, zI s1 9 i (s1.1 18 i), by rw [show (1 : Int32) = nI 1 from rfl, nI_add], by omega, fun c hc => by rw [zI_ne _ _ _ hc]; exact h2 c hc, h3, fun k hk => ?_⟩
    rw [zI_at]
    by_cases e : k = i
    · subst e; rw [upd_at, h2 18 (by decide)]
    · rw [upd_ne _ _ e]; exact h4 k (by omega)
theorem become_10_1 (σ : ZS) : ∃ τ : ZS, fX3_becomeLike_10_1 σ = some ((), τ) ∧ (∀ c, ¬ (10 ≤ c ∧ c < 10 + 9) → τ.1 c = σ.1 c) ∧ τ.1 10 0 = σ.1 1 0 ∧ τ.1 10 4 = σ.1 1 4 ∧ ∀ q a, q < 8 → a < ln q → τ.1 (10 + 1 + q) a = σ.1 (1 + 1 + q) a := by
  unfold fX3_becomeLike_10_1
  obtain ⟨z1, e1, f1, -, v1⟩ := cp_2_11 (zI σ 10 0 (σ.1 1 0))
  rw [e1, zb_mk]
  obtain ⟨z2, e2, f2, -, v2⟩ := cp_3_12 z1
  rw [e2, zb_mk]
  obtain ⟨z3, e3, f3, -, v3⟩ := cp_4_13 z2
  rw [e3, zb_mk]
  obtain ⟨z4, e4, f4, -, v4⟩ := cp_5_14 (zI z3 10 4 (z3.1 1 4))
  rw [e4, zb_mk]
  obtain ⟨z5, e5, f5, -, v5⟩ := cp_6_15 z4
  rw [e5, zb_mk]
  obtain ⟨z6, e6, f6, -, v6⟩ := cp_7_16 z5
  rw [e6, zb_mk]
  obtain ⟨z7, e7, f7, -, v7⟩ := cp_8_17 z6
  rw [e7, zb_mk]
  obtain ⟨z8, e8, f8, -, v8⟩ := cp_9_18 z7
  rw [e8, zb_mk]
  refine ⟨z8, rfl, fun c hc => ?_, ?_, ?_, fun q a hq ha => ?_⟩
  · rw [f8 c (by omega), f7 c (by omega), f6 c (by omega), f5 c (by omega), f4 c (by omega), zI_ne _ _ _ (by omega), f3 c (by omega), f2 c (by omega), f1 c (by omega), zI_ne _ _ _ (by omega)]
  · rw [f8 10 (by omega), f7 10 (by omega), f6 10 (by omega), f5 10 (by omega), f4 10 (by omega), zI_at, upd_ne _ _ (show 0 ≠ 4 by decide), f3 10 (by omega), f2 10 (by omega), f1 10 (by omega), zI_at, upd_at]
  · rw [f8 10 (by omega), f7 10 (by omega), f6 10 (by omega), f5 10 (by omega), f4 10 (by omega), zI_at, upd_at, f3 1 (by omega), f2 1 (by omega), f1 1 (by omega), zI_ne _ _ _ (show 1 ≠ 10 by decide)]
  · rcases (show q = 0 ∨ q = 1 ∨ q = 2 ∨ q = 3 ∨ q = 4 ∨ q = 5 ∨ q = 6 ∨ q = 7 by omega) with rfl | rfl | rfl | rfl | rfl | rfl | rfl | rfl
    · show z8.1 11 a = σ.1 2 a
      rw [f8 11 (by omega), f7 11 (by omega), f6 11 (by omega), f5 11 (by omega), f4 11 (by omega), zI_ne _ _ _ (show 11 ≠ 10 by decide), f3 11 (by omega), f2 11 (by omega), v1 a ha, zI_ne _ _ _ (show 2 ≠ 10 by decide)]
    · show z8.1 12 a = σ.1 3 a
      rw [f8 12 (by omega), f7 12 (by omega), f6 12 (by omega), f5 12 (by omega), f4 12 (by omega), zI_ne _ _ _ (show 12 ≠ 10 by decide), f3 12 (by omega), v2 a ha, f1 3 (by omega), zI_ne _ _ _ (show 3 ≠ 10 by decide)]
    · show z8.1 13 a = σ.1 4 a
      rw [f8 13 (by omega), f7 13 (by omega), f6 13 (by omega), f5 13 (by omega), f4 13 (by omega), zI_ne _ _ _ (show 13 ≠ 10 by decide), v3 a ha, f2 4 (by omega), f1 4 (by omega), zI_ne _ _ _ (show 4 ≠ 10 by decide)]
    · show z8.1 14 a = σ.1 5 a
      rw [f8 14 (by omega), f7 14 (by omega), f6 14 (by omega), f5 14 (by omega), v4 a ha, zI_ne _ _ _ (show 5 ≠ 10 by decide), f3 5 (by omega), f2 5 (by omega), f1 5 (by omega), zI_ne _ _ _ (show 5 ≠ 10 by decide)]
    · show z8.1 15 a = σ.1 6 a
      rw [f8 15 (by omega), f7 15 (by omega), f6 15 (by omega), v5 a ha, f4 6 (by omega), zI_ne _ _ _ (show 6 ≠ 10 by decide), f3 6 (by omega), f2 6 (by omega), f1 6 (by omega), zI_ne _ _ _ (show 6 ≠ 10 by decide)]
    · show z8.1 16 a = σ.1 7 a
      rw [f8 16 (by omega), f7 16 (by omega), v6 a ha, f5 7 (by omega), f4 7 (by omega), zI_ne _ _ _ (show 7 ≠ 10 by decide), f3 7 (by omega), f2 7 (by omega), f1 7 (by omega), zI_ne _ _ _ (show 7 ≠ 10 by decide)]
    · show z8.1 17 a = σ.1 8 a
      rw [f8 17 (by omega), v7 a ha, f6 8 (by omega), f5 8 (by omega), f4 8 (by omega), zI_ne _ _ _ (show 8 ≠ 10 by decide), f3 8 (by omega), f2 8 (by omega), f1 8 (by omega), zI_ne _ _ _ (show 8 ≠ 10 by decide)]
    · show z8.1 18 a = σ.1 9 a
      rw [v8 a ha, f7 9 (by omega), f6 9 (by omega), f5 9 (by omega), f4 9 (by omega), zI_ne _ _ _ (show 9 ≠ 10 by decide), f3 9 (by omega), f2 9 (by omega), f1 9 (by omega), zI_ne _ _ _ (show 9 ≠ 10 by decide)]
theorem become_1_10 (σ : ZS) : ∃ τ : ZS, fX3_becomeLike_1_10 σ = some ((), τ) ∧ (∀ c, ¬ (1 ≤ c ∧ c < 1 + 9) → τ.1 c = σ.1 c) ∧ τ.1 1 0 = σ.1 10 0 ∧ τ.1 1 4 = σ.1 10 4 ∧ ∀ q a, q < 8 → a < ln q → τ.1 (1 + 1 + q) a = σ.1 (10 + 1 + q) a := by
  unfold fX3_becomeLike_1_10
  obtain ⟨z1, e1, f1, -, v1⟩ := cp_11_2 (zI σ 1 0 (σ.1 10 0))
  rw [e1, zb_mk]
  obtain ⟨z2, e2, f2, -, v2⟩ := cp_12_3 z1
  rw [e2, zb_mk]
  obtain ⟨z3, e3, f3, -, v3⟩ := cp_13_4 z2
  rw [e3, zb_mk]
  obtain ⟨z4, e4, f4, -, v4⟩ := cp_14_5 (zI z3 1 4 (z3.1 10 4))
  rw [e4, zb_mk]
  obtain ⟨z5, e5, f5, -, v5⟩ := cp_15_6 z4
  rw [e5, zb_mk]
  obtain ⟨z6, e6, f6, -, v6⟩ := cp_16_7 z5
  rw [e6, zb_mk]
  obtain ⟨z7, e7, f7, -, v7⟩ := cp_17_8 z6
  rw [e7, zb_mk]
  obtain ⟨z8, e8, f8, -, v8⟩ := cp_18_9 z7
  rw [e8, zb_mk]
  refine ⟨z8, rfl, fun c hc => ?_, ?_, ?_, fun q a hq ha => ?_⟩
  · rw [f8 c (by omega), f7 c (by omega), f6 c (by omega), f5 c (by omega), f4 c (by omega), zI_ne _ _ _ (by omega), f3 c (by omega), f2 c (by omega), f1 c (by omega), zI_ne _ _ _ (by omega)]
  · rw [f8 1 (by omega), f7 1 (by omega), f6 1 (by omega), f5 1 (by omega), f4 1 (by omega), zI_at, upd_ne _ _ (show 0 ≠ 4 by decide), f3 1 (by omega), f2 1 (by omega), f1 1 (by omega), zI_at, upd_at]
  · rw [f8 1 (by omega), f7 1 (by omega), f6 1 (by omega), f5 1 (by omega), f4 1 (by omega), zI_at, upd_at, f3 10 (by omega), f2 10 (by omega), f1 10 (by omega), zI_ne _ _ _ (show 10 ≠ 1 by decide)]
  · rcases (show q = 0 ∨ q = 1 ∨ q = 2 ∨ q = 3 ∨ q = 4 ∨ q = 5 ∨ q = 6 ∨ q = 7 by omega) with rfl | rfl | rfl | rfl | rfl | rfl | rfl | rfl
    · show z8.1 2 a = σ.1 11 a
      rw [f8 2 (by omega), f7 2 (by omega), f6 2 (by omega), f5 2 (by omega), f4 2 (by omega), zI_ne _ _ _ (show 2 ≠ 1 by decide), f3 2 (by omega), f2 2 (by omega), v1 a ha, zI_ne _ _ _ (show 11 ≠ 1 by decide)]
    · show z8.1 3 a = σ.1 12 a
      rw [f8 3 (by omega), f7 3 (by omega), f6 3 (by omega), f5 3 (by omega), f4 3 (by omega), zI_ne _ _ _ (show 3 ≠ 1 by decide), f3 3 (by omega), v2 a ha, f1 12 (by omega), zI_ne _ _ _ (show 12 ≠ 1 by decide)]
    · show z8.1 4 a = σ.1 13 a
      rw [f8 4 (by omega), f7 4 (by omega), f6 4 (by omega), f5 4 (by omega), f4 4 (by omega), zI_ne _ _ _ (show 4 ≠ 1 by decide), v3 a ha, f2 13 (by omega), f1 13 (by omega), zI_ne _ _ _ (show 13 ≠ 1 by decide)]
    · show z8.1 5 a = σ.1 14 a
      rw [f8 5 (by omega), f7 5 (by omega), f6 5 (by omega), f5 5 (by omega), v4 a ha, zI_ne _ _ _ (show 14 ≠ 1 by decide), f3 14 (by omega), f2 14 (by omega), f1 14 (by omega), zI_ne _ _ _ (show 14 ≠ 1 by decide)]
    · show z8.1 6 a = σ.1 15 a
      rw [f8 6 (by omega), f7 6 (by omega), f6 6 (by omega), v5 a ha, f4 15 (by omega), zI_ne _ _ _ (show 15 ≠ 1 by decide), f3 15 (by omega), f2 15 (by omega), f1 15 (by omega), zI_ne _ _ _ (show 15 ≠ 1 by decide)]
    · show z8.1 7 a = σ.1 16 a
      rw [f8 7 (by omega), f7 7 (by omega), v6 a ha, f5 16 (by omega), f4 16 (by omega), zI_ne _ _ _ (show 16 ≠ 1 by decide), f3 16 (by omega), f2 16 (by omega), f1 16 (by omega), zI_ne _ _ _ (show 16 ≠ 1 by decide)]
    · show z8.1 8 a = σ.1 17 a
      rw [f8 8 (by omega), v7 a ha, f6 17 (by omega), f5 17 (by omega), f4 17 (by omega), zI_ne _ _ _ (show 17 ≠ 1 by decide), f3 17 (by omega), f2 17 (by omega), f1 17 (by omega), zI_ne _ _ _ (show 17 ≠ 1 by decide)]
    · show z8.1 9 a = σ.1 18 a
      rw [v8 a ha, f7 18 (by omega), f6 18 (by omega), f5 18 (by omega), f4 18 (by omega), zI_ne _ _ _ (show 18 ≠ 1 by decide), f3 18 (by omega), f2 18 (by omega), f1 18 (by omega), zI_ne _ _ _ (show 18 ≠ 1 by decide)]
theorem zloop2 {σ σ' ρ ρ' : Type} {F : (σ → Option ρ) → σ → Option ρ} {G : (σ' → Option ρ') → σ' → Option ρ'} (I : Nat → σ → σ' → Prop) (N : Nat) (Q : Option ρ → Option ρ' → Prop) (hN : ∀ i s t, I i s t → i ≤ N) (hs : ∀ (f : σ → Option ρ) (g : σ' → Option ρ') i s t, I i s t → (∃ s' t', F f s = f s' ∧ G g t = g t' ∧ I (i + 1) s' t') ∨ Q (F f s) (G g t)) : ∀ n i s t, I i s t → N < i + n → Q (zloop F n s) (zloop G n t) := by
  intro n
  induction n with
  | zero => intro i s t hI h; exact absurd (hN i s t hI) (by omega)
  | succ n ih =>
    intro i s t hI h
    rcases hs (zloop F n) (zloop G n) i s t hI with ⟨s', t', e, e', hI'⟩ | hq
    · show Q (F (zloop F n) s) (G (zloop G n) t)
      rw [e, e']
      exact ih (i + 1) s' t' hI' (by omega)
    · exact hq
/-- the model's image: one row over another -/
theorem img_M (τ : ZS) : ∃ τ1 : ZS, fX7_image τ = some (τ.1 1 0, τ1) ∧ (∀ c, c ≠ 2 → c ≠ 0 → τ1.1 c = τ.1 c) ∧ (∀ k, k ≠ 2 → τ1.1 0 k = τ.1 0 k) ∧ τ1.1 0 2 = 1 ∧ ∀ k, k < 133 → τ1.1 2 k = τ.1 1 k := by
  unfold fX7_image fX7_image_2 fX7_image_2n
  refine zloop_rule (fun i s => ∃ s1 : ZS, s = (nI i, s1) ∧ i ≤ 133 ∧ (∀ c, c ≠ 2 → s1.1 c = τ.1 c) ∧ ∀ k, k < i → s1.1 2 k = τ.1 1 k) 133 (fun o => ∃ τ1 : ZS, o = some (τ.1 1 0, τ1) ∧ (∀ c, c ≠ 2 → c ≠ 0 → τ1.1 c = τ.1 c) ∧ (∀ k, k ≠ 2 → τ1.1 0 k = τ.1 0 k) ∧ τ1.1 0 2 = 1 ∧ ∀ k, k < 133 → τ1.1 2 k = τ.1 1 k) (fun i s h => h.choose_spec.2.1) ?_ zN 0 _ ⟨τ, rfl, Nat.zero_le _, fun _ _ => rfl, fun k h => absurd h (Nat.not_lt_zero k)⟩ (by unfold zN; omega)
  rintro f i s ⟨s1, rfl, h1, h2, h3⟩
  unfold fX7_image_2b
  dsimp only
  by_cases hi : i = 133
  · subst hi
    rw [if_pos (show (133 : Int32) ≤ nI 133 from Int32.le_refl _)]
    refine Or.inr ⟨zI s1 0 2 1, ?_, fun c hc hc0 => ?_, fun k hk => ?_, ?_, fun k hk => ?_⟩
    · rw [show zin (0 : Int32) 133 = true from rfl, zg_tr, zI_ne _ _ _ (show 1 ≠ 0 by decide), h2 1 (by decide)]
      rfl
    · rw [zI_ne _ _ _ hc0]; exact h2 c hc
    · rw [zI_at, upd_ne _ _ hk, h2 0 (by decide)]
    · rw [zI_at, upd_at]
    · rw [zI_ne _ _ _ (by decide)]; exact h3 k hk
  · refine Or.inl ?_
    rw [if_neg (show ¬ (133 : Int32) ≤ nI i from nI_ge (b := 133) (by omega) (by omega)), zin_t (by omega) (by omega), zg_tr, zg_tr, nI_cl (by omega)]
    refine ⟨_, rfl, zI s1 2 i (s1.1 1 i), by rw [show (1 : Int32) = nI 1 from rfl, nI_add], by omega, fun c hc => by rw [zI_ne _ _ _ hc]; exact h2 c hc, fun k hk => ?_⟩
    rw [zI_at]
    by_cases e : k = i
    · subst e; rw [upd_at, h2 1 (by decide)]
    · rw [upd_ne _ _ e]; exact h3 k (by omega)
theorem undo_M (τ : ZS) : ∃ τ1 : ZS, fX7_undo_12 0 τ = some (τ.1 2 0, τ1) ∧ (∀ c, c ≠ 1 → τ1.1 c = τ.1 c) ∧ ∀ k, k < 133 → τ1.1 1 k = τ.1 2 k := by
  unfold fX7_undo_12 fX7_undo_12n
  refine zloop_rule (fun i s => ∃ s1 : ZS, s = (nI i, s1) ∧ i ≤ 133 ∧ (∀ c, c ≠ 1 → s1.1 c = τ.1 c) ∧ ∀ k, k < i → s1.1 1 k = τ.1 2 k) 133 (fun o => ∃ τ1 : ZS, o = some (τ.1 2 0, τ1) ∧ (∀ c, c ≠ 1 → τ1.1 c = τ.1 c) ∧ ∀ k, k < 133 → τ1.1 1 k = τ.1 2 k) (fun i s h => h.choose_spec.2.1) ?_ zN 0 _ ⟨τ, rfl, Nat.zero_le _, fun _ _ => rfl, fun k h => absurd h (Nat.not_lt_zero k)⟩ (by unfold zN; omega)
  rintro f i s ⟨s1, rfl, h1, h2, h3⟩
  unfold fX7_undo_12b
  dsimp only
  by_cases hi : i = 133
  · subst hi
    rw [if_pos (show (133 : Int32) ≤ nI 133 from Int32.le_refl _)]
    refine Or.inr ⟨s1, ?_, h2, h3⟩
    rw [show zin (0 : Int32) 133 = true from rfl, zg_tr, show ((0 : Int32)).toNatClampNeg = 0 from rfl, h3 0 (by decide)]
  · refine Or.inl ?_
    rw [if_neg (show ¬ (133 : Int32) ≤ nI i from nI_ge (b := 133) (by omega) (by omega)), zin_t (by omega) (by omega), zg_tr, zg_tr, nI_cl (by omega)]
    refine ⟨_, rfl, zI s1 1 i (s1.1 2 i), by rw [show (1 : Int32) = nI 1 from rfl, nI_add], by omega, fun c hc => by rw [zI_ne _ _ _ hc]; exact h2 c hc, fun k hk => ?_⟩
    rw [zI_at]
    by_cases e : k = i
    · subst e; rw [upd_at, h2 2 (by decide)]
    · rw [upd_ne _ _ e]; exact h3 k (by omega)
theorem step32 : zStep32 zR := fun σ τ hR => by
  obtain ⟨⟨G, g1, g2, g3⟩, -, h3, h4, h5, h6⟩ := id hR
  obtain ⟨z, e1, f1, v0, v4, va⟩ := become_10_1 σ
  obtain ⟨τ1, e2, f2, w0, w2, wa⟩ := img_M τ
  unfold fX6_image
  rw [e1, zb_mk, e2]
  have n : ∀ c, c ≠ 0 → (zI z 0 2 1).1 c = z.1 c := fun c hc => zI_ne _ _ _ hc
  have o : ∀ c, c ≠ 0 → ¬ (10 ≤ c ∧ c < 19) → (zI z 0 2 1).1 c = σ.1 c := fun c hc h => by rw [n c hc]; exact f1 c (by omega)
  refine ⟨_, _, _, rfl, by rw [o 1 (by omega) (by omega), g1.1, g2 0 (by decide)], ⟨G, g1.fr (fun k hk => o _ (by omega) (by omega)), by unfold zRow; rw [f2 1 (by omega) (by omega)]; exact g2, g3⟩, ?_, ?_, ?_, ?_, ?_⟩
  · refine ⟨by rw [zI_at, upd_at, w2], Or.inr ⟨w2, G, ⟨?_, ?_, fun q a hq ha => ?_⟩, fun i hi => by rw [wa i hi]; exact g2 i hi, g3⟩⟩
    · rw [n _ (by omega), v0]; exact g1.1
    · rw [n _ (by omega), v4]; exact g1.2.1
    · rw [n _ (by omega), va q a hq ha]; exact g1.2.2 q a hq ha
  · unfold zRt at h3 ⊢
    rw [o 26 (by omega) (by omega), o 27 (by omega) (by omega), w0 8 (by omega), f2 6 (by omega) (by omega)]
    exact h3
  · unfold zRp at h4 ⊢
    rw [o 32 (by omega) (by omega), o 33 (by omega) (by omega), w0 23 (by omega), f2 14 (by omega) (by omega)]
    exact h4
  · unfold zRl at h5 ⊢
    rw [o 35 (by omega) (by omega), o 36 (by omega) (by omega), f2 15 (by omega) (by omega), f2 16 (by omega) (by omega)]
    exact h5
  · unfold zRc at h6 ⊢
    rw [f2 9 (by omega) (by omega), f2 10 (by omega) (by omega)]
    exact h6
theorem step33 : zStep33 zR := fun σ τ hR => by
  obtain ⟨-, ⟨k1, k2⟩, h3, h4, h5, h6⟩ := id hR
  unfold fX6_undo fX7_undo
  rw [k1]
  rcases k2 with k2 | ⟨k2, K, q1, q2, q3⟩
  · rw [k2, if_pos rfl, if_pos rfl]
    exact sameR hR rfl rfl
  · rw [k2, if_neg i0, if_neg i0]
    obtain ⟨z, e1, f1, v0, v4, va⟩ := become_1_10 σ
    obtain ⟨τ1, e2, f2, wa⟩ := undo_M τ
    rw [e1, zb_mk, e2]
    refine ⟨_, _, _, rfl, by rw [v0, q1.1, q2 0 (by decide)], hR.scene (G := K) (fun c hc => f1 c (by omega)) ⟨fun c hc => f2 c (by omega), by rw [f2 0 (by omega)], by rw [f2 0 (by omega)], by rw [f2 0 (by omega)]⟩ ⟨⟨?_, ?_, fun q a hq ha => ?_⟩, fun i hi => by rw [wa i hi]; exact q2 i hi, q3⟩⟩
    · rw [v0]; exact q1.1
    · rw [v4]; exact q1.2.1
    · rw [va q a hq ha]; exact q1.2.2 q a hq ha
/-- sums of heights -/
def sumH (G : Nat → Nat) : Nat → Nat
  | 0 => 0
  | n + 1 => sumH G n + G (58 + 7 * n)
theorem sumH_le {G : Nat → Nat} (hI : zInv G) : ∀ n, n ≤ 6 → sumH G n ≤ 6 * n := by
  intro n
  induction n with
  | zero => intro _; exact Nat.le_refl 0
  | succ n ih => intro h; have := ih (by omega); have := in_hgt hI (t := n) (by omega); show sumH G n + G (58 + 7 * n) ≤ _; omega
theorem laid_C {σ : ZS} {G : Nat → Nat} (h : zScene σ.1 1 G) (hI : zInv G) : fX3_sheetsLaid σ = some (nI (sumH G (G 1)), σ) := by
  have b1 := hI.2.1
  unfold fX3_sheetsLaid fX3_sheetsLaid_4 fX3_sheetsLaid_4n
  refine zloop_rule (fun i s => s = (nI (sumH G i), nI i, σ) ∧ i ≤ G 1) (G 1) (fun o => o = some (nI (sumH G (G 1)), σ)) (fun i s h => h.2) ?_ zN 0 _ ⟨rfl, Nat.zero_le _⟩ (by unfold zN; omega)
  rintro f i s ⟨rfl, hi⟩
  unfold fX3_sheetsLaid_4b
  dsimp only
  rw [h.2.1]
  by_cases e : i = G 1
  · rw [e, if_pos (Int32.le_refl _)]; exact Or.inr rfl
  · refine Or.inl ⟨_, ?_, rfl, by omega⟩
    rw [if_neg (nI_ge (by omega) (by omega)), zin_t (by omega) (by omega), zg_tr, nI_cl (by omega), sc_hgt h (by omega), nI_add, show (1 : Int32) = nI 1 from rfl, nI_add]
    rfl
theorem laid_M {τ : ZS} {G : Nat → Nat} (h : zRow (τ.1 1) G) (hI : zInv G) : fX7_allLaid τ = some (nI (sumH G (G 1)), τ) := by
  have b1 := hI.2.1
  unfold fX7_allLaid fX7_allLaid_4 fX7_allLaid_4n
  refine zloop_rule (fun i s => s = (nI (sumH G i), nI i, τ) ∧ i ≤ G 1) (G 1) (fun o => o = some (nI (sumH G (G 1)), τ)) (fun i s h => h.2) ?_ zN 0 _ ⟨rfl, Nat.zero_le _⟩ (by unfold zN; omega)
  rintro f i s ⟨rfl, hi⟩
  unfold fX7_allLaid_4b
  dsimp only
  rw [show zin (1 : Int32) 133 = true from rfl, zg_tr, show ((1 : Int32)).toNatClampNeg = 1 from rfl, h 1 (by decide)]
  by_cases e : i = G 1
  · rw [e, if_pos (Int32.le_refl _)]; exact Or.inr rfl
  · refine Or.inl ⟨_, ?_, rfl, by omega⟩
    rw [if_neg (nI_ge (by omega) (by omega)), size_eq h (by omega), zb_mk, nI_add, show (1 : Int32) = nI 1 from rfl, nI_add]
    rfl
theorem step34 : zStep34 zR := fun σ τ y1 hR => by
  obtain ⟨⟨G, hg⟩, -, ⟨tn, T, t1, t2, t3, t4⟩, ⟨pn, p1, p2, p3, p4⟩, -⟩ := id hR
  have hS := hg.1
  have hI := hg.2.2
  unfold fX6_count fX7_count
  by_cases c0 : y1 = 0
  · rw [if_pos c0, if_pos c0, hS.1, show zin (0 : Int32) 133 = true from rfl, zg_tr, show ((0 : Int32)).toNatClampNeg = 0 from rfl, hg.2.1 0 (by decide)]
    exact sameR hR rfl rfl
  rw [if_neg c0, if_neg c0]
  by_cases c1 : y1 = 1
  · rw [if_pos c1, if_pos c1, hS.2.1, show zin (1 : Int32) 133 = true from rfl, zg_tr, show ((1 : Int32)).toNatClampNeg = 1 from rfl, hg.2.1 1 (by decide)]
    exact sameR hR rfl rfl
  rw [if_neg c1, if_neg c1]
  by_cases c2 : y1 = 2
  · rw [if_pos c2, if_pos c2, t2, t3]
    exact sameR hR rfl rfl
  rw [if_neg c2, if_neg c2]
  by_cases c3 : y1 = 3
  · rw [if_pos c3, if_pos c3, p2, p3]
    exact sameR hR rfl rfl
  rw [if_neg c3, if_neg c3]
  by_cases c4 : y1 = 4
  · rw [if_pos c4, if_pos c4, laid_C hS hI, laid_M hg.2.1 hI]
    exact sameR hR rfl rfl
  rw [if_neg c4, if_neg c4, show (5 : Int64) = lN 5 from rfl, show (7 : Int64) = lN 7 from rfl, show (3 : Int32) = nI 3 from rfl]
  by_cases hin : (5 : Int) ≤ y1.toInt ∧ y1.toInt ≤ 7
  · obtain ⟨v, hv, rfl⟩ : ∃ v : Nat, v < 8 ∧ y1 = nI v := vp_in_of (vp_in_iff.mpr ⟨by omega, by omega⟩) (by decide)
    rw [nI_toInt (by omega)] at hin
    rw [isIn_t (lo := 5) (by omega) (by omega) (by omega), show (5 : Int32) = nI 5 from rfl, nI_sub (by omega), within_t (by omega) (by omega)]
    simp only [zb_mk, if_neg i0]
    simp only [li, nI_mul, nI_add]
    rw [nI_sub (by omega), zin_t (by omega) (by omega), zin_t (by omega) (by omega), zg_tr, zg_tr, nI_cl (by omega), nI_cl (by omega), sc_wish hS (by omega), hg.2.1 _ (by omega), show 130 + v - 5 = 130 + (v - 5) by omega]
    exact sameR hR rfl rfl
  · rw [isInL_f (lo := 5) (hi := 7) (by omega) (by omega) hin]
    have hw : zin (y1 - 5) 3 = false := by
      rcases zin_or (y1 - 5) 3 (by omega) with ⟨k, hk, e⟩ | ⟨h, -⟩
      · exfalso
        have e2 : y1 = nI (k + 5) := by
          rw [← nI_add, ← e]
          show y1 = y1 - nI 5 + nI 5
          rw [Int32.sub_add_cancel]
        rw [e2, nI_toInt (by omega)] at hin
        omega
      · exact h
    rcases zin_or (y1 - 5) 3 (by omega) with ⟨k, hk, e⟩ | ⟨h, hx⟩
    · rw [e, zin_t (by omega) hk] at hw; cases hw
    · rw [within_f hx]
      exact sameR hR rfl rfl
