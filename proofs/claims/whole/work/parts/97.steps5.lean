theorem clear_C {σ : ZS} {l n : Nat} (hl : l < 4) (hn : n ≤ 18) : ∃ τ : ZS, fX1_clearTo (nI l) (nI n) σ = some ((), τ) ∧ (∀ c, c ≠ 35 → c ≠ 36 → τ.1 c = σ.1 c) ∧ τ.1 36 = upd (σ.1 36) l (nI n) ∧ (∀ z, z < n → τ.1 35 (18 * l + z) = 0) ∧ ∀ k, (k < 18 * l ∨ 18 * l + 18 ≤ k) → τ.1 35 k = σ.1 35 k := by
  unfold fX1_clearTo
  rw [show (4 : Int32) = nI 4 from rfl, within_t hl (by omega), zb_mk, if_neg i0, if_neg (nI_pos (by omega)), if_pos (show nI n ≤ (18 : Int32) from nI_le (b := 18) (by omega) (by omega))]
  unfold fX1_clearTo_21 fX1_clearTo_21n
  refine zloop_rule (fun i s => ∃ s1 : ZS, s = (nI l, nI n, nI i, s1) ∧ i ≤ n ∧ (∀ c, c ≠ 35 → s1.1 c = σ.1 c) ∧ (∀ z, z < i → s1.1 35 (18 * l + z) = 0) ∧ ∀ k, (k < 18 * l ∨ 18 * l + 18 ≤ k) → s1.1 35 k = σ.1 35 k) n (fun o => ∃ τ : ZS, o = some ((), τ) ∧ (∀ c, c ≠ 35 → c ≠ 36 → τ.1 c = σ.1 c) ∧ τ.1 36 = upd (σ.1 36) l (nI n) ∧ (∀ z, z < n → τ.1 35 (18 * l + z) = 0) ∧ ∀ k, (k < 18 * l ∨ 18 * l + 18 ≤ k) → τ.1 35 k = σ.1 35 k) (fun i s h => h.choose_spec.2.1) ?_ zN 0 _ ⟨σ, rfl, Nat.zero_le _, fun _ _ => rfl, fun z h => absurd h (Nat.not_lt_zero z), fun _ _ => rfl⟩ (by unfold zN; omega)
  rintro f i s ⟨s1, rfl, h1, h2, h3, h4⟩
  unfold fX1_clearTo_21b
  dsimp only
  by_cases hi : i = n
  · subst hi
    rw [if_pos (Int32.le_refl _), zin_t (by omega) hl, zg_tr, nI_cl (by omega)]
    refine Or.inr ⟨_, rfl, fun c a b => by rw [zI_ne _ _ _ b]; exact h2 c a, by rw [zI_at, h2 36 (by decide)], fun z hz => by rw [zI_ne _ _ _ (show 35 ≠ 36 by decide)]; exact h3 z hz, fun k hk => by rw [zI_ne _ _ _ (show 35 ≠ 36 by decide)]; exact h4 k hk⟩
  · refine Or.inl ?_
    rw [if_neg (nI_ge (by omega) (by omega))]
    simp only [li, nI_mul, nI_add]
    rw [zin_t (by omega) (by omega), zg_tr, nI_cl (by omega)]
    refine ⟨_, rfl, zI s1 35 (l * 18 + i) (nI 0), rfl, by omega, fun c hc => by rw [zI_ne _ _ _ hc]; exact h2 c hc, fun z hz => ?_, fun k hk => ?_⟩
    · rw [zI_at]
      by_cases e : z = i
      · subst e; rw [show l * 18 + z = 18 * l + z by omega, upd_at]
      · rw [upd_ne _ _ (by omega)]; exact h3 z (by omega)
    · rw [zI_at, upd_ne _ _ (by omega)]; exact h4 k hk
theorem list_M {τ : ZS} {l n : Nat} (hl : l < 4) (hn : n ≤ 18) : ∃ τ1 : ZS, fX7_list (nI l) (nI n) τ = some (1, τ1) ∧ (∀ c, c ≠ 15 → c ≠ 16 → τ1.1 c = τ.1 c) ∧ τ1.1 16 = upd (τ.1 16) l (nI n) ∧ (∀ z, z < 18 → τ1.1 15 (18 * l + z) = 0) ∧ ∀ k, (k < 18 * l ∨ 18 * l + 18 ≤ k) → τ1.1 15 k = τ.1 15 k := by
  unfold fX7_list
  rw [isList_t hl, zb_mk, if_neg i0, if_pos (show nI n ≤ (18 : Int32) from nI_le (b := 18) (by omega) (by omega)), if_pos (nI_pos' (by omega)), zin_t (by omega) hl, zg_tr, nI_cl (by omega)]
  unfold fX7_list_34 fX7_list_34n
  refine zloop_rule (fun i s => ∃ s1 : ZS, s = (nI l, nI i, s1) ∧ i ≤ 18 ∧ (∀ c, c ≠ 15 → s1.1 c = (zI τ 16 l (nI n)).1 c) ∧ (∀ z, z < i → s1.1 15 (18 * l + z) = 0) ∧ ∀ k, (k < 18 * l ∨ 18 * l + 18 ≤ k) → s1.1 15 k = τ.1 15 k) 18 (fun o => ∃ τ1 : ZS, o = some (1, τ1) ∧ (∀ c, c ≠ 15 → c ≠ 16 → τ1.1 c = τ.1 c) ∧ τ1.1 16 = upd (τ.1 16) l (nI n) ∧ (∀ z, z < 18 → τ1.1 15 (18 * l + z) = 0) ∧ ∀ k, (k < 18 * l ∨ 18 * l + 18 ≤ k) → τ1.1 15 k = τ.1 15 k) (fun i s h => h.choose_spec.2.1) ?_ zN 0 _ ⟨zI τ 16 l (nI n), rfl, Nat.zero_le _, fun _ _ => rfl, fun z h => absurd h (Nat.not_lt_zero z), fun _ _ => by rw [zI_ne _ _ _ (show 15 ≠ 16 by decide)]⟩ (by unfold zN; omega)
  rintro f i s ⟨s1, rfl, h1, h2, h3, h4⟩
  unfold fX7_list_34b
  dsimp only
  by_cases hi : i = 18
  · subst hi
    rw [if_pos (show (18 : Int32) ≤ nI 18 from Int32.le_refl _)]
    exact Or.inr ⟨s1, rfl, fun c a b => by rw [h2 c a, zI_ne _ _ _ b], by rw [h2 16 (by decide), zI_at], h3, h4⟩
  · refine Or.inl ?_
    rw [if_neg (show ¬ (18 : Int32) ≤ nI i from nI_ge (b := 18) (by omega) (by omega))]
    simp only [li, nI_mul, nI_add]
    rw [zin_t (by omega) (by omega), zg_tr, nI_cl (by omega)]
    refine ⟨_, rfl, zI s1 15 (18 * l + i) (nI 0), rfl, by omega, fun c hc => by rw [zI_ne _ _ _ hc]; exact h2 c hc, fun z hz => ?_, fun k hk => ?_⟩
    · rw [zI_at]
      by_cases e : z = i
      · subst e; rw [upd_at]
      · rw [upd_ne _ _ (by omega)]; exact h3 z (by omega)
    · rw [zI_at, upd_ne _ _ (by omega)]; exact h4 k hk
theorem step29 : zStep29 zR := fun σ τ y1 y2 hR => by
  have hl := hR.2.2.2.2.1
  unfold fX6_list
  rw [show (4 : Int32) = nI 4 from rfl]
  rcases zin_or y1 4 (by omega) with ⟨l, h, rfl⟩ | ⟨hz, hx⟩
  · rw [within_t h (by omega)]
    simp only [zb_mk, if_neg i0]
    rcases zin_or y2 19 (by omega) with ⟨n, hn, rfl⟩ | ⟨hz, hx⟩
    · rw [if_pos (show nI n ≤ (18 : Int32) from nI_le (b := 18) (by omega) (by omega)), if_pos (nI_pos' (by omega))]
      obtain ⟨σ1, e1, f1, v1, w1, u1⟩ := clear_C (σ := σ) h (show n ≤ 18 by omega)
      obtain ⟨τ1, e2, f2, v2, w2, u2⟩ := list_M (τ := τ) h (show n ≤ 18 by omega)
      rw [e1, zb_mk, e2]
      refine ⟨_, _, _, rfl, rfl, hR.lists f1 f2 (fun k hk => ?_)⟩
      rw [v1, v2]
      by_cases e : k = l
      · subst e
        rw [upd_at, upd_at]
        exact Or.inr ⟨n, by omega, rfl, rfl, fun z hz => by rw [w1 z hz, w2 z (by omega)]⟩
      · rw [upd_ne _ _ e, upd_ne _ _ e]
        rcases hl k hk with q | ⟨m, q1, q2, q3, q4⟩
        · exact Or.inl q
        · exact Or.inr ⟨m, q1, q2, q3, fun z hz => by rw [u1 _ (by omega), u2 _ (by omega)]; exact q4 z hz⟩
    · unfold fX7_list
      rw [isList_t h]
      simp only [zb_mk, if_neg i0]
      rcases hx with hx | ⟨hx, hx2⟩
      · have h1 := Int32.lt_iff_toInt_lt.mp hx
        have e0 : (0 : Int32).toInt = 0 := rfl
        rw [if_pos (show y2 ≤ 18 from Int32.le_iff_toInt_le.mpr (by have : (18 : Int32).toInt = 18 := rfl; omega)), if_neg (Int32.not_le.mpr hx), if_pos (show y2 ≤ 18 from Int32.le_iff_toInt_le.mpr (by have : (18 : Int32).toInt = 18 := rfl; omega)), if_neg (Int32.not_le.mpr hx)]
        exact sameR hR rfl rfl
      · have h1 := Int32.le_iff_toInt_le.mp hx2
        rw [nI_toInt (by omega)] at h1
        rw [if_neg (show ¬ y2 ≤ 18 from fun q => by have := Int32.le_iff_toInt_le.mp q; have : (18 : Int32).toInt = 18 := rfl; omega), if_neg (show ¬ y2 ≤ 18 from fun q => by have := Int32.le_iff_toInt_le.mp q; have : (18 : Int32).toInt = 18 := rfl; omega)]
        exact sameR hR rfl rfl
  · unfold fX7_list
    rw [within_f hx, isList_f hz]
    exact sameR hR rfl rfl
theorem step28 : zStep28 zR := fun σ τ y1 hR => by
  have hl := hR.2.2.2.2.1
  unfold fX6_change fX7_change
  rw [show (4 : Int32) = nI 4 from rfl]
  rcases zin_or y1 4 (by omega) with ⟨l, h, rfl⟩ | ⟨hz, hx⟩
  · rw [within_t h (by omega), isList_t h]
    simp only [zb_mk, if_neg i0]
    rw [zin_t (by omega) h, zg_tr, nI_cl (by omega)]
    rcases held_t hl h with ⟨h1, h2, h3⟩ | ⟨n, hn, h1, h2, h3, h4⟩
    · rw [h3, h2, if_neg m1_neg]
      exact sameR hR rfl rfl
    · rw [h3, h2, if_pos (show (0 : Int32) ≤ nI n from nI_pos' (by omega))]
      simp only [zb_mk, if_neg i0]
      unfold fX6_change_28 fX7_change_25 fX6_change_28n fX7_change_25n
      refine zloop2 (fun i s t => ∃ (σ1 τ1 : ZS) (d : Int32), s = (nI l, d, nI (3 * i), σ1) ∧ t = (nI l, d, nI (3 * i), τ1) ∧ 3 * i ≤ n ∧ zR σ1 τ1 ∧ σ1.1 36 = σ.1 36 ∧ σ1.1 35 = σ.1 35 ∧ τ1.1 16 = τ.1 16 ∧ τ1.1 15 = τ.1 15) 6 (fun o o' => ∃ (r : Int32) (σ1 τ1 : ZS), o = some (r, σ1) ∧ o' = some (r, τ1) ∧ zR σ1 τ1) (fun i s t h => by obtain ⟨_, _, _, _, _, h, _⟩ := h; omega) ?_ zN 0 _ _ ⟨σ, τ, 0, rfl, rfl, Nat.zero_le _, hR, rfl, rfl, rfl, rfl⟩ (by unfold zN; omega)
      rintro f g i s t ⟨σ1, τ1, d, rfl, rfl, hi, hR1, k1, k2, k3, k4⟩
      unfold fX6_change_28b fX7_change_25b
      dsimp only
      rw [zin_t (by omega) h, zg_tr, zg_tr, nI_cl (by omega), k1, k3, h1, h2]
      simp only [li, nI_mul, nI_add]
      by_cases hc : 3 * i + 3 ≤ n
      · have hh : fX1_isHeld (nI l) σ1 = some (1, σ1) := by
          unfold fX1_isHeld
          rw [show (4 : Int32) = nI 4 from rfl, within_t h (by omega), zb_mk, if_neg i0, zin_t (by omega) h, zg_tr, nI_cl (by omega), k1, h1, if_neg (nI_pos (by omega))]
        have e36 : σ1.1 36 l = nI n := by rw [k1]; exact h1
        rw [if_neg (nI_nlt (by omega) (by omega)), if_neg (nI_ge (by omega) (by omega)), valueAt_t h hn e36 hh (by omega), zb_mk, valueAt_t h hn e36 hh (by omega), zb_mk, valueAt_t h hn e36 hh (by omega), zb_mk]
        rw [zin_t (by omega) (by omega), zin_t (by omega) (by omega), zin_t (by omega) (by omega)]
        simp only [zg_tr]
        rw [nI_cl (by omega), nI_cl (by omega), nI_cl (by omega), k2, k4, h4 _ (by omega), h4 _ (by omega), h4 _ (by omega), show 18 * l + (3 * i + 1) = 18 * l + 3 * i + 1 by omega, show 18 * l + (3 * i + 2) = 18 * l + 3 * i + 2 by omega]
        obtain ⟨r, σ2, τ2, e1, e2, hR2, fC, fM⟩ := number_both hR1 (τ.1 15 (18 * l + 3 * i)) (τ.1 15 (18 * l + 3 * i + 1)) (τ.1 15 (18 * l + 3 * i + 2))
        rw [e1, e2, zb_mk, zb_mk]
        refine Or.inl ?_
        simp only [show nI 0 = (0 : Int32) from rfl]
        by_cases hr : r < 0
        · rw [if_pos hr, if_pos hr]
          unfold fX6_change_88 fX7_change_83
          refine ⟨_, _, rfl, rfl, σ2, τ2, d, ?_, ?_, by omega, hR2, ?_, ?_, ?_, ?_⟩
          · simp only [li, nI_add]; rfl
          · show (nI l, d + (0 : Int32), nI (3 * i) + nI 3, τ2) = _; rw [Int32.add_zero, nI_add]; rfl
          · rw [fC 36 (by decide)]; exact k1
          · rw [fC 35 (by decide)]; exact k2
          · rw [fM 16 (by decide)]; exact k3
          · rw [fM 15 (by decide)]; exact k4
        · rw [if_neg hr, if_neg hr]
          unfold fX6_change_88 fX7_change_83
          refine ⟨_, _, rfl, rfl, σ2, τ2, d + nI 1, ?_, ?_, by omega, hR2, ?_, ?_, ?_, ?_⟩
          · simp only [li, nI_add]; rfl
          · simp only [li, nI_add]; rfl
          · rw [fC 36 (by decide)]; exact k1
          · rw [fC 35 (by decide)]; exact k2
          · rw [fM 16 (by decide)]; exact k3
          · rw [fM 15 (by decide)]; exact k4
      · rw [if_pos (nI_lt (by omega) (by omega)), if_pos (nI_le (by omega) (by omega))]
        exact Or.inr ⟨d, σ1, τ1, rfl, rfl, hR1⟩
  · rw [within_f hx, isList_f hz]
    exact sameR hR rfl rfl
