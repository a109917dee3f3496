/-- the lists -/
theorem held_t {σ τ : ZS} (hl : zRl σ τ) {l : Nat} (h : l < 4) : (σ.1 36 l = -1 ∧ τ.1 16 l = -1 ∧ fX1_isHeld (nI l) σ = some (0, σ)) ∨ ∃ n : Nat, n ≤ 18 ∧ σ.1 36 l = nI n ∧ τ.1 16 l = nI n ∧ fX1_isHeld (nI l) σ = some (1, σ) ∧ ∀ i, i < n → σ.1 35 (18 * l + i) = τ.1 15 (18 * l + i) := by
  rcases hl l h with ⟨h1, h2⟩ | ⟨n, hn, h1, h2, h3⟩
  · refine Or.inl ⟨h1, h2, ?_⟩
    unfold fX1_isHeld
    rw [show (4 : Int32) = nI 4 from rfl, within_t h (by omega), zb_mk, if_neg i0, zin_t (by omega) h, zg_tr, nI_cl (by omega), h1]
    rfl
  · refine Or.inr ⟨n, hn, h1, h2, ?_, h3⟩
    unfold fX1_isHeld
    rw [show (4 : Int32) = nI 4 from rfl, within_t h (by omega), zb_mk, if_neg i0, zin_t (by omega) h, zg_tr, nI_cl (by omega), h1, if_neg (nI_pos (by omega))]
theorem hasPlace_t {σ : ZS} {l n i : Nat} (h : l < 4) (hn : n ≤ 18) (e : σ.1 36 l = nI n) (hh : fX1_isHeld (nI l) σ = some (1, σ)) (hi : i < n) : fX1_hasPlace (nI l) (nI i) σ = some (1, σ) := by
  unfold fX1_hasPlace
  rw [hh, zb_mk, if_neg i0, zin_t (by omega) h, zg_tr, nI_cl (by omega), e, within_t hi (by omega), zb_mk, if_neg i0, show (18 : Int32) = nI 18 from rfl, if_neg (nI_ge (by omega) (by omega))]
theorem hasPlace_f {σ : ZS} {l n : Nat} {x : Int32} (h : l < 4) (e : σ.1 36 l = nI n) (hh : fX1_isHeld (nI l) σ = some (1, σ)) (hx : x < 0 ∨ (¬ x < 0 ∧ nI n ≤ x)) : fX1_hasPlace (nI l) x σ = some (0, σ) := by
  unfold fX1_hasPlace
  rw [hh, zb_mk, if_neg i0, zin_t (by omega) h, zg_tr, nI_cl (by omega), e, within_f hx, zb_mk, if_pos rfl]
theorem hasPlace_n {σ : ZS} {l : Nat} {x : Int32} (hh : fX1_isHeld (nI l) σ = some (0, σ)) : fX1_hasPlace (nI l) x σ = some (0, σ) := by
  unfold fX1_hasPlace
  rw [hh, zb_mk, if_pos rfl]
theorem valueAt_t {σ : ZS} {l n i : Nat} (h : l < 4) (hn : n ≤ 18) (e : σ.1 36 l = nI n) (hh : fX1_isHeld (nI l) σ = some (1, σ)) (hi : i < n) : fX1_valueAt (nI l) (nI i) σ = some (σ.1 35 (18 * l + i), σ) := by
  unfold fX1_valueAt
  rw [hasPlace_t h hn e hh hi, zb_mk, if_neg i0, show (18 : Int32) = nI 18 from rfl, nI_mul, nI_add, zin_t (by omega) (by omega), zg_tr, nI_cl (by omega), show l * 18 + i = 18 * l + i by omega]
theorem m1_neg : ¬ ((0 : Int32) ≤ -1) := by decide
theorem isInM1 {x : Int32} (s : ZS) : fX7_isIn x.toInt64 0 ((-1 : Int32) - 1).toInt64 s = some (0, s) := by
  rw [isIn_eq, if_neg]
  intro q
  have h := Int64.le_trans q.1 q.2
  exact absurd h (by decide)
theorem step31 : zStep31 zR := fun σ τ y1 y2 hR => by
  have hl := hR.2.2.2.2.1
  unfold fX6_get fX7_get
  rw [show (4 : Int32) = nI 4 from rfl]
  rcases zin_or y1 4 (by omega) with ⟨l, h, rfl⟩ | ⟨hz, hx⟩
  · rw [within_t h (by omega), isList_t h]
    simp only [zb_mk, if_neg i0]
    rw [zin_t (by omega) h]
    simp only [zg_tr]
    rw [nI_cl (by omega)]
    rcases held_t hl h with ⟨h1, h2, h3⟩ | ⟨n, hn, h1, h2, h3, h4⟩
    · rw [hasPlace_n h3, h2, isInM1]
      exact sameR hR rfl rfl
    · rcases zin_or y2 n (by omega) with ⟨i, hi, rfl⟩ | ⟨hz, hx⟩
      · rw [hasPlace_t h hn h1 h3 hi, h2, isIn0_t (by omega) hi]
        simp only [zb_mk, if_neg i0]
        rw [valueAt_t h hn h1 h3 hi, zb_mk, h4 i hi]
        simp only [li, nI_mul, nI_add]
        rw [zin_t (by omega) (by omega), zg_tr, nI_cl (by omega)]
        exact sameR hR rfl rfl
      · rw [hasPlace_f h h1 h3 hx, h2, isIn0_f (by omega) hz]
        exact sameR hR rfl rfl
  · rw [within_f hx, isList_f hz]
    exact sameR hR rfl rfl
/-- only the lists change -/
theorem zR.lists {σ τ σ1 τ1 : ZS} (hR : zR σ τ) (a : ∀ c, c ≠ 35 → c ≠ 36 → σ1.1 c = σ.1 c) (b : ∀ c, c ≠ 15 → c ≠ 16 → τ1.1 c = τ.1 c) (hl : zRl σ1 τ1) : zR σ1 τ1 := by
  obtain ⟨⟨G, g1, g2, g3⟩, h2, h3, h4, -, h6⟩ := hR
  refine ⟨⟨G, g1.fr (fun k hk => a _ (by omega) (by omega)), by unfold zRow; rw [b 1 (by omega) (by omega)]; exact g2, g3⟩, ?_, ?_, ?_, hl, ?_⟩
  · obtain ⟨h1, h2⟩ := h2
    refine ⟨by rw [a 0 (by omega) (by omega), b 0 (by omega) (by omega)]; exact h1, ?_⟩
    rw [b 0 (by omega) (by omega)]
    refine h2.imp id (fun h => ⟨h.1, ?_⟩)
    obtain ⟨K, k1, k2, k3⟩ := h.2
    exact ⟨K, k1.fr (fun k hk => a _ (by omega) (by omega)), by unfold zRow; rw [b 2 (by omega) (by omega)]; exact k2, k3⟩
  · unfold zRt at h3 ⊢
    rw [a 26 (by omega) (by omega), a 27 (by omega) (by omega), b 0 (by omega) (by omega), b 6 (by omega) (by omega)]
    exact h3
  · unfold zRp at h4 ⊢
    rw [a 32 (by omega) (by omega), a 33 (by omega) (by omega), b 0 (by omega) (by omega), b 14 (by omega) (by omega)]
    exact h4
  · unfold zRc at h6 ⊢
    rw [b 9 (by omega) (by omega), b 10 (by omega) (by omega)]
    exact h6
theorem step30 : zStep30 zR := fun σ τ y1 y2 y3 hR => by
  have hl := hR.2.2.2.2.1
  unfold fX6_put fX7_put
  rw [show (4 : Int32) = nI 4 from rfl]
  rcases zin_or y1 4 (by omega) with ⟨l, h, rfl⟩ | ⟨hz, hx⟩
  · rw [within_t h (by omega), isList_t h]
    simp only [zb_mk, if_neg i0]
    rw [zin_t (by omega) h]
    simp only [zg_tr]
    rw [nI_cl (by omega)]
    rcases held_t hl h with ⟨h1, h2, h3⟩ | ⟨n, hn, h1, h2, h3, h4⟩
    · rw [h3, h2, if_neg m1_neg]
      exact sameR hR rfl rfl
    · rw [h3, h2, if_pos (show (0 : Int32) ≤ nI n from nI_pos' (by omega))]
      simp only [zb_mk, if_neg i0]
      rcases zin_or y2 n (by omega) with ⟨i, hi, rfl⟩ | ⟨hz, hx⟩
      · rw [hasPlace_t h hn h1 h3 hi, isIn0_t (by omega) hi]
        simp only [zb_mk, if_neg i0]
        simp only [li, nI_mul, nI_add]
        rw [zin_t (by omega) (by omega), zin_t (by omega) (by omega)]
        simp only [zg_tr]
        rw [nI_cl (by omega), nI_cl (by omega), show l * 18 + i = 18 * l + i by omega]
        refine ⟨_, _, _, rfl, rfl, hR.lists (fun c h1 _ => zI_ne σ _ _ h1) (fun c h1 _ => zI_ne τ _ _ h1) (fun k hk => ?_)⟩
        rw [zI_ne σ _ _ (show 36 ≠ 35 by decide), zI_ne τ _ _ (show 16 ≠ 15 by decide), zI_at, zI_at]
        rcases hl k hk with q | ⟨m, q1, q2, q3, q4⟩
        · exact Or.inl q
        · refine Or.inr ⟨m, q1, q2, q3, fun z hz => ?_⟩
          by_cases e : 18 * k + z = 18 * l + i
          · rw [e, upd_at, upd_at]
          · rw [upd_ne _ _ e, upd_ne _ _ e]; exact q4 z hz
      · rw [hasPlace_f h h1 h3 hx, isIn0_f (by omega) hz]
        exact sameR hR rfl rfl
  · rw [within_f hx, isList_f hz]
    exact sameR hR rfl rfl
/-- paper(i) -/
theorem step26 : zStep26 zR := fun σ τ y1 hR => by
  obtain ⟨n, hn, h1, h2, h3⟩ := id hR.2.2.2.1
  unfold fX6_paper fX7_paper
  rw [h1, h2]
  rcases zin_or y1 n (by omega) with ⟨i, hi, rfl⟩ | ⟨hz, hx⟩
  · rw [within_t hi (by omega), isIn0_t (by omega) hi]
    simp only [zb_mk, if_neg i0]
    rw [zin_t (by omega) (by omega), zin_t (by omega) (by omega), zg_tr, zg_tr, nI_cl (by omega), h3 i hi]
    exact sameR hR rfl rfl
  · rw [within_f hx, isIn0_f (by omega) hz]
    exact sameR hR rfl rfl
/-- feed -/
theorem step0 : zStep0 zR := fun σ τ y1 hR => by
  obtain ⟨n, T, hn, h1, h2, h3⟩ := id hR.2.2.1
  unfold fX6_feed fX7_feed fX4_append
  rw [show (1 : Int64) = lN 1 from rfl, show (127 : Int64) = lN 127 from rfl]
  by_cases hin : (1 : Int) ≤ y1.toInt ∧ y1.toInt ≤ 127
  · obtain ⟨v, hv, rfl⟩ : ∃ v : Nat, v < 128 ∧ y1 = nI v := vp_in_of (vp_in_iff.mpr ⟨by omega, by omega⟩) (by decide)
    rw [nI_toInt (by omega)] at hin
    rw [if_neg (show ¬ nI v < (1 : Int32) from nI_nlt (b := 1) (by omega) (by omega)), if_pos (show nI v ≤ (127 : Int32) from nI_le (b := 127) (by omega) (by omega)), isIn_t (lo := 1) (by omega) (by omega) (by omega)]
    simp only [zb_mk, if_neg i0]
    rw [h1, h2]
    by_cases h80 : n = 80
    · subst h80
      rw [if_pos (show nI 80 = 80 from rfl), if_neg (show ¬ nI 80 < (80 : Int32) by decide)]
      exact sameR hR rfl rfl
    · rw [if_pos (show nI n < (80 : Int32) from (nI_lt_iff (b := 80) (by omega) (by omega)).mpr (by omega)), if_neg (show ¬ nI n = (80 : Int32) from fun e => h80 ((nI_eq_iff (b := 80) (by omega) (by omega)).mp e)), zin_t (by omega) (by omega)]
      simp only [zg_tr, zb_mk, if_neg i0]
      rw [nI_cl (by omega), zI_at, upd_at, zI_at, upd_at, zI_ne σ _ _ (show 26 ≠ 27 by decide), zI_ne τ _ _ (show 0 ≠ 6 by decide), h1, h2]
      have fC : ∀ c, c ≠ 26 → c ≠ 27 → (zI (zI σ 27 n (nI v)) 26 1 (nI n + 1)).1 c = σ.1 c := fun c a b => by rw [zI_ne _ _ _ a, zI_ne _ _ _ b]
      have fM : ∀ c, c ≠ 0 → c ≠ 6 → (zI (zI τ 6 n (nI v)) 0 8 (nI n + 1)).1 c = τ.1 c := fun c a b => by rw [zI_ne _ _ _ a, zI_ne _ _ _ b]
      have f0 : ∀ k, k ≠ 8 → (zI (zI τ 6 n (nI v)) 0 8 (nI n + 1)).1 0 k = τ.1 0 k := fun k a => by rw [zI_at, upd_ne _ _ a, zI_ne _ _ _ (by decide)]
      refine ⟨_, _, _, rfl, rfl, ?_⟩
      obtain ⟨⟨G, g1, g2, g3⟩, k, t, p, l, c⟩ := hR
      refine ⟨⟨G, g1.fr (fun k hk => fC _ (by omega) (by omega)), by unfold zRow; rw [fM 1 (by omega) (by omega)]; exact g2, g3⟩, ?_, ?_, ?_, ?_, ?_⟩
      · obtain ⟨k1, k2⟩ := k
        refine ⟨by rw [fC 0 (by omega) (by omega), f0 2 (by omega)]; exact k1, ?_⟩
        rw [f0 2 (by omega)]
        refine k2.imp id (fun h => ⟨h.1, ?_⟩)
        obtain ⟨K, q1, q2, q3⟩ := h.2
        exact ⟨K, q1.fr (fun k hk => fC _ (by omega) (by omega)), by unfold zRow; rw [fM 2 (by omega) (by omega)]; exact q2, q3⟩
      · refine ⟨n + 1, fun i => if i = n then v else T i, by omega, ?_, ?_, ?_⟩
        · rw [zI_at, upd_at]; exact nI_1 n
        · rw [zI_at, upd_at]; exact nI_1 n
        · intro i hi
          rw [zI_ne _ _ _ (show 27 ≠ 26 by decide), zI_at, zI_ne _ _ _ (show 6 ≠ 0 by decide), zI_at]
          by_cases e : i = n
          · subst e
            rw [upd_at, upd_at]
            simp only [if_pos]
            exact ⟨by omega, by omega, trivial, trivial⟩
          · rw [upd_ne _ _ e, upd_ne _ _ e]
            simp only [if_neg e]
            exact h3 i (by omega)
      · unfold zRp at p ⊢
        rw [fC 32 (by omega) (by omega), fC 33 (by omega) (by omega), f0 23 (by omega), fM 14 (by omega) (by omega)]
        exact p
      · unfold zRl at l ⊢
        rw [fC 35 (by omega) (by omega), fC 36 (by omega) (by omega), fM 15 (by omega) (by omega), fM 16 (by omega) (by omega)]
        exact l
      · unfold zRc at c ⊢
        rw [fM 9 (by omega) (by omega), fM 10 (by omega) (by omega)]
        exact c
  · rw [isInL_f (by omega) (by omega) (by exact hin)]
    by_cases hlt : y1 < 1
    · rw [if_pos hlt]; exact sameR hR rfl rfl
    · rw [if_neg hlt, if_neg]
      · exact sameR hR rfl rfl
      · intro q
        have q1 := Int32.le_iff_toInt_le.mp q
        have q2 := Int32.le_iff_toInt_le.mp (Int32.not_lt.mp hlt)
        have e1 : (127 : Int32).toInt = 127 := rfl
        have e2 : (1 : Int32).toInt = 1 := rfl
        exact hin ⟨by omega, by omega⟩
