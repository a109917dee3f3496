set_option maxHeartbeats 1000000 in
theorem step3 : zStep3 zR := fun σ τ y1 y2 y3 hR => by
  obtain ⟨⟨G, hg⟩, -⟩ := id hR
  have hS := hg.1
  have hI := hg.2.2
  have b0 := hI.1
  unfold fX6_becomes fX7_becomes
  rcases zin_or y1 (G 0) (by omega) with ⟨j, hj, rfl⟩ | ⟨hz, hx⟩
  · rw [hasSheet_t hS hI hj, isSheet_t hg.2.1 hI hj]
    simp only [zb_mk, if_neg i0]
    rw [show (6 : Int32) = nI 6 from rfl, show (5 : Int64) = lN 5 from rfl]
    rcases zin_or y2 6 (by omega) with ⟨k, hk, rfl⟩ | ⟨hz, hx⟩
    · rw [within_t hk (by omega), isInN_t hk (by omega)]
      simp only [zb_mk, if_neg i0]
      rw [show (10 : Int32) = nI 10 from rfl, show (9 : Int64) = lN 9 from rfl]
      rcases zin_or y3 10 (by omega) with ⟨v, hv, rfl⟩ | ⟨hz, hx⟩
      · rw [within_t hv (by omega), isInN_t hv (by omega)]
        simp only [zb_mk, if_neg i0]
        rw [exch2 (by omega), zb_mk, exch3 (by omega), zb_mk]
        unfold fX7_kindOf fX7_figureOf
        simp only [li, nI_mul, nI_add]
        rw [zin_t (by omega) (by omega), zin_t (by omega) (by omega)]
        simp only [zg_tr, zb_mk]
        rw [nI_cl (by omega), nI_cl (by omega), zI_ne σ _ _ (show 3 ≠ 2 by decide)]
        have e1 : 2 + 7 * j + 1 = 3 + 7 * j := by omega
        rw [e1, sc_kind hS (by omega), sc_fig hS (by omega), hg.2.1 (2 + 7 * j) (by omega), hg.2.1 (3 + 7 * j) (by omega)]
        have h1 := zRg_put hg (q := 0) (a := j) (v := k) (by decide) (by decide) (by decide) (show j < 8 by omega) (show k ≤ 5 by omega)
        have h2 := zRg_put h1 (q := 1) (a := j) (v := v) (by decide) (by decide) (by decide) (show j < 8 by omega) (show v ≤ 9 by omega)
        exact ⟨_, _, _, rfl, rfl, hR.scene ((zFS_I (by omega)).tr (zFS_I (by omega))) (zFT_I.tr zFT_I) h2⟩
      · rw [within_f hx, isInN_f (by omega) hz]
        exact sameR hR rfl rfl
    · rw [within_f hx, isInN_f (by omega) hz]
      exact sameR hR rfl rfl
  · rw [hasSheet_f hS hx, isSheet_f hg.2.1 hI hz]
    exact sameR hR rfl rfl
set_option maxHeartbeats 1000000 in
theorem step9 : zStep9 zR := fun σ τ y1 y2 y3 hR => by
  obtain ⟨⟨G, hg⟩, -⟩ := id hR
  have hS := hg.1
  have hI := hg.2.2
  unfold fX6_power fX7_power
  rw [show (3 : Int32) = nI 3 from rfl]
  rcases zin_or y1 3 (by omega) with ⟨j, hj, rfl⟩ | ⟨hz, hx⟩
  · rw [within_t hj (by omega), isLamp_t hj]
    simp only [zb_mk, if_neg i0]
    rw [show (5 : Int32) = nI 5 from rfl]
    rcases zin_or y2 5 (by omega) with ⟨k, hk, rfl⟩ | ⟨hz, hx⟩
    · rw [within_t hk (by omega), isBand_t hk]
      simp only [zb_mk, if_neg i0]
      rw [show (10 : Int32) = nI 10 from rfl, show (9 : Int64) = lN 9 from rfl]
      rcases zin_or y3 10 (by omega) with ⟨v, hv, rfl⟩ | ⟨hz, hx⟩
      · rw [within_t hv (by omega), isInN_t hv (by omega)]
        simp only [zb_mk, if_neg i0]
        simp only [li, nI_mul, nI_add]
        rw [exch7 (by omega), zb_mk, zin_t (by omega) (by omega)]
        simp only [zg_tr]
        rw [nI_cl (by omega)]
        have e1 : j * 5 + k = 5 * j + k := by omega
        have e2 : 100 + 5 * j + k = 100 + (5 * j + k) := by omega
        rw [e1, e2, sc_pow hS (by omega), hg.2.1 (100 + (5 * j + k)) (by omega)]
        have h1 := zRg_put hg (q := 5) (a := 5 * j + k) (v := v) (by decide) (by decide) (by decide) (show 5 * j + k < 15 by omega) (show v ≤ 9 by omega)
        exact ⟨_, _, _, rfl, rfl, hR.scene (zFS_I (by omega)) zFT_I h1⟩
      · rw [within_f hx, isInN_f (by omega) hz]
        exact sameR hR rfl rfl
    · rw [within_f hx, isBand_f hz]
      exact sameR hR rfl rfl
  · rw [within_f hx, isLamp_f hz]
    exact sameR hR rfl rfl
set_option maxHeartbeats 1000000 in
theorem step10 : zStep10 zR := fun σ τ y1 y2 y3 hR => by
  obtain ⟨⟨G, hg⟩, -⟩ := id hR
  have hS := hg.1
  have hI := hg.2.2
  unfold fX6_weight fX7_weight
  rw [show (3 : Int32) = nI 3 from rfl, show (2 : Int64) = lN 2 from rfl]
  rcases zin_or y1 3 (by omega) with ⟨j, hj, rfl⟩ | ⟨hz, hx⟩
  · rw [within_t hj (by omega), isInN_t hj (by omega)]
    simp only [zb_mk, if_neg i0]
    rw [show (5 : Int32) = nI 5 from rfl]
    rcases zin_or y2 5 (by omega) with ⟨k, hk, rfl⟩ | ⟨hz, hx⟩
    · rw [within_t hk (by omega), isBand_t hk]
      simp only [zb_mk, if_neg i0]
      rw [show (10 : Int32) = nI 10 from rfl, show (9 : Int64) = lN 9 from rfl]
      rcases zin_or y3 10 (by omega) with ⟨v, hv, rfl⟩ | ⟨hz, hx⟩
      · rw [within_t hv (by omega), isInN_t hv (by omega)]
        simp only [zb_mk, if_neg i0]
        simp only [li, nI_mul, nI_add]
        rw [exch8 (by omega), zb_mk, zin_t (by omega) (by omega)]
        simp only [zg_tr]
        rw [nI_cl (by omega)]
        have e1 : j * 5 + k = 5 * j + k := by omega
        have e2 : 115 + 5 * j + k = 115 + (5 * j + k) := by omega
        rw [e1, e2, sc_wei hS (by omega), hg.2.1 (115 + (5 * j + k)) (by omega)]
        have h1 := zRg_put hg (q := 6) (a := 5 * j + k) (v := v) (by decide) (by decide) (by decide) (show 5 * j + k < 15 by omega) (show v ≤ 9 by omega)
        exact ⟨_, _, _, rfl, rfl, hR.scene (zFS_I (by omega)) zFT_I h1⟩
      · rw [within_f hx, isInN_f (by omega) hz]
        exact sameR hR rfl rfl
    · rw [within_f hx, isBand_f hz]
      exact sameR hR rfl rfl
  · rw [within_f hx, isInN_f (by omega) hz]
    exact sameR hR rfl rfl
set_option maxHeartbeats 1000000 in
theorem step17 : zStep17 zR := fun σ τ y1 y2 y3 hR => by
  obtain ⟨⟨G, hg⟩, -⟩ := id hR
  unfold fX6_wish fX7_wish
  rw [show (10000 : Int32) = nI 10000 from rfl, show (9999 : Int64) = lN 9999 from rfl]
  rcases zin_or y1 10000 (by omega) with ⟨u, hu, rfl⟩ | ⟨hz, hx⟩
  · rw [within_t hu (by omega), isInN_t hu (by omega)]
    simp only [zb_mk, if_neg i0]
    rcases zin_or y2 10000 (by omega) with ⟨v, hv, rfl⟩ | ⟨hz, hx⟩
    · rw [within_t hv (by omega), isInN_t hv (by omega)]
      simp only [zb_mk, if_neg i0]
      rcases zin_or y3 10000 (by omega) with ⟨w, hw, rfl⟩ | ⟨hz, hx⟩
      · rw [within_t hw (by omega), isInN_t hw (by omega)]
        have h1 := zRg_put hg (q := 7) (a := 0) (v := u) (by decide) (by decide) (by decide) (by decide) (show u ≤ 9999 by omega)
        have h2 := zRg_put h1 (q := 7) (a := 1) (v := v) (by decide) (by decide) (by decide) (by decide) (show v ≤ 9999 by omega)
        have h3 := zRg_put h2 (q := 7) (a := 2) (v := w) (by decide) (by decide) (by decide) (by decide) (show w ≤ 9999 by omega)
        exact ⟨_, _, _, rfl, rfl, hR.scene (((zFS_I (by omega)).tr (zFS_I (by omega))).tr (zFS_I (by omega))) ((zFT_I.tr zFT_I).tr zFT_I) h3⟩
      · rw [within_f hx, isInN_f (by omega) hz]
        exact sameR hR rfl rfl
    · rw [within_f hx, isInN_f (by omega) hz]
      exact sameR hR rfl rfl
  · rw [within_f hx, isInN_f (by omega) hz]
    exact sameR hR rfl rfl
/-- sizes, what is laid -/
theorem size_eq {τ : ZS} {G : Nat → Nat} (h : zRow (τ.1 1) G) {t : Nat} (ht : t < 6) : fX7_size (nI t) τ = some (nI (G (58 + 7 * t)), τ) := by
  unfold fX7_size
  simp only [li, nI_mul, nI_add]
  rw [zin_t (by omega) (by omega), zg_tr, nI_cl (by omega), h _ (by omega)]
theorem laid_eq {τ : ZS} {G : Nat → Nat} (h : zRow (τ.1 1) G) {t k : Nat} (ht : t < 6) (hk : k < 6) : fX7_laid (nI t) (nI k) τ = some (nI (G (59 + 7 * t + k)), τ) := by
  unfold fX7_laid
  simp only [li, nI_mul, nI_add]
  rw [zin_t (by omega) (by omega), zg_tr, nI_cl (by omega), show 58 + 7 * t + 1 + k = 59 + 7 * t + k by omega, h _ (by omega)]
theorem sheetAt_eq {σ : ZS} {G : Nat → Nat} (h : zScene σ.1 1 G) (hI : zInv G) {t k : Nat} (ht : t < G 1) (hk : k < 6) : fX3_sheetAt (nI t) (nI k) σ = some (nI (G (59 + 7 * t + k)), σ) := by
  have := hI.2.1
  unfold fX3_sheetAt
  rw [hasStack_t h hI ht]
  simp only [zb_mk, if_neg i0]
  rw [show (6 : Int32) = nI 6 from rfl, within_t hk (by omega)]
  simp only [zb_mk, if_neg i0]
  rw [nI_mul, nI_add, zin_t (by omega) (by omega), zg_tr, nI_cl (by omega), show t * 6 + k = 6 * t + k by omega, sc_laid h (by omega) hk]
set_option maxHeartbeats 1000000 in
theorem step8 : zStep8 zR := fun σ τ y1 y2 hR => by
  obtain ⟨⟨G, hg⟩, -⟩ := id hR
  have hS := hg.1
  have hI := hg.2.2
  have b1 := hI.2.1
  unfold fX6_at fX7_at
  rcases zin_or y1 (G 1) (by omega) with ⟨t, ht, rfl⟩ | ⟨hz, hx⟩
  · rw [hasStack_t hS hI ht, isStack_t hg.2.1 hI ht]
    simp only [zb_mk, if_neg i0]
    have hh := in_hgt hI (t := t) (by omega)
    rw [size_eq hg.2.1 (by omega), zb_mk, nI_cl (by omega), sc_hgt hS (by omega), zin_t (by omega) (by omega), zg_tr]
    simp only [zg_tr]
    by_cases hm : y2 = -1
    · subst hm
      rw [if_pos rfl, isIn_eq, if_pos, zb_mk, if_neg i0, if_neg (by decide), size_eq hg.2.1 (by omega)]
      · exact sameR hR rfl rfl
      · refine ⟨by decide, ?_⟩
        have e5 : (nI (G (58 + 7 * t)) - 1).toInt = (G (58 + 7 * t) : Int) - 1 := by rw [show (1 : Int32) = nI 1 from rfl, pk_sub_toInt (by omega) (by omega)]; rfl
        rw [Int64.le_iff_toInt_le, wide_toInt, wide_toInt, e5]
        have : (-1 : Int32).toInt = -1 := rfl
        omega
    · rw [if_neg hm]
      rcases zin_or y2 (G (58 + 7 * t)) (by omega) with ⟨k, hk, rfl⟩ | ⟨hz, hx⟩
      · rw [within_t hk (by omega)]
        simp only [zb_mk, if_neg i0]
        rw [sheetAt_eq hS hI ht (by omega), isIn_eq, if_pos, zb_mk, zb_mk, if_neg i0, if_pos (nI_pos' (by omega)), laid_eq hg.2.1 (by omega) (by omega)]
        · exact sameR hR rfl rfl
        · refine ⟨?_, ?_⟩
          · rw [Int64.le_iff_toInt_le, wide_toInt, nI_toInt (by omega)]
            have : (-1 : Int64).toInt = -1 := rfl
            omega
          · rw [Int64.le_iff_toInt_le, wide_toInt, wide_toInt, show (1 : Int32) = nI 1 from rfl, pk_sub_toInt (by omega) (by omega), nI_toInt (by omega)]
            omega
      · rw [within_f hx, isIn_eq, if_neg]
        · exact sameR hR rfl rfl
        · intro q
          have q1 := Int64.le_iff_toInt_le.mp q.1
          have q2 := Int64.le_iff_toInt_le.mp q.2
          rw [wide_toInt] at q1
          rw [wide_toInt, wide_toInt, show (1 : Int32) = nI 1 from rfl, pk_sub_toInt (by omega) (by omega)] at q2
          have e1 : (-1 : Int64).toInt = -1 := rfl
          have h3 := zin_false hz
          have h4 : y2.toInt ≠ -1 := fun e => hm (Int32.toInt_inj.mp (by rw [e]; rfl))
          omega
  · rw [hasStack_f hS hx, isStack_f hg.2.1 hI hz]
    exact sameR hR rfl rfl
/-- on one stack: its height -/
theorem zRg_hgt {σ τ : ZS} {G : Nat → Nat} (h : zRg σ τ G) {t v : Nat} (ht : t < 6) (hv : v ≤ 6) (hst : t < G 1 → ∀ k, k < v → G (59 + 7 * t + k) < G 0) : zRg (zI σ 5 t (nI v)) (zI τ 1 (58 + 7 * t) (nI v)) (zG G (58 + 7 * t) v) := by
  refine zRg_putS h (q := 3) (a := t) (by decide) ht hv (fun t' k' h1 h2 => ?_)
  have hI := h.2.2
  have b1 := hI.2.1
  rw [pl3] at h1 h2 ⊢
  rw [zG_ne _ _ (by omega)] at h1
  rw [zG_ne G (i := 0) _ (by omega)]
  by_cases e : t' = t
  · subst e
    rw [zG_at] at h2
    rw [zG_ne _ _ (by omega)]
    exact hst h1 k' h2
  · rw [zG_ne _ _ (by omega)] at h2
    have := in_hgt hI (t := t') (by omega)
    rw [zG_ne _ _ (by omega)]
    exact hI.2.2.2 t' k' h1 h2
/-- on one stack: a place above its height, or one that holds a sheet -/
theorem zRg_laid {σ τ : ZS} {G : Nat → Nat} (h : zRg σ τ G) {t k v : Nat} (ht : t < 6) (hk : k < 6) (hv : v ≤ 7) (hst : t < G 1 → k < G (58 + 7 * t) → v < G 0) : zRg (zI σ 6 (6 * t + k) (nI v)) (zI τ 1 (59 + 7 * t + k) (nI v)) (zG G (59 + 7 * t + k) v) := by
  have := zRg_putS h (q := 4) (a := 6 * t + k) (v := v) (by decide) (show 6 * t + k < 36 by omega) hv (fun t' k' h1 h2 => ?_)
  · rw [pl4 hk] at this; exact this
  have hI := h.2.2
  have b1 := hI.2.1
  rw [pl4 hk] at h1 h2 ⊢
  rw [zG_ne _ _ (by omega)] at h1
  rw [zG_ne _ _ (by omega)] at h2
  rw [zG_ne G (i := 0) _ (by omega)]
  have := in_hgt hI (t := t') (by omega)
  by_cases e : t' = t ∧ k' = k
  · obtain ⟨rfl, rfl⟩ := e
    rw [zG_at]
    exact hst h1 h2
  · rw [zG_ne _ _ (by omega)]
    exact hI.2.2.2 t' k' h1 h2
set_option maxHeartbeats 1000000 in
theorem step7 : zStep7 zR := fun σ τ y1 hR => by
  obtain ⟨⟨G, hg⟩, -⟩ := id hR
  have hS := hg.1
  have hI := hg.2.2
  have b1 := hI.2.1
  unfold fX6_take fX7_take
  rcases zin_or y1 (G 1) (by omega) with ⟨t, ht, rfl⟩ | ⟨hz, hx⟩
  · rw [hasStack_t hS hI ht, isStack_t hg.2.1 hI ht]
    simp only [zb_mk, if_neg i0]
    have hh := in_hgt hI (t := t) (by omega)
    rw [size_eq hg.2.1 (by omega), zb_mk, nI_cl (by omega), zin_t (by omega) (by omega)]
    simp only [zg_tr, zI_at, upd_at]
    rw [sc_hgt hS (by omega)]
    by_cases h0 : G (58 + 7 * t) = 0
    · rw [h0, if_neg (by decide), if_pos (show nI 0 = 0 from rfl)]
      exact sameR hR rfl rfl
    · rw [if_pos (show (0 : Int32) < nI (G (58 + 7 * t)) from (nI_lt_iff (a := 0) (by omega) (by omega)).mpr (by omega)), if_neg (nI_ne0 (by omega) (by omega))]
      simp only [li, nI_mul, nI_add]
      rw [nI_sub (by omega), zin_t (by omega) (by omega)]
      simp only [zg_tr]
      rw [nI_cl (by omega), hg.2.1 (58 + 7 * t) (by omega), nI_sub (by omega)]
      have h1 := zRg_hgt hg (t := t) (v := G (58 + 7 * t) - 1) (by omega) (by omega) (fun h2 k hk => hI.2.2.2 t k h2 (by omega))
      have hG1 : zG G (58 + 7 * t) (G (58 + 7 * t) - 1) 1 = G 1 := zG_ne _ _ (by omega)
      rw [sheetAt_eq h1.1 h1.2.2 (by rw [hG1]; exact ht) (by omega), zb_mk, size_eq h1.2.1 (by omega), zb_mk, zG_at, laid_eq h1.2.1 (by omega) (by omega), zb_mk]
      exact ⟨_, _, _, rfl, rfl, hR.scene (zFS_I (by omega)) zFT_I h1⟩
  · rw [hasStack_f hS hx, isStack_f hg.2.1 hI hz]
    exact sameR hR rfl rfl
set_option maxHeartbeats 1000000 in
theorem layOn_eq {σ τ : ZS} {G : Nat → Nat} (hg : zRg σ τ G) {t v : Nat} (ht : t < G 1) (hv : v < G 0) (h6 : G (58 + 7 * t) < 6) : ∃ σ1 τ1 G1, fX3_layOn (nI t) (nI v) σ = some (1, σ1) ∧ τ1 = zI (zI τ 1 (59 + 7 * t + G (58 + 7 * t)) (nI v)) 1 (58 + 7 * t) (nI (G (58 + 7 * t) + 1)) ∧ zRg σ1 τ1 G1 ∧ zFS σ σ1 ∧ zFT τ τ1 ∧ G1 0 = G 0 ∧ G1 1 = G 1 ∧ G1 (58 + 7 * t) = G (58 + 7 * t) + 1 := by
  have hS := hg.1
  have hI := hg.2.2
  have b1 := hI.2.1
  have b0 := hI.1
  have h1 := zRg_laid hg (t := t) (k := G (58 + 7 * t)) (v := v) (by omega) h6 (by omega) (fun _ h => absurd h (Nat.lt_irrefl _))
  have e1 : zG G (59 + 7 * t + G (58 + 7 * t)) v (58 + 7 * t) = G (58 + 7 * t) := zG_ne _ _ (by omega)
  have e2 : zG G (59 + 7 * t + G (58 + 7 * t)) v 1 = G 1 := zG_ne _ _ (by omega)
  have e3 : zG G (59 + 7 * t + G (58 + 7 * t)) v 0 = G 0 := zG_ne _ _ (by omega)
  have h2 := zRg_hgt h1 (t := t) (v := G (58 + 7 * t) + 1) (by omega) (by omega) (fun _ k hk => by
    rw [e3]
    by_cases e : k = G (58 + 7 * t)
    · subst e; rw [zG_at]; exact hv
    · rw [zG_ne _ _ (by omega)]; exact hI.2.2.2 t k ht (by omega))
  refine ⟨_, _, _, ?_, rfl, h2, (zFS_I (by omega)).tr (zFS_I (by omega)), zFT_I.tr zFT_I, ?_, ?_, zG_at _ _ _⟩
  · unfold fX3_layOn
    rw [hasStack_t hS hI ht]
    simp only [zb_mk, if_neg i0]
    rw [nI_cl (by omega), zin_t (by omega) (by omega), sc_hgt hS (by omega)]
    simp only [zg_tr, li, nI_mul, nI_add]
    rw [if_pos ((nI_lt_iff (by omega) (by omega)).mpr h6), zin_t (by omega) (by omega)]
    simp only [zg_tr]
    rw [nI_cl (by omega), zI_ne σ _ _ (show 5 ≠ 6 by decide), sc_hgt hS (by omega), nI_add, show t * 6 + G (58 + 7 * t) = 6 * t + G (58 + 7 * t) by omega]
  · rw [zG_ne _ _ (by omega)]; exact e3
  · rw [zG_ne _ _ (by omega)]; exact e2
set_option maxHeartbeats 1000000 in
theorem step6 : zStep6 zR := fun σ τ y1 y2 hR => by
  obtain ⟨⟨G, hg⟩, -⟩ := id hR
  have hS := hg.1
  have hI := hg.2.2
  have b1 := hI.2.1
  have b0 := hI.1
  unfold fX6_lay fX7_lay
  rcases zin_or y1 (G 1) (by omega) with ⟨t, ht, rfl⟩ | ⟨hz, hx⟩
  · rw [hasStack_t hS hI ht, isStack_t hg.2.1 hI ht]
    simp only [zb_mk, if_neg i0]
    rcases zin_or y2 (G 0) (by omega) with ⟨v, hv, rfl⟩ | ⟨hz, hx⟩
    · rw [hasSheet_t hS hI hv, isSheet_t hg.2.1 hI hv]
      simp only [zb_mk, if_neg i0]
      have hh := in_hgt hI (t := t) (by omega)
      rw [size_eq hg.2.1 (by omega), zb_mk]
      by_cases h6 : G (58 + 7 * t) < 6
      · obtain ⟨σ1, τ1, G1, e1, e2, h1, f1, f2, g0, g1, g2⟩ := layOn_eq hg ht hv h6
        rw [e1, zb_mk, if_neg i0, zin_t (by omega) (by omega), zg_tr, nI_cl (by omega)]
        have hs1 := sc_hgt h1.1 (t := t) (by omega)
        rw [g2] at hs1
        rw [hs1, if_neg (show ¬ nI (G (58 + 7 * t)) = (6 : Int32) from fun e => absurd ((nI_eq_iff (a := G (58 + 7 * t)) (b := 6) (by omega) (by omega)).mp e) (by omega))]
        rw [size_eq hg.2.1 (by omega), zb_mk]
        simp only [li, nI_mul, nI_add]
        rw [zin_t (by omega) (by omega), zin_t (by omega) (by omega)]
        simp only [zg_tr]
        rw [nI_cl (by omega), nI_cl (by omega), show 58 + 7 * t + 1 + G (58 + 7 * t) = 59 + 7 * t + G (58 + 7 * t) by omega]
        rw [zI_at, upd_ne _ _ (show 58 + 7 * t ≠ 59 + 7 * t + G (58 + 7 * t) by omega), hg.2.1 (58 + 7 * t) (by omega), nI_add, ← e2]
        rw [size_eq h1.2.1 (by omega), zb_mk, g2]
        exact ⟨_, _, _, rfl, rfl, hR.scene f1 f2 h1⟩
      · have h66 : G (58 + 7 * t) = 6 := by omega
        rw [h66, if_pos (show nI 6 = 6 from rfl)]
        have e1 : fX3_layOn (nI t) (nI v) σ = some (0, σ) := by
          unfold fX3_layOn
          rw [hasStack_t hS hI ht]
          simp only [zb_mk, if_neg i0]
          rw [nI_cl (by omega), zin_t (by omega) (by omega), sc_hgt hS (by omega), h66]
          rfl
        rw [e1]
        exact sameR hR rfl rfl
    · rw [hasSheet_f hS hx, isSheet_f hg.2.1 hI hz]
      exact sameR hR rfl rfl
  · rw [hasStack_f hS hx, isStack_f hg.2.1 hI hz]
    exact sameR hR rfl rfl
