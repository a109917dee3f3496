/-- the class looks, then piles: what stands then -/
def zLit (σ σ2 : ZS) (G : Nat → Nat) (l : List Nat) : Prop := zFC σ σ2 ∧ zScene σ2.1 1 G ∧ zLk σ2 (G 0) (gLt G) ∧ zPl σ2 (gLt G) l
theorem look2 {σ : ZS} {G : Nat → Nat} (h : zScene σ.1 1 G) (hI : zInv G) : ∃ σ1, fX0_lookAtSheets σ = some ((), σ1) ∧ zFC σ σ1 ∧ zScene σ1.1 1 G ∧ zLk σ1 (G 0) (gLt G) := by
  obtain ⟨σ1, e1, f1, -, k1⟩ := look_eq h hI
  exact ⟨σ1, e1, fun c hc => f1 c (by omega), h.fr (fun k hk => f1 _ (by omega)), k1⟩
theorem pile2 {σ σ1 : ZS} {G : Nat → Nat} (hI : zInv G) (a : zFC σ σ1) (h : zScene σ1.1 1 G) (k : zLk σ1 (G 0) (gLt G)) {t : Nat} (ht : t < G 1) : ∃ σ2, fX0_pileStack (nI t) σ1 = some ((), σ2) ∧ zLit σ σ2 G (nPile G t 99 (G (58 + 7 * t))) ∧ fP σ1 σ2 := by
  obtain ⟨σ2, e2, f2, p2⟩ := pile_eq h hI k (fun s b hs hb => gLt_le hI hs hb) ht
  exact ⟨σ2, e2, ⟨a.tr f2.FC, h.fr (fun k hk => f2.1 _ (by omega)), fun s b hs hb => by rw [f2.1 20 (by decide)]; exact k s b hs hb, p2⟩, f2⟩
theorem pile_lt {G : Nat → Nat} (hI : zInv G) {t : Nat} (ht : t < G 1) (sk : Nat) : ∀ s ∈ nPile G t sk (G (58 + 7 * t)), ∀ b, b < 5 → gLt G s b ≤ 100 := fun s hs b hb => gLt_le hI (nPile_mem hI ht sk _ (Nat.le_refl _) s hs) hb
theorem pile_len {G : Nat → Nat} (hI : zInv G) {t : Nat} (ht : t < G 1) (sk : Nat) : (nPile G t sk (G (58 + 7 * t))).length ≤ 6 := Nat.le_trans (nPile_len G t sk _) (in_hgt hI (by have := hI.2.1; omega))
theorem co_le {G : Nat → Nat} {l : List Nat} (h : ∀ s ∈ l, ∀ b, b < 5 → gLt G s b ≤ 100) : ∀ b, b < 5 → nCo (gLt G) l b ≤ 100 ^ l.length := fun b hb => nCo_le (fun s hs => h s hs b hb)
set_option maxHeartbeats 1000000 in
theorem step11 : zStep11 zR := fun σ τ y1 y2 y3 hR => by
  obtain ⟨⟨G, hg⟩, -⟩ := id hR
  have hS := hg.1
  have hI := hg.2.2
  have b1 := hI.2.1
  unfold fX6_through fX7_through
  rcases zin_or y1 (G 1) (by omega) with ⟨t, ht, rfl⟩ | ⟨hz, hx⟩
  · rw [hasStack_t hS hI ht, isStack_t hg.2.1 hI ht]
    simp only [zb_mk, if_neg i0]
    rw [show (5 : Int32) = nI 5 from rfl]
    rcases zin_or y2 5 (by omega) with ⟨k, hk, rfl⟩ | ⟨hz, hx⟩
    · rw [within_t hk (by omega), isBand_t hk]
      simp only [zb_mk, if_neg i0]
      rw [show (2 : Int32) = nI 2 from rfl, show (1 : Int64) = lN 1 from rfl]
      rcases zin_or y3 2 (by omega) with ⟨v, hv, rfl⟩ | ⟨hz, hx⟩
      · rw [within_t hv (by omega), isInN_t hv (by omega)]
        simp only [zb_mk, if_neg i0]
        obtain ⟨σ1, e1, a1, s1, k1⟩ := look2 hS hI
        obtain ⟨σ2, e2, ⟨a2, s2, k2, p2⟩, -⟩ := pile2 hI a1 s1 k1 ht
        obtain ⟨τ1, e3, f3, p3⟩ := shines_eq hg.2.1 hI ht
        rw [e1, zb_mk, e2, zb_mk, e3, zb_mk, zin_t (by omega) hk, zg_tr, zg_tr, nI_cl (by omega), p2.1 k hk, p2.2.1, p3.1 k hk, p3.2]
        have hl := pile_len hI ht 99
        have h8 : 100 ^ (nPile G t 99 (G (58 + 7 * t))).length ≤ 1000000000000 := p100_le hl
        have hc := co_le (pile_lt hI ht 99) k hk
        obtain ⟨v2, q1, q2⟩ := part_both (a := nCo (gLt G) (nPile G t 99 (G (58 + 7 * t))) k) (b := 100 ^ (nPile G t 99 (G (58 + 7 * t))).length) (by omega) (p100_pos _) (by omega) (nI v) σ2 τ1
        rw [q1, q2]
        exact zAsk.R ⟨_, _, _, rfl, rfl, a2, f3.FM⟩ hR
      · rw [within_f hx, isInN_f (by omega) hz]
        exact sameR hR rfl rfl
    · rw [within_f hx, isBand_f hz]
      exact sameR hR rfl rfl
  · rw [hasStack_f hS hx, isStack_f hg.2.1 hI hz]
    exact sameR hR rfl rfl
set_option maxHeartbeats 1000000 in
theorem step12 : zStep12 zR := fun σ τ y1 y2 y3 y4 y5 hR => by
  obtain ⟨⟨G, hg⟩, -⟩ := id hR
  have hS := hg.1
  have hI := hg.2.2
  have b1 := hI.2.1
  unfold fX6_sees fX7_sees fX6_canSee
  rcases zin_or y1 (G 1) (by omega) with ⟨t, ht, rfl⟩ | ⟨hz, hx⟩
  · rw [hasStack_t hS hI ht, isStack_t hg.2.1 hI ht]
    simp only [zb_mk, if_neg i0]
    rw [show (3 : Int32) = nI 3 from rfl]
    rcases zin_or y2 3 (by omega) with ⟨la, hla, rfl⟩ | ⟨hz, hx⟩
    · rw [within_t hla (by omega), isLamp_t hla]
      simp only [zb_mk, if_neg i0]
      rw [show (11 : Int32) = nI 11 from rfl, show (10 : Int64) = lN 10 from rfl]
      rcases zin_or y3 11 (by omega) with ⟨n, hn, rfl⟩ | ⟨hz, hx⟩
      · rw [within_t hn (by omega), isInN_t hn (by omega)]
        simp only [zb_mk, if_neg i0]
        rw [show (2 : Int64) = lN 2 from rfl]
        rcases zin_or y4 3 (by omega) with ⟨ey, hey, rfl⟩ | ⟨hz, hx⟩
        · rw [within_t hey (by omega), isInN_t hey (by omega)]
          simp only [zb_mk, if_neg i0]
          rw [show (2 : Int32) = nI 2 from rfl, show (1 : Int64) = lN 1 from rfl]
          rcases zin_or y5 2 (by omega) with ⟨v, hv, rfl⟩ | ⟨hz, hx⟩
          · rw [within_t hv (by omega), isInN_t hv (by omega)]
            simp only [zb_mk, if_neg i0]
            obtain ⟨σ1, e1, a1, s1, k1⟩ := look2 hS hI
            obtain ⟨σ2, e2, ⟨a2, s2, k2, p2⟩, -⟩ := pile2 hI a1 s1 k1 ht
            obtain ⟨τ1, e3, f3, p3⟩ := shines_eq hg.2.1 hI ht
            have hg1 : zRow (τ1.1 1) G := by rw [f3.1]; exact hg.2.1
            rw [e1, zb_mk, e2, zb_mk, e3, zb_mk, seen_C s2 hI p2.1 hla hey (by omega), zb_mk, wba_eq p2.2.1 (by omega), zb_mk, seen_M hg1 hI p3.1 hla hey (by omega), zb_mk]
            have hl := pile_len hI ht 99
            obtain ⟨r1, r2, -⟩ := room_ok hI hla hey (show n ≤ 10 by omega) (co_le (pile_lt hI ht 99)) (by omega) (Or.inr hl)
            obtain ⟨v2, q1, q2⟩ := part_both r1 (nWh_pos (nPile G t 99 (G (58 + 7 * t))).length n) r2 (nI v) σ2 τ1
            rw [q1, zb_mk]
            unfold fX7_sees_87
            rw [p3.2, lN_mul]
            unfold nWh at q2
            by_cases h0 : n = 0
            · rw [if_pos h0] at q2
              rw [if_pos (show nI n = (0 : Int32) by rw [h0]; rfl), q2]
              exact zAsk.R ⟨_, _, _, rfl, rfl, a2, f3.FM⟩ hR
            · rw [if_neg h0] at q2
              rw [if_neg (show ¬ nI n = (0 : Int32) from fun e => h0 ((nI_eq_iff (b := 0) (by omega) (by omega)).mp e)), Nat.mul_comm 10, q2]
              exact zAsk.R ⟨_, _, _, rfl, rfl, a2, f3.FM⟩ hR
          · rw [within_f hx, isInN_f (by omega) hz]
            exact sameR hR rfl rfl
        · rw [within_f hx, isInN_f (by omega) hz]
          exact sameR hR rfl rfl
      · rw [within_f hx, isInN_f (by omega) hz]
        exact sameR hR rfl rfl
    · rw [within_f hx, isLamp_f hz]
      exact sameR hR rfl rfl
  · rw [hasStack_f hS hx, isStack_f hg.2.1 hI hz]
    exact sameR hR rfl rfl
set_option maxHeartbeats 1000000 in
theorem step13 : zStep13 zR := fun σ τ y1 y2 y3 y4 hR => by
  obtain ⟨⟨G, hg⟩, -⟩ := id hR
  have hS := hg.1
  have hI := hg.2.2
  have b1 := hI.2.1
  unfold fX6_shade fX7_shade fX6_canSee
  rcases zin_or y1 (G 1) (by omega) with ⟨t, ht, rfl⟩ | ⟨hz, hx⟩
  · rw [hasStack_t hS hI ht, isStack_t hg.2.1 hI ht]
    simp only [zb_mk, if_neg i0]
    rw [show (3 : Int32) = nI 3 from rfl]
    rcases zin_or y2 3 (by omega) with ⟨la, hla, rfl⟩ | ⟨hz, hx⟩
    · rw [within_t hla (by omega), isLamp_t hla]
      simp only [zb_mk, if_neg i0]
      rw [show (11 : Int32) = nI 11 from rfl, show (10 : Int64) = lN 10 from rfl]
      rcases zin_or y3 11 (by omega) with ⟨n, hn, rfl⟩ | ⟨hz, hx⟩
      · rw [within_t hn (by omega), isInN_t hn (by omega)]
        simp only [zb_mk, if_neg i0]
        rw [show (2 : Int64) = lN 2 from rfl]
        rcases zin_or y4 3 (by omega) with ⟨ey, hey, rfl⟩ | ⟨hz, hx⟩
        · rw [within_t hey (by omega), isInN_t hey (by omega)]
          simp only [zb_mk, if_neg i0]
          obtain ⟨σ1, e1, a1, s1, k1⟩ := look2 hS hI
          obtain ⟨σ2, e2, ⟨a2, s2, k2, p2⟩, -⟩ := pile2 hI a1 s1 k1 ht
          obtain ⟨τ1, e3, f3, p3⟩ := shines_eq hg.2.1 hI ht
          have hg1 : zRow (τ1.1 1) G := by rw [f3.1]; exact hg.2.1
          have hl := pile_len hI ht 99
          rw [e1, zb_mk, e2, zb_mk, e3, zb_mk, shade_C s2 hI p2 (pile_lt hI ht 99) hla hey (by omega) (by omega) (Or.inr hl), zb_mk, shade_M hg1 hI p3 (pile_lt hI ht 99) hla hey (by omega) (by omega) (Or.inr hl), zb_mk]
          exact zAsk.R ⟨_, _, _, rfl, rfl, a2, f3.FM⟩ hR
        · rw [within_f hx, isInN_f (by omega) hz]
          exact sameR hR rfl rfl
      · rw [within_f hx, isInN_f (by omega) hz]
        exact sameR hR rfl rfl
    · rw [within_f hx, isLamp_f hz]
      exact sameR hR rfl rfl
  · rw [hasStack_f hS hx, isStack_f hg.2.1 hI hz]
    exact sameR hR rfl rfl
