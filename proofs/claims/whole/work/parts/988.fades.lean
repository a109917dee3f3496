/-- fades -/
theorem fades_in {t1 : ZS} {G : Nat → Nat} {l : List Nat} (h : zRow (t1.1 1) G) (hI : zInv G) (hp : zPM t1 (gLt G) l) (hlt : ∀ s ∈ l, ∀ b, b < 5 → gLt G s b ≤ 100) {la n : Nat} (hl : la < 3) (hn : n ≤ 10) (hlen : l.length ≤ 6) {a : Nat → Nat} (ha : ∀ e, e < 3 → t1.1 4 e = nI (a e) ∧ a e ≤ 405) (k29 : Int32 → Int32 → ZS → Option (Int32 × ZS)) : fX7_fades_38 k29 (nI la) (nI n) 0 t1 = if nDf a (nS G (gLt G) l la n) 3 = 0 then k29 (nI la) (nI (n + 1)) t1 else some (nI n, t1) := by
  unfold fX7_fades_38 fX7_fades_38n
  refine zloop_rule (fun i st => st = (nI la, nI n, nI i, t1) ∧ i ≤ 3 ∧ ∀ e, e < i → a e = nS G (gLt G) l la n e) 3 (fun o => o = if nDf a (nS G (gLt G) l la n) 3 = 0 then k29 (nI la) (nI (n + 1)) t1 else some (nI n, t1)) (fun i s h => h.2.1) ?_ zN 0 _ ⟨rfl, Nat.zero_le _, fun k h => absurd h (Nat.not_lt_zero k)⟩ (by unfold zN; omega)
  rintro f i st ⟨rfl, hi, hk⟩
  unfold fX7_fades_38b
  dsimp only
  by_cases e : i = 3
  · subst e
    rw [if_pos (show (3 : Int32) ≤ nI 3 from Int32.le_refl _), if_pos ((nDf_zero 3).mpr hk), show nI n + 1 = nI (n + 1) from nI_add n 1]
    exact Or.inr rfl
  · have hle := nS_le hI hlt hl (show i < 3 by omega) hn (show l.length ≤ 8 by omega) (Or.inr hlen)
    have ha2 := ha i (by omega)
    rw [if_neg (show ¬ (3 : Int32) ≤ nI i from nI_ge (b := 3) (by omega) (by omega)), shade_M h hI hp hlt hl (show i < 3 by omega) hn (by omega) (Or.inr hlen), zb_mk, zin_t (by omega) (by omega), zg_tr, nI_cl (by omega), ha2.1]
    show (∃ s', (if nI (nS G (gLt G) l la n i) = nI (a i) then _ else _) = f s' ∧ _) ∨ (if nI (nS G (gLt G) l la n i) = nI (a i) then _ else _) = _
    by_cases h0 : nS G (gLt G) l la n i = a i
    · rw [if_pos (congrArg nI h0), show nI i + 1 = nI (i + 1) from nI_add i 1]
      refine Or.inl ⟨_, rfl, rfl, by omega, fun k hk2 => ?_⟩
      by_cases ek : k = i
      · subst ek; exact h0.symm
      · exact hk k (by omega)
    · rw [if_neg (fun q => h0 ((nI_eq_iff (by omega) (by omega)).mp q)), if_neg (fun q => h0 ((nDf_zero 3).mp q i (by omega)).symm)]
      exact Or.inr rfl
set_option maxHeartbeats 1000000 in
theorem fades_both {σ τ σ1 τ1 : ZS} {G : Nat → Nat} (hI : zInv G) (c : zCs σ σ1 G) (d : zMs τ τ1 G) {t la : Nat} (ht : t < G 1) (hl : la < 3) (p : zPl σ1 (gLt G) (sPl G t)) (q : zPM τ1 (gLt G) (sPl G t)) {a : Nat → Nat} (ha : ∀ e, e < 3 → a e ≤ 405) (h37 : ∀ e, e < 3 → σ1.1 37 e = nI (a e)) (h4 : ∀ e, e < 3 → τ1.1 4 e = nI (a e)) : ∃ (r : Int32) (σ2 τ2 : ZS), fX6_fades_51 (nI la) 1 σ1 = some (r, σ2) ∧ fX7_fades_29 (nI la) 1 τ1 = some (r, τ2) ∧ zCs σ σ2 G ∧ zMs τ τ2 G := by
  have hlen : (sPl G t).length ≤ 6 := pile_len hI ht 99
  have hlt := pile_lt hI ht 99
  unfold fX6_fades_51 fX6_fades_51n fX7_fades_29 fX7_fades_29n
  refine zloop2 (fun k st st' => ∃ s1 : ZS, st = (nI la, nI k, s1) ∧ st' = (nI la, nI k, τ1) ∧ 1 ≤ k ∧ k ≤ 11 ∧ zCs σ s1 G ∧ zPl s1 (gLt G) (sPl G t) ∧ ∀ e, e < 3 → s1.1 37 e = nI (a e)) 11 (fun o o' => ∃ (r : Int32) (σ2 τ2 : ZS), o = some (r, σ2) ∧ o' = some (r, τ2) ∧ zCs σ σ2 G ∧ zMs τ τ2 G) (fun i s s' h => by obtain ⟨_, _, _, _, h, _⟩ := h; exact h) ?_ zN 1 _ _ ⟨σ1, rfl, rfl, Nat.le_refl _, by omega, c, p, h37⟩ (by unfold zN; omega)
  rintro f g k st st' ⟨s1, rfl, rfl, hk0, hk, cs, ps, h7⟩
  unfold fX6_fades_51b fX7_fades_29b
  dsimp only
  rw [show (10 : Int32) = nI 10 from rfl]
  by_cases e : k = 11
  · rw [if_pos (show nI 10 < nI k from (nI_lt_iff (by omega) (by omega)).mpr (by omega)), if_pos (show nI 10 < nI k from (nI_lt_iff (by omega) (by omega)).mpr (by omega))]
    exact Or.inr ⟨_, _, _, rfl, rfl, cs, d⟩
  · rw [if_neg (show ¬ nI 10 < nI k from fun e2 => absurd ((nI_lt_iff (by omega) (by omega)).mp e2) (by omega)), if_neg (show ¬ nI 10 < nI k from fun e2 => absurd ((nI_lt_iff (by omega) (by omega)).mp e2) (by omega))]
    obtain ⟨s2, e2, f1, f2, v2⟩ := shades_38 cs.2.1 hI ps hlt hl (show k ≤ 10 by omega) (show (sPl G t).length ≤ 8 by omega) (Or.inr hlen)
    have hb : ∀ e, e < 3 → nS G (gLt G) (sPl G t) la k e ≤ 405 := fun e he => nS_le hI hlt hl he (show k ≤ 10 by omega) (show (sPl G t).length ≤ 8 by omega) (Or.inr hlen)
    have hd := nDf_le (a := a) (b := nS G (gLt G) (sPl G t) la k) (m := 405) 3 (fun e he => ⟨ha e he, hb e he⟩)
    rw [e2, zb_mk, diff_37 (a := a) (b := nS G (gLt G) (sPl G t) la k) (fun e he => ⟨by rw [f2 37 (by decide)]; exact h7 e he, by have := ha e he; omega⟩) (fun e he => ⟨v2 e he, by have := hb e he; omega⟩), zb_mk, fades_in d.2 hI q hlt hl (show k ≤ 10 by omega) hlen (fun e he => ⟨h4 e he, ha e he⟩)]
    have c2 := cs.one f2 (by decide)
    by_cases h0 : nDf a (nS G (gLt G) (sPl G t) la k) 3 = 0
    · rw [if_pos h0, if_pos (show nI (nDf a (nS G (gLt G) (sPl G t) la k) 3) ≤ (0 : Int32) by rw [h0]; exact Int32.le_refl _), show nI k + 1 = nI (k + 1) from nI_add k 1]
      exact Or.inl ⟨_, _, rfl, rfl, s2, rfl, rfl, by omega, by omega, c2, ps.fr f1 (f2 19 (by decide)), fun e he => by rw [f2 37 (by decide)]; exact h7 e he⟩
    · rw [if_neg h0, if_neg (show ¬ nI (nDf a (nS G (gLt G) (sPl G t) la k) 3) ≤ (0 : Int32) from nI_ge (b := _) (a := 0) (by omega) (by omega))]
      exact Or.inr ⟨_, _, _, rfl, rfl, c2, d⟩
set_option maxHeartbeats 1000000 in
theorem step22 : zStep22 zR := fun σ τ y1 y2 hR => by
  obtain ⟨⟨G, hg⟩, -⟩ := id hR
  have hS := hg.1
  have hI := hg.2.2
  have b1 := hI.2.1
  unfold fX6_fades fX7_fades
  rcases zin_or y1 (G 1) (by omega) with ⟨t, ht, rfl⟩ | ⟨hz, hx⟩
  · rw [hasStack_t hS hI ht, isStack_t hg.2.1 hI ht]
    simp only [zb_mk, if_neg i0]
    rw [show (3 : Int32) = nI 3 from rfl]
    rcases zin_or y2 3 (by omega) with ⟨la, hla, rfl⟩ | ⟨hz, hx⟩
    · rw [within_t hla (by omega), isLamp_t hla]
      simp only [zb_mk, if_neg i0]
      have hlen : (sPl G t).length ≤ 6 := pile_len hI ht 99
      have hlt := pile_lt hI ht 99
      obtain ⟨σ1, e1, c1⟩ := look3 hS hI
      obtain ⟨σ2, e2, c2, p2, -⟩ := pile3 hI c1 ht
      obtain ⟨τ1, e3, c3, p3, -⟩ := shines3 hI (zMs.rf hg.2.1) ht
      obtain ⟨σ3, e4, f1, f2, v2⟩ := shades_37 c2.2.1 hI p2 hlt hla (show 0 ≤ 10 by decide) (show (sPl G t).length ≤ 8 by omega) (Or.inl rfl)
      obtain ⟨τ3, e5, g1, g2, w2⟩ := shades_M c3.2 hI p3 hlt hla (show 0 ≤ 10 by decide) (show (sPl G t).length ≤ 8 by omega) (Or.inl rfl) rfl
      rw [e1, zb_mk, e2, zb_mk, e3, zb_mk, show fX0_shadesInto_19_37 (nI la) 0 σ2 = fX0_shadesInto_19_37 (nI la) (nI 0) σ2 from rfl, e4, zb_mk, e5, zb_mk]
      obtain ⟨r, σ4, τ4, e6, e7, c4, m4⟩ := fades_both hI (c2.one f2 (by decide)) (c3.one g2 (by decide)) ht hla (p2.fr f1 (f2 19 (by decide))) (p3.fr g1) (fun e he => nS_le hI hlt hla he (show 0 ≤ 10 by decide) (show (sPl G t).length ≤ 8 by omega) (Or.inl rfl)) v2 w2
      exact zAsk.R ⟨r, σ4, τ4, e6, e7, c4.1, m4.1⟩ hR
    · rw [within_f hx, isLamp_f hz]
      exact sameR hR rfl rfl
  · rw [hasStack_f hS hx, isStack_f hg.2.1 hI hz]
    exact sameR hR rfl rfl
/-- without one sheet -/
def wPl (G : Nat → Nat) (t i : Nat) : List Nat := nPile G t i (G (58 + 7 * t))
def wD (G : Nat → Nat) (t la i : Nat) (a : Nat → Nat) : Nat := nDf (nS G (gLt G) (wPl G t i) la 0) a 3
set_option maxHeartbeats 1000000 in
theorem missed_in {τ t0 : ZS} {G : Nat → Nat} (hI : zInv G) (c : zMs τ t0 G) {t la i : Nat} (ht : t < G 1) (hl : la < 3) (hi : i < 6) (hp : zPM t0 (gLt G) []) {a : Nat → Nat} (ha : ∀ e, e < 3 → t0.1 5 e = nI (a e) ∧ a e ≤ 405) (x3 x4 x5 : Int32) (k23 : Int32 → Int32 → Int32 → Int32 → Int32 → Int32 → ZS → Option (Int32 × ZS)) : ∃ t2, fX7_missed_40 k23 (nI t) (nI la) x3 x4 x5 (nI i) 0 t0 = (if x5 < nI (wD G t la i a) then k23 (nI t) (nI la) x3 (nI i) (nI (wD G t la i a)) (nI (i + 1)) t2 else k23 (nI t) (nI la) x3 x4 x5 (nI (i + 1)) t2) ∧ zMs τ t2 G ∧ ∀ e, e < 3 → t2.1 5 e = nI (a e) := by
  have b1 := hI.2.1
  have h6 := in_hgt hI (show t < 6 by omega)
  unfold fX7_missed_40 fX7_missed_40n
  refine zloop_rule (fun k st => ∃ s1 : ZS, st = (nI t, nI la, x3, x4, x5, nI i, nI k, s1) ∧ k ≤ G (58 + 7 * t) ∧ zMs τ s1 G ∧ zPM s1 (gLt G) (nPile G t i k) ∧ ∀ e, e < 3 → s1.1 5 e = nI (a e)) 6 (fun o => ∃ t2, o = (if x5 < nI (wD G t la i a) then k23 (nI t) (nI la) x3 (nI i) (nI (wD G t la i a)) (nI (i + 1)) t2 else k23 (nI t) (nI la) x3 x4 x5 (nI (i + 1)) t2) ∧ zMs τ t2 G ∧ ∀ e, e < 3 → t2.1 5 e = nI (a e)) (fun k s h => by have := h.choose_spec.2.1; omega) ?_ zN 0 _ ⟨t0, rfl, Nat.zero_le _, c, hp, fun e he => (ha e he).1⟩ (by unfold zN; omega)
  rintro f k st ⟨s1, rfl, hk, cs, ps, h5⟩
  unfold fX7_missed_40b
  dsimp only
  rw [size_eq cs.2 (show t < 6 by omega), zb_mk]
  by_cases e : k = G (58 + 7 * t)
  · have hlen : (wPl G t i).length ≤ 6 := pile_len hI ht i
    have hlt : ∀ s ∈ wPl G t i, ∀ b, b < 5 → gLt G s b ≤ 100 := pile_lt hI ht i
    have hb : ∀ e, e < 3 → nS G (gLt G) (wPl G t i) la 0 e ≤ 405 := fun e he => nS_le hI hlt hl he (show 0 ≤ 10 by decide) (show (wPl G t i).length ≤ 8 by omega) (Or.inl rfl)
    have ps2 : zPM s1 (gLt G) (wPl G t i) := by unfold wPl; rw [← e]; exact ps
    obtain ⟨s2, e2, f1, f2, v2⟩ := shades_M cs.2 hI ps2 hlt hl (show 0 ≤ 10 by decide) (show (wPl G t i).length ≤ 8 by omega) (Or.inl rfl) rfl
    rw [if_pos (by rw [e]; exact Int32.le_refl _), e2, zb_mk]
    simp only [show zin (0 : Int32) 3 = true from rfl, show zin (1 : Int32) 3 = true from rfl, show zin (2 : Int32) 3 = true from rfl, zg_tr, show (0 : Int32).toNatClampNeg = 0 from rfl, show (1 : Int32).toNatClampNeg = 1 from rfl, show (2 : Int32).toNatClampNeg = 2 from rfl]
    have g5 : ∀ e, e < 3 → s2.1 5 e = nI (a e) := fun e he => by rw [f2 5 (by decide)]; exact h5 e he
    have r0 := ha 0 (by decide)
    have r1 := ha 1 (by decide)
    have r2 := ha 2 (by decide)
    have q0 := hb 0 (by decide)
    have q1 := hb 1 (by decide)
    have q2 := hb 2 (by decide)
    rw [v2 0 (by decide), g5 0 (by decide), apart_eq (by omega) (by omega), zb_mk, v2 1 (by decide), g5 1 (by decide), apart_eq (by omega) (by omega), zb_mk, v2 2 (by decide), g5 2 (by decide), apart_eq (by omega) (by omega), zb_mk, nI_add, nI_add]
    have ed : nAb (nS G (gLt G) (wPl G t i) la 0 0) (a 0) + nAb (nS G (gLt G) (wPl G t i) la 0 1) (a 1) + nAb (nS G (gLt G) (wPl G t i) la 0 2) (a 2) = wD G t la i a := by
      show _ = 0 + _ + _ + _
      rw [Nat.zero_add]
    rw [ed]
    unfold fX7_missed_149
    rw [show nI i + 1 = nI (i + 1) from nI_add i 1]
    exact Or.inr ⟨s2, rfl, cs.one f2 (by decide), g5⟩
  · have hk6 : k < 6 := by omega
    unfold fX7_missed_68
    rw [if_neg (show ¬ nI (G (58 + 7 * t)) ≤ nI k from nI_ge (by omega) (by omega)), show nI k + 1 = nI (k + 1) from nI_add k 1]
    by_cases ek : k = i
    · rw [if_pos (by rw [ek])]
      refine Or.inl ⟨_, rfl, s1, rfl, by omega, cs, ?_, h5⟩
      show zPM s1 (gLt G) (if k = i then nPile G t i k else _)
      rw [if_pos ek]; exact ps
    · rw [if_neg (show ¬ nI k = nI i from fun q => ek ((nI_eq_iff (by omega) (by omega)).mp q)), laid_eq cs.2 (show t < 6 by omega) hk6, zb_mk]
      have hs8 : G (59 + 7 * t + k) < 8 := by have := hI.2.2.2 t k ht (by omega); have := hI.1; omega
      obtain ⟨s2, e2, f2, p2⟩ := lays_eq cs.2 hI hs8 ps
      rw [e2, zb_mk]
      refine Or.inl ⟨_, rfl, s2, rfl, by omega, cs.fp f2, ?_, fun e he => by rw [f2.1]; exact h5 e he⟩
      show zPM s2 (gLt G) (if k = i then _ else G (59 + 7 * t + k) :: nPile G t i k)
      rw [if_neg ek]; exact p2
set_option maxHeartbeats 1000000 in
theorem without_both {σ τ σ1 τ1 : ZS} {G : Nat → Nat} (hI : zInv G) (c : zCs σ σ1 G) (d : zMs τ τ1 G) {t la : Nat} (ht : t < G 1) (hl : la < 3) {a : Nat → Nat} (ha : ∀ e, e < 3 → a e ≤ 405) (h37 : ∀ e, e < 3 → σ1.1 37 e = nI (a e)) (h5 : ∀ e, e < 3 → τ1.1 5 e = nI (a e)) {x3 y3 : Int32} (hx : x3 = 0 ↔ ¬ y3 = 0) : ∃ (r : Int32) (σ2 τ2 : ZS), fX6_without_81 (nI t) (nI la) x3 (-1) 0 0 σ1 = some (r, σ2) ∧ fX7_missed_23 (nI t) (nI la) y3 0 (-1) 0 τ1 = some (r, τ2) ∧ zCs σ σ2 G ∧ zMs τ τ2 G := by
  have b1 := hI.2.1
  have h6 := in_hgt hI (show t < 6 by omega)
  unfold fX6_without_81 fX6_without_81n fX7_missed_23 fX7_missed_23n
  refine zloop2 (fun k st st' => ∃ (m p : Int32) (s1 t1 : ZS), st = (nI t, nI la, x3, m, p, nI k, s1) ∧ st' = (nI t, nI la, y3, p, m, nI k, t1) ∧ k ≤ G (58 + 7 * t) ∧ zCs σ s1 G ∧ zMs τ t1 G ∧ (∀ e, e < 3 → s1.1 37 e = nI (a e)) ∧ ∀ e, e < 3 → t1.1 5 e = nI (a e)) 6 (fun o o' => ∃ (r : Int32) (σ2 τ2 : ZS), o = some (r, σ2) ∧ o' = some (r, τ2) ∧ zCs σ σ2 G ∧ zMs τ τ2 G) (fun i s s' h => by obtain ⟨_, _, _, _, _, _, h, _⟩ := h; omega) ?_ zN 0 _ _ ⟨-1, 0, σ1, τ1, rfl, rfl, Nat.zero_le _, c, d, h37, h5⟩ (by unfold zN; omega)
  rintro f g k st st' ⟨m, p, s1, t1, rfl, rfl, hk, cs, ms, k37, k5⟩
  unfold fX6_without_81b fX7_missed_23b
  dsimp only
  rw [zin_t (show t < 2147483648 by omega) (show t < 6 by omega), zg_tr, nI_cl (show t < 2147483648 by omega), sc_hgt cs.2.1 (show t < 6 by omega), size_eq ms.2 (show t < 6 by omega), zb_mk]
  by_cases e : k = G (58 + 7 * t)
  · rw [if_pos (show nI (G (58 + 7 * t)) ≤ nI k by rw [e]; exact Int32.le_refl _), if_pos (show nI (G (58 + 7 * t)) ≤ nI k by rw [e]; exact Int32.le_refl _)]
    by_cases h0 : x3 = 0
    · rw [if_pos h0, if_neg (hx.mp h0)]
      exact Or.inr ⟨_, _, _, rfl, rfl, cs, ms⟩
    · rw [if_neg h0, if_pos (Classical.byContradiction (fun q => h0 (hx.mpr q)))]
      exact Or.inr ⟨_, _, _, rfl, rfl, cs, ms⟩
  · have hlen : (wPl G t k).length ≤ 6 := pile_len hI ht k
    have hlt : ∀ s ∈ wPl G t k, ∀ b, b < 5 → gLt G s b ≤ 100 := pile_lt hI ht k
    have hb : ∀ e, e < 3 → nS G (gLt G) (wPl G t k) la 0 e ≤ 405 := fun e he => nS_le hI hlt hl he (show 0 ≤ 10 by decide) (show (wPl G t k).length ≤ 8 by omega) (Or.inl rfl)
    rw [if_neg (show ¬ nI (G (58 + 7 * t)) ≤ nI k from nI_ge (by omega) (by omega)), if_neg (show ¬ nI (G (58 + 7 * t)) ≤ nI k from nI_ge (by omega) (by omega))]
    obtain ⟨s2, e2, f2, p2⟩ := pileW_eq cs.2.1 hI cs.2.2 (fun s b hs hb => gLt_le hI hs hb) ht (sk := k) (x := nI k) (fun j hj => nI_eq_iff (by omega) (by omega))
    have c2 := cs.fp f2
    obtain ⟨s3, e3, f3, g3, v3⟩ := shades_38 (l := wPl G t k) c2.2.1 hI p2 hlt hl (show 0 ≤ 10 by decide) (by omega) (Or.inl rfl)
    have c3 := c2.one g3 (by decide)
    have w37 : ∀ e, e < 3 → s3.1 37 e = nI (a e) := fun e he => by rw [g3 37 (by decide), f2.1 37 (by decide)]; exact k37 e he
    obtain ⟨t2, e4, m4, p4⟩ : ∃ t2, fX7_begins t1 = some ((), t2) ∧ fPM t1 t2 ∧ zPM t2 (gLt G) [] := begins_eq t1 (gLt G)
    obtain ⟨t3, e5, m5, w5⟩ := missed_in hI (ms.fp m4) ht hl (show k < 6 by omega) p4 (a := a) (fun e he => ⟨by rw [m4.1]; exact k5 e he, ha e he⟩) y3 p m (fun x1 x2 x3 x4 x5 x6 s => g (x1, x2, x3, x4, x5, x6, s))
    rw [e2, zb_mk, show fX0_shadesInto_19_38 (nI la) 0 s2 = fX0_shadesInto_19_38 (nI la) (nI 0) s2 from rfl, e3, zb_mk, diff_37 (a := a) (b := nS G (gLt G) (wPl G t k) la 0) (fun e he => ⟨w37 e he, by have := ha e he; omega⟩) (fun e he => ⟨v3 e he, by have := hb e he; omega⟩), zb_mk, e4, zb_mk, e5, nDf_comm]
    show (∃ s' t', (if nI (wD G t la k a) ≤ m then _ else _) = f s' ∧ _ = g t' ∧ _) ∨ _
    unfold fX6_without_146
    rw [show nI k + 1 = nI (k + 1) from nI_add k 1]
    by_cases hc : m < nI (wD G t la k a)
    · rw [if_pos hc, if_neg (Int32.not_le.mpr hc)]
      exact Or.inl ⟨_, _, rfl, rfl, _, _, s3, t3, rfl, rfl, by omega, c3, m5, w37, w5⟩
    · rw [if_neg hc, if_pos (Int32.not_lt.mp hc)]
      exact Or.inl ⟨_, _, rfl, rfl, _, _, s3, t3, rfl, rfl, by omega, c3, m5, w37, w5⟩
set_option maxHeartbeats 1000000 in
theorem step20 : zStep20 zR := fun σ τ y1 y2 y3 hR => by
  obtain ⟨⟨G, hg⟩, -⟩ := id hR
  have hS := hg.1
  have hI := hg.2.2
  have b1 := hI.2.1
  unfold fX6_without fX7_without
  rcases zin_or y1 (G 1) (by omega) with ⟨t, ht, rfl⟩ | ⟨hz, hx⟩
  · rw [hasStack_t hS hI ht, isStack_t hg.2.1 hI ht]
    simp only [zb_mk, if_neg i0]
    rw [show (3 : Int32) = nI 3 from rfl]
    rcases zin_or y2 3 (by omega) with ⟨la, hla, rfl⟩ | ⟨hz, hx⟩
    · rw [within_t hla (by omega), isLamp_t hla]
      simp only [zb_mk, if_neg i0]
      rw [show (2 : Int32) = nI 2 from rfl, show (1 : Int64) = lN 1 from rfl]
      rcases zin_or y3 2 (by omega) with ⟨v, hv, rfl⟩ | ⟨hz, hx⟩
      · have h6 := in_hgt hI (show t < 6 by omega)
        rw [within_t hv (by omega), isInN_t hv (by omega)]
        simp only [zb_mk, if_neg i0]
        rw [zin_t (show t < 2147483648 by omega) (show t < 6 by omega), zg_tr, nI_cl (show t < 2147483648 by omega), sc_hgt hS (show t < 6 by omega), size_eq hg.2.1 (show t < 6 by omega), zb_mk]
        by_cases hh : G (58 + 7 * t) = 0
        · rw [if_pos (show nI (G (58 + 7 * t)) = 0 by rw [hh]; rfl), if_pos (show nI (G (58 + 7 * t)) = 0 by rw [hh]; rfl)]
          exact sameR hR rfl rfl
        · have hne : ¬ nI (G (58 + 7 * t)) = (0 : Int32) := fun e => hh ((nI_eq_iff (b := 0) (by omega) (by omega)).mp e)
          rw [if_neg hne, if_neg hne]
          have hlen : (sPl G t).length ≤ 6 := pile_len hI ht 99
          have hlt := pile_lt hI ht 99
          obtain ⟨σ1, e1, c1⟩ := look3 hS hI
          obtain ⟨σ2, e2, c2, p2, -⟩ := pile3 hI c1 ht
          obtain ⟨τ1, e3, c3, p3, -⟩ := shines3 hI (zMs.rf hg.2.1) ht
          obtain ⟨σ3, e4, f1, f2, v2⟩ := shades_37 c2.2.1 hI p2 hlt hla (show 0 ≤ 10 by decide) (show (sPl G t).length ≤ 8 by omega) (Or.inl rfl)
          obtain ⟨τ3, e5, g1, g2, w2⟩ := shades_M c3.2 hI p3 hlt hla (show 0 ≤ 10 by decide) (show (sPl G t).length ≤ 8 by omega) (Or.inl rfl) rfl
          obtain ⟨τ4, e6, g3, g4, w4⟩ := keep_M τ3
          have m4 := (c3.one g2 (by decide)).one g4 (by decide)
          have hle : ∀ e, e < 3 → nS G (gLt G) (sPl G t) la 0 e ≤ 405 := fun e he => nS_le hI hlt hla he (show 0 ≤ 10 by decide) (show (sPl G t).length ≤ 8 by omega) (Or.inl rfl)
          rw [e1, zb_mk, e2, zb_mk, show fX0_shadesInto_19_37 (nI la) 0 σ2 = fX0_shadesInto_19_37 (nI la) (nI 0) σ2 from rfl, e4, zb_mk]
          have hm : ∀ y3 : Int32, fX7_without_52 (nI t) (nI la) y3 τ = zb (fX7_missed_23 (nI t) (nI la) y3 0 (-1) 0 τ4) (fun u1 s1 => some (u1, s1)) := by
            intro y3
            unfold fX7_without_52 fX7_missed
            rw [e3, zb_mk, e5, zb_mk, e6, zb_mk]
          rcases (show v = 0 ∨ v = 1 by omega) with rfl | rfl
          · rw [if_pos (show nI 0 = (0 : Int32) from rfl), hm]
            obtain ⟨r, σ5, τ5, e7, e8, c5, m5⟩ := without_both hI (c2.one f2 (by decide)) m4 ht hla hle v2 (fun e he => by rw [w4 e he]; exact w2 e he) (x3 := nI 0) (y3 := 1) ⟨fun _ => by decide, fun _ => rfl⟩
            rw [e7, e8]
            exact zAsk.R ⟨r, σ5, τ5, rfl, rfl, c5.1, m5.1⟩ hR
          · rw [if_neg (show ¬ nI 1 = (0 : Int32) by decide), hm]
            obtain ⟨r, σ5, τ5, e7, e8, c5, m5⟩ := without_both hI (c2.one f2 (by decide)) m4 ht hla hle v2 (fun e he => by rw [w4 e he]; exact w2 e he) (x3 := nI 1) (y3 := 0) ⟨fun h => absurd h (by decide), fun h => absurd rfl h⟩
            rw [e8, e7]
            exact zAsk.R ⟨r, σ5, τ5, rfl, rfl, c5.1, m5.1⟩ hR
      · rw [within_f hx, isInN_f (by omega) hz]
        exact sameR hR rfl rfl
    · rw [within_f hx, isLamp_f hz]
      exact sameR hR rfl rfl
  · rw [hasStack_f hS hx, isStack_f hg.2.1 hI hz]
    exact sameR hR rfl rfl
/-- judged -/
theorem isHeld_n {σ : ZS} {l n : Nat} (h : l < 4) (hn : n ≤ 18) (e : σ.1 36 l = nI n) : fX1_isHeld (nI l) σ = some (1, σ) := by
  unfold fX1_isHeld
  rw [show (4 : Int32) = nI 4 from rfl, within_t h (by omega), zb_mk, if_neg i0, zin_t (by omega) h, zg_tr, nI_cl (by omega), e, if_neg (nI_pos (by omega))]
theorem value_n {σ : ZS} {l n i : Nat} (h : l < 4) (hn : n ≤ 18) (e : σ.1 36 l = nI n) (hi : i < n) : fX1_valueAt (nI l) (nI i) σ = some (σ.1 35 (18 * l + i), σ) := valueAt_t h hn e (isHeld_n h hn e) hi
set_option maxHeartbeats 1000000 in
theorem judge_both {σ τ σ1 : ZS} {G : Nat → Nat} (hI : zInv G) (c : zCs σ σ1 G) (d : zRow (τ.1 1) G) {l n la : Nat} (h4 : l < 4) (hl : la < 3) (hn : n ≤ 18) (e1 : σ.1 36 l = nI n) (e2 : τ.1 16 l = nI n) (ev : ∀ i, i < n → σ.1 35 (18 * l + i) = τ.1 15 (18 * l + i)) : ∃ (r : Int32) (σ2 τ2 : ZS), fX6_judge_41 (nI l) (nI la) 0 σ1 = some (r, σ2) ∧ fX7_judge_30 (nI l) (nI la) 0 τ = some (r, τ2) ∧ zCs σ σ2 G ∧ zMs τ τ2 G := by
  have b1 := hI.2.1
  unfold fX6_judge_41 fX6_judge_41n fX7_judge_30 fX7_judge_30n
  refine zloop2 (fun k st st' => ∃ (s1 t1 : ZS), st = (nI l, nI la, nI k, s1) ∧ st' = (nI l, nI la, nI k, t1) ∧ k ≤ n ∧ zCs σ s1 G ∧ zMs τ t1 G) 18 (fun o o' => ∃ (r : Int32) (σ2 τ2 : ZS), o = some (r, σ2) ∧ o' = some (r, τ2) ∧ zCs σ σ2 G ∧ zMs τ τ2 G) (fun i s s' h => by obtain ⟨_, _, _, _, h, _⟩ := h; omega) ?_ zN 0 _ _ ⟨σ1, τ, rfl, rfl, Nat.zero_le _, c, zMs.rf d⟩ (by unfold zN; omega)
  rintro f g k st st' ⟨s1, t1, rfl, rfl, hk, cs, ms⟩
  unfold fX6_judge_41b fX7_judge_30b
  dsimp only
  rw [zin_t (show l < 2147483648 by omega) (show l < 4 by omega), zg_tr, zg_tr, nI_cl (show l < 2147483648 by omega), cs.1 36 (by omega), e1, ms.1.1 16 (by omega), e2]
  by_cases e : k = n
  · rw [e, if_pos (Int32.le_refl _), if_pos (Int32.le_refl _)]
    exact Or.inr ⟨_, _, _, rfl, rfl, cs, ms⟩
  · rw [if_neg (show ¬ nI n ≤ nI k from nI_ge (by omega) (by omega)), if_neg (show ¬ nI n ≤ nI k from nI_ge (by omega) (by omega))]
    simp only [show zne (3 : Int32) = true from rfl, zg_tr]
    rw [show (3 : Int32) = nI 3 from rfl, nI_mod (by omega) (by omega) (by omega), nI_div (by omega) (by omega) (by omega)]
    rcases zin_or (nI (k / 3)) (G 1) (by omega) with ⟨t, ht, et⟩ | ⟨hz, hx⟩
    · have et2 : k / 3 = t := (nI_eq_iff (by omega) (by omega)).mp et
      have hlen : (sPl G t).length ≤ 6 := pile_len hI ht 99
      have hlt := pile_lt hI ht 99
      rw [et, hasStack_t cs.2.1 hI ht, isStack_t ms.2 hI ht]
      simp only [zb_mk, if_neg i0]
      obtain ⟨s2, e5, c2, p2, -⟩ := pile3 hI cs ht
      obtain ⟨t2, e6, m2, q2, -⟩ := shines3 hI ms ht
      rw [e5, zb_mk, e6, zb_mk, show (0 : Int32) = nI 0 from rfl, shade_C c2.2.1 hI p2 hlt hl (show k % 3 < 3 by omega) (show 0 ≤ 10 by decide) (by omega) (Or.inl rfl), zb_mk, shade_M m2.2 hI q2 hlt hl (show k % 3 < 3 by omega) (show 0 ≤ 10 by decide) (by omega) (Or.inl rfl), zb_mk, value_n h4 hn (by rw [c2.1 36 (by omega)]; exact e1) (show k < n by omega), zb_mk, show (18 : Int32) = nI 18 from rfl, nI_mul, nI_add, zin_t (by omega) (by omega), zg_tr, nI_cl (by omega), c2.1 35 (by omega), ev k (by omega), m2.1.1 15 (by omega), show (1 : Int32) = nI 1 from rfl, nI_add]
      by_cases hc : nI (nSh G (nCo (gLt G) (sPl G t)) (sPl G t).length la 0 (k % 3)) = τ.1 15 (18 * l + k)
      · rw [if_pos hc, if_pos hc]
        exact Or.inl ⟨_, _, rfl, rfl, s2, t2, rfl, rfl, by omega, c2, m2⟩
      · rw [if_neg hc, if_neg hc]
        exact Or.inr ⟨_, _, _, rfl, rfl, c2, m2⟩
    · rw [hasStack_f cs.2.1 hx, isStack_f ms.2 hI hz, zb_mk, zb_mk, if_pos rfl, if_pos rfl]
      exact Or.inr ⟨_, _, _, rfl, rfl, cs, ms⟩
set_option maxHeartbeats 1000000 in
theorem step27 : zStep27 zR := fun σ τ y1 y2 hR => by
  obtain ⟨⟨G, hg⟩, -⟩ := id hR
  have hS := hg.1
  have hI := hg.2.2
  have hL := hR.2.2.2.2.1
  unfold fX6_judge fX7_judge
  rw [show (4 : Int32) = nI 4 from rfl]
  rcases zin_or y1 4 (by omega) with ⟨l, hl4, rfl⟩ | ⟨hz, hx⟩
  · rw [within_t hl4 (by omega), isList_t hl4]
    simp only [zb_mk, if_neg i0]
    rw [show (3 : Int32) = nI 3 from rfl]
    rcases zin_or y2 3 (by omega) with ⟨la, hla, rfl⟩ | ⟨hz, hx⟩
    · rw [within_t hla (by omega), isLamp_t hla]
      simp only [zb_mk, if_neg i0]
      rw [zin_t (by omega) hl4, zg_tr, nI_cl (by omega)]
      rcases held_t hL hl4 with ⟨e1, e2, e3⟩ | ⟨n, hn, e1, e2, e3, ev⟩
      · rw [e3, zb_mk, if_pos rfl, e2, if_neg m1_neg]
        exact sameR hR rfl rfl
      · obtain ⟨σ1, e5, c1⟩ := look3 hS hI
        rw [e3, zb_mk, if_neg i0, e2, if_pos (show (0 : Int32) ≤ nI n from nI_le (a := 0) (Nat.zero_le _) (by omega)), e5, zb_mk]
        obtain ⟨r, σ4, τ4, e6, e7, c4, m4⟩ := judge_both hI c1 hg.2.1 hl4 hla hn e1 e2 ev
        exact zAsk.R ⟨r, σ4, τ4, e6, e7, c4.1, m4.1⟩ hR
    · rw [within_f hx, isLamp_f hz]
      exact sameR hR rfl rfl
  · rw [within_f hx, isList_f hz]
    exact sameR hR rfl rfl
