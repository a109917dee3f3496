/-- draws -/
def dj (n : Nat) (z : Int32) : Nat := z.toBitVec.toNat % 2 ^ 31 / 65536 % n
theorem dj_lt {n : Nat} (h : 0 < n) (z : Int32) : dj n z < n := Nat.mod_lt _ h
theorem draw_eq {n : Nat} (h0 : 0 < n) (h8 : n ≤ 8) (z : Int32) : (z &&& (2147483647 : Int32)) / (65536 : Int32) - (z &&& (2147483647 : Int32)) / (65536 : Int32) / nI n * nI n = nI (dj n z) := by
  have hm := Nat.mod_lt z.toBitVec.toNat (show 0 < 2 ^ 31 by decide)
  have hd := Nat.div_le_self (z.toBitVec.toNat % 2 ^ 31) 65536
  rw [pk_and z 31 rfl, show (65536 : Int32) = nI 65536 from rfl, nI_div (by omega) (by decide) (by decide), nI_mod (by omega) h0 (by omega)]
  rfl
def zq (z : Int32) : Nat → Int32
  | 0 => z
  | k + 1 => zq z k * (1103515245 : Int32) + (12345 : Int32)
def dL (n : Nat) (z : Int32) : Nat → List Nat
  | 0 => []
  | k + 1 => dj n (zq z (k + 1)) :: dL n z k
theorem dL_len (n : Nat) (z : Int32) : ∀ k, (dL n z k).length = k := by
  intro k
  induction k with
  | zero => rfl
  | succ k ih => show (dL n z k).length + 1 = _; rw [ih]
theorem dL_mem {n : Nat} (h : 0 < n) (z : Int32) : ∀ k, ∀ s ∈ dL n z k, s < n := by
  intro k
  induction k with
  | zero => intro s hs; exact absurd hs List.not_mem_nil
  | succ k ih =>
    intro s hs
    rcases List.mem_cons.mp hs with rfl | hs
    · exact dj_lt h _
    · exact ih s hs
theorem zne_t {a : Nat} (h : 0 < a) (h2 : a < 2147483648) : zne (nI a) = true := decide_eq_true (fun e => absurd ((nI_eq_iff (b := 0) h2 (by decide)).mp e) (by omega))
theorem drawn_C {σ σ1 : ZS} {G : Nat → Nat} (hI : zInv G) (c : zCs σ σ1 G) (h0 : 0 < G 0) {kk : Nat} (hk : kk ≤ 4) (z : Int32) : ∃ σ2, fX0_pileDrawn (nI kk) z σ1 = some ((), σ2) ∧ zCs σ σ2 G ∧ zPl σ2 (gLt G) (dL (G 0) z kk) := by
  have b0 := hI.1
  obtain ⟨s0, e0, f0, p0⟩ := clear_eq σ1 (gLt G)
  unfold fX0_pileDrawn
  rw [e0, zb_mk]
  unfold fX0_pileDrawn_9 fX0_pileDrawn_9n
  refine zloop_rule (fun i st => ∃ s1 : ZS, st = (nI kk, zq z i, nI i, s1) ∧ i ≤ kk ∧ zCs σ s1 G ∧ zPl s1 (gLt G) (dL (G 0) z i)) 4 (fun o => ∃ σ2 : ZS, o = some ((), σ2) ∧ zCs σ σ2 G ∧ zPl σ2 (gLt G) (dL (G 0) z kk)) (fun i s h => by have := h.choose_spec.2.1; omega) ?_ zN 0 _ ⟨s0, rfl, Nat.zero_le _, c.fp f0, p0⟩ (by unfold zN; omega)
  rintro f i st ⟨s1, rfl, hi, cs, ps⟩
  unfold fX0_pileDrawn_9b
  dsimp only
  by_cases e : i = kk
  · subst e
    rw [if_pos (Int32.le_refl _)]
    exact Or.inr ⟨s1, rfl, cs, ps⟩
  · have hl := dL_len (G 0) z i
    rw [if_neg (show ¬ nI kk ≤ nI i from nI_ge (by omega) (by omega)), show zne (65536 : Int32) = true from rfl, zg_tr, cs.2.1.1, if_neg (show ¬ nI (G 0) ≤ (0 : Int32) from nI_ge (a := 0) h0 (by omega)), zne_t h0 (by omega), zg_tr, draw_eq h0 b0]
    obtain ⟨s2, e5, f5, p5⟩ := add_eq b0 (dj_lt h0 (zq z i * (1103515245 : Int32) + (12345 : Int32))) cs.2.2 ps (by omega) (fun b hb => gLt_le hI (dj_lt h0 _) hb)
    rw [e5, zb_mk]
    unfold fX0_pileDrawn_57
    rw [show nI i + 1 = nI (i + 1) from nI_add i 1]
    exact Or.inl ⟨_, rfl, s2, rfl, by omega, cs.fp f5, p5⟩
theorem drawn_M {τ τ1 : ZS} {G : Nat → Nat} (hI : zInv G) (c : zMs τ τ1 G) (h0 : 0 < G 0) {kk la ey : Nat} (hk : kk ≤ 4) (hl : la < 3) (he : ey < 3) (hp : zPM τ1 (gLt G) []) (z : Int32) (k75 : Int32 → Int32 → Int32 → Int32 → Int32 → Int32 → Int32 → Int32 → Int32 → ZS → Option (Int64 × ZS)) (x2 x3 x6 x7 x8 x9 : Int32) : ∃ τ2, fX7_odds_94 k75 (nI kk) x2 x3 (nI la) (nI ey) x6 x7 x8 x9 z 0 τ1 = k75 (nI kk) x2 x3 (nI la) (nI ey) x6 x7 (if nI (nS G (gLt G) (dL (G 0) z kk) la 0 ey) < x6 then x8 else x8 + 1) (x9 + 1) τ2 ∧ zMs τ τ2 G := by
  have b0 := hI.1
  unfold fX7_odds_94 fX7_odds_94n
  refine zloop_rule (fun i st => ∃ s1 : ZS, st = (nI kk, x2, x3, nI la, nI ey, x6, x7, x8, x9, zq z i, nI i, s1) ∧ i ≤ kk ∧ zMs τ s1 G ∧ zPM s1 (gLt G) (dL (G 0) z i)) 4 (fun o => ∃ τ2 : ZS, o = k75 (nI kk) x2 x3 (nI la) (nI ey) x6 x7 (if nI (nS G (gLt G) (dL (G 0) z kk) la 0 ey) < x6 then x8 else x8 + 1) (x9 + 1) τ2 ∧ zMs τ τ2 G) (fun i s h => by have := h.choose_spec.2.1; omega) ?_ zN 0 _ ⟨τ1, rfl, Nat.zero_le _, c, hp⟩ (by unfold zN; omega)
  rintro f i st ⟨s1, rfl, hi, cs, ps⟩
  unfold fX7_odds_94b
  dsimp only
  have hlen := dL_len (G 0) z i
  by_cases e : i = kk
  · subst e
    have hlt : ∀ s ∈ dL (G 0) z i, ∀ b, b < 5 → gLt G s b ≤ 100 := fun s hs b hb => gLt_le hI (dL_mem h0 z i s hs) hb
    rw [if_pos (Int32.le_refl _), show fX7_shadeOf (nI la) 0 (nI ey) s1 = fX7_shadeOf (nI la) (nI 0) (nI ey) s1 from rfl, shade_M cs.2 hI ps hlt hl he (show 0 ≤ 10 by decide) (by omega) (Or.inl rfl), zb_mk]
    unfold fX7_odds_157
    refine Or.inr ⟨s1, ?_, cs⟩
    show (if nI (nS G (gLt G) (dL (G 0) z i) la 0 ey) < x6 then _ else _) = _
    by_cases h : nI (nS G (gLt G) (dL (G 0) z i) la 0 ey) < x6
    · rw [if_pos h, if_pos h, Int32.add_zero]
    · rw [if_neg h, if_neg h]
  · rw [if_neg (show ¬ nI kk ≤ nI i from nI_ge (by omega) (by omega)), show zne (65536 : Int32) = true from rfl, zg_tr, show zin (0 : Int32) 133 = true from rfl, zg_tr, show ((0 : Int32)).toNatClampNeg = 0 from rfl, cs.2 0 (by decide), zne_t h0 (by omega), zg_tr, draw_eq h0 b0]
    obtain ⟨s2, e5, f5, p5⟩ := lays_eq cs.2 hI (show dj (G 0) (zq z i * (1103515245 : Int32) + (12345 : Int32)) < 8 from Nat.lt_of_lt_of_le (dj_lt h0 _) b0) ps
    rw [e5, zb_mk, show nI i + 1 = nI (i + 1) from nI_add i 1]
    exact Or.inl ⟨_, rfl, s2, rfl, by omega, cs.fp f5, p5⟩
set_option maxHeartbeats 1000000 in
theorem odds_both {σ τ σ1 : ZS} {G : Nat → Nat} (hI : zInv G) (c : zCs σ σ1 G) (d : zRow (τ.1 1) G) (h0 : 0 < G 0) {kk m la ey pt : Nat} (hk : kk ≤ 4) (hm : 1 ≤ m ∧ m ≤ 20) (hl : la < 3) (he : ey < 3) (seed v : Int32) : ∃ (r : Int64) (σ2 τ2 : ZS), fX6_odds_81 (nI kk) seed (nI m) (nI la) (nI ey) v (nI pt) 0 0 σ1 = some (r, σ2) ∧ fX7_odds_75 (nI kk) seed (nI m) (nI la) (nI ey) v (nI pt) 0 0 τ = some (r, τ2) ∧ zCs σ σ2 G ∧ zMs τ τ2 G := by
  unfold fX6_odds_81 fX6_odds_81n fX7_odds_75 fX7_odds_75n
  refine zloop2 (fun k st st' => ∃ (g : Nat) (s1 t1 : ZS), st = (nI kk, seed, nI m, nI la, nI ey, v, nI pt, nI g, nI k, s1) ∧ st' = (nI kk, seed, nI m, nI la, nI ey, v, nI pt, nI g, nI k, t1) ∧ k ≤ m ∧ g ≤ k ∧ zCs σ s1 G ∧ zMs τ t1 G) 20 (fun o o' => ∃ (r : Int64) (σ2 τ2 : ZS), o = some (r, σ2) ∧ o' = some (r, τ2) ∧ zCs σ σ2 G ∧ zMs τ τ2 G) (fun i s s' h => by obtain ⟨_, _, _, _, _, h, _⟩ := h; omega) ?_ zN 0 _ _ ⟨0, σ1, τ, rfl, rfl, Nat.zero_le _, Nat.zero_le _, c, zMs.rf d⟩ (by unfold zN; omega)
  rintro f g k st st' ⟨gd, s1, t1, rfl, rfl, hkm, hg, cs, ms⟩
  unfold fX6_odds_81b fX7_odds_75b
  dsimp only
  by_cases e : k = m
  · rw [if_pos (show nI m ≤ nI k by rw [e]; exact Int32.le_refl _), if_pos (show nI m ≤ nI k by rw [e]; exact Int32.le_refl _), nI_l (by omega), nI_l (by omega)]
    obtain ⟨r, q1, q2⟩ := part_both (a := gd) (b := m) (by omega) (by omega) (by omega) (nI pt) s1 t1
    rw [q1, q2, zb_mk, zb_mk]
    exact Or.inr ⟨_, _, _, rfl, rfl, cs, ms⟩
  · rw [if_neg (show ¬ nI m ≤ nI k from nI_ge (by omega) (by omega)), if_neg (show ¬ nI m ≤ nI k from nI_ge (by omega) (by omega))]
    obtain ⟨s2, e2, c2, p2⟩ := drawn_C hI cs h0 hk (seed + nI k)
    obtain ⟨t2, e3, f3, q3⟩ := begins_eq t1 (gLt G)
    obtain ⟨t3, e4, m4⟩ := drawn_M hI (ms.fp f3) h0 hk hl he q3 (seed + nI k) (fun x1 x2 x3 x4 x5 x6 x7 x8 x9 s => g (x1, x2, x3, x4, x5, x6, x7, x8, x9, s)) seed (nI m) v (nI pt) (nI gd) (nI k)
    have hlt : ∀ s ∈ dL (G 0) (seed + nI k) kk, ∀ b, b < 5 → gLt G s b ≤ 100 := fun s hs b hb => gLt_le hI (dL_mem h0 _ kk s hs) hb
    rw [e2, zb_mk, show fX0_shadeOf (nI la) 0 (nI ey) s2 = fX0_shadeOf (nI la) (nI 0) (nI ey) s2 from rfl, shade_C c2.2.1 hI p2 hlt hl he (show 0 ≤ 10 by decide) (by rw [dL_len]; omega) (Or.inl rfl), zb_mk, e3, zb_mk, e4]
    unfold fX6_odds_119
    rw [show nI k + 1 = nI (k + 1) from nI_add k 1, show nI gd + 1 = nI (gd + 1) from nI_add gd 1]
    show (∃ s' t', (if nI (nS G (gLt G) (dL (G 0) (seed + nI k) kk) la 0 ey) < v then _ else _) = f s' ∧ _ = g t' ∧ _) ∨ _
    by_cases h : nI (nS G (gLt G) (dL (G 0) (seed + nI k) kk) la 0 ey) < v
    · rw [if_pos h, if_pos h]
      exact Or.inl ⟨_, _, rfl, rfl, gd, s2, t3, rfl, rfl, by omega, by omega, c2, m4⟩
    · rw [if_neg h, if_neg h]
      exact Or.inl ⟨_, _, rfl, rfl, gd + 1, s2, t3, rfl, rfl, by omega, by omega, c2, m4⟩
set_option maxHeartbeats 1000000 in
theorem step24 : zStep24 zR := fun σ τ y1 y2 y3 y4 y5 y6 y7 hR => by
  obtain ⟨⟨G, hg⟩, -⟩ := id hR
  have hS := hg.1
  have hI := hg.2.2
  have b0 := hI.1
  have i4 : ∀ (x : Int64) (s : ZS), fX7_isIn x 0 4 s = fX7_isIn x 0 (lN 4) s := fun _ _ => rfl
  have i2 : ∀ (x : Int64) (s : ZS), fX7_isIn x 0 2 s = fX7_isIn x 0 (lN 2) s := fun _ _ => rfl
  have i1 : ∀ (x : Int64) (s : ZS), fX7_isIn x 0 1 s = fX7_isIn x 0 (lN 1) s := fun _ _ => rfl
  have i20 : ∀ (x : Int64) (s : ZS), fX7_isIn x 1 20 s = fX7_isIn x (lN 1) (lN 20) s := fun _ _ => rfl
  have w5 : ∀ (x : Int32) (s : ZS), fX6_within x 5 s = fX6_within x (nI 5) s := fun _ _ => rfl
  have w3 : ∀ (x : Int32) (s : ZS), fX6_within x 3 s = fX6_within x (nI 3) s := fun _ _ => rfl
  have w2 : ∀ (x : Int32) (s : ZS), fX6_within x 2 s = fX6_within x (nI 2) s := fun _ _ => rfl
  unfold fX6_odds fX7_odds
  rw [w5, i4]
  rcases zin_or y1 5 (by omega) with ⟨kk, hkk, rfl⟩ | ⟨hz, hx⟩
  · rw [within_t hkk (by omega), isInN_t hkk (by omega)]
    simp only [zb_mk, if_neg i0]
    rw [i20]
    rcases zin_or y3 21 (by omega) with ⟨m, hm, rfl⟩ | ⟨hz, hx⟩
    · by_cases hm0 : m = 0
      · subst hm0
        rw [if_pos (show nI 0 < (1 : Int32) by decide), isInL_f (by omega) (by omega) (by rw [nI_toInt (by omega)]; omega), zb_mk, if_pos rfl]
        exact sameR hR rfl rfl
      · rw [if_neg (show ¬ nI m < (1 : Int32) from fun q => absurd ((nI_lt_iff (a := m) (b := 1) (by omega) (by omega)).mp q) (by omega)), if_pos (show nI m ≤ (20 : Int32) from nI_le (b := 20) (by omega) (by omega)), isIn_t (by omega) (by omega) (by omega)]
        simp only [zb_mk, if_neg i0]
        rw [w3]
        rcases zin_or y4 3 (by omega) with ⟨la, hla, rfl⟩ | ⟨hz, hx⟩
        · rw [within_t hla (by omega), isLamp_t hla]
          simp only [zb_mk, if_neg i0]
          rw [w3, i2]
          rcases zin_or y5 3 (by omega) with ⟨ey, hey, rfl⟩ | ⟨hz, hx⟩
          · rw [within_t hey (by omega), isInN_t hey (by omega)]
            simp only [zb_mk, if_neg i0]
            rw [w2, i1]
            rcases zin_or y7 2 (by omega) with ⟨pt, hpt, rfl⟩ | ⟨hz, hx⟩
            · rw [within_t hpt (by omega), isInN_t hpt (by omega)]
              simp only [zb_mk, if_neg i0]
              rw [show zin (0 : Int32) 133 = true from rfl, zg_tr, show ((0 : Int32)).toNatClampNeg = 0 from rfl, hg.2.1 0 (by decide), hS.1]
              by_cases h0 : G 0 = 0
              · rw [if_neg (show ¬ (0 : Int32) < nI (G 0) by rw [h0]; decide), if_pos (show nI (G 0) = 0 by rw [h0]; rfl)]
                exact sameR hR rfl rfl
              · rw [if_pos (show (0 : Int32) < nI (G 0) from (nI_lt_iff (a := 0) (by omega) (by omega)).mpr (by omega)), if_neg (show ¬ nI (G 0) = (0 : Int32) from fun e => h0 ((nI_eq_iff (b := 0) (by omega) (by omega)).mp e))]
                obtain ⟨σ1, e5, c1⟩ := look3 hS hI
                rw [e5, zb_mk]
                obtain ⟨r, σ4, τ4, e6, e7, c4, m4⟩ := odds_both hI c1 hg.2.1 (by omega) (show kk ≤ 4 by omega) ⟨show 1 ≤ m by omega, show m ≤ 20 by omega⟩ hla hey y2 y6 (pt := pt)
                exact zAsk.R ⟨r, σ4, τ4, e6, e7, c4.1, m4.1⟩ hR
            · rw [within_f hx, isInN_f (by omega) hz]
              exact sameR hR rfl rfl
          · rw [within_f hx, isInN_f (by omega) hz]
            exact sameR hR rfl rfl
        · rw [within_f hx, isLamp_f hz]
          exact sameR hR rfl rfl
    · have hf := zin_false hz
      rw [isInL_f (by omega) (by omega) (by omega), zb_mk, if_pos rfl]
      rcases hx with hx | ⟨hx1, hx2⟩
      · rw [if_pos (show y3 < 1 from Int32.lt_trans hx (by decide))]
        exact sameR hR rfl rfl
      · have n20 : ¬ y3 ≤ (20 : Int32) := fun q => absurd (Int32.le_trans hx2 q) (by decide)
        rw [if_neg n20]
        by_cases h1 : y3 < 1
        · rw [if_pos h1]; exact sameR hR rfl rfl
        · rw [if_neg h1]; exact sameR hR rfl rfl
  · rw [within_f hx, isInN_f (by omega) hz]
    exact sameR hR rfl rfl
