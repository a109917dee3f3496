theorem si30_39 {σ : ZS} {G : Nat → Nat} {co : Nat → Nat} (h : zScene σ.1 1 G) (hI : zInv G) (hp : ∀ b, b < 5 → σ.2 21 b = lN (co b)) {lamp : Nat} (hl : lamp < 3) (L : Nat) : ∃ σ1, fX0_seenInto_19_39_30 (nI lamp) (lN L) 0 σ = some ((), σ1) ∧ σ1.1 = σ.1 ∧ (∀ c, c ≠ 39 → σ1.2 c = σ.2 c) ∧ ∀ e, e < 3 → σ1.2 39 e = lN (nSe G co lamp 0 e 5 * L) := by
  unfold fX0_seenInto_19_39_30 fX0_seenInto_19_39_30n
  refine zloop_rule (fun i st => ∃ s1 : ZS, st = (nI lamp, lN L, nI i, s1) ∧ i ≤ 3 ∧ s1.1 = σ.1 ∧ (∀ c, c ≠ 39 → s1.2 c = σ.2 c) ∧ ∀ e, e < i → s1.2 39 e = lN (nSe G co lamp 0 e 5 * L)) 3 (fun o => ∃ σ1 : ZS, o = some ((), σ1) ∧ σ1.1 = σ.1 ∧ (∀ c, c ≠ 39 → σ1.2 c = σ.2 c) ∧ ∀ e, e < 3 → σ1.2 39 e = lN (nSe G co lamp 0 e 5 * L)) (fun i s h => h.choose_spec.2.1) ?_ zN 0 _ ⟨σ, rfl, Nat.zero_le _, rfl, fun _ _ => rfl, fun k h => absurd h (Nat.not_lt_zero k)⟩ (by unfold zN; omega)
  rintro f i st ⟨s1, rfl, h1, h2, h3, h4⟩
  unfold fX0_seenInto_19_39_30b
  dsimp only
  by_cases e : i = 3
  · subst e
    rw [if_pos (show (3 : Int32) ≤ nI 3 from Int32.le_refl _)]
    exact Or.inr ⟨s1, rfl, h2, h3, h4⟩
  · have g : zScene s1.1 1 G := by rw [h2]; exact h
    refine Or.inl ⟨(nI lamp, lN L, nI (i + 1), zL s1 39 i (lN (nSe G co lamp 0 i 5 * L))), ?_, _, rfl, by omega, h2, fun c hc => ?_, fun k hk => ?_⟩
    · rw [if_neg (show ¬ (3 : Int32) ≤ nI i from nI_ge (b := 3) (by omega) (by omega)), if_neg (show ¬ (3 : Int32) ≤ nI i from nI_ge (b := 3) (by omega) (by omega)), show (0 : Int32) = nI 0 from rfl, seen_C g hI (fun b hb => by rw [h3 21 (by decide)]; exact hp b hb) hl (show i < 3 by omega) (show 0 ≤ 10 by decide), zb_mk, zin_t (by omega) (by omega), zg_tr, nI_cl (by omega), lN_mul, show (1 : Int32) = nI 1 from rfl, nI_add]
    · rw [zL_ne _ _ _ hc]; exact h3 c hc
    · rw [zL_at]
      by_cases ek : k = i
      · subst ek; rw [updL_at]
      · rw [updL_ne _ _ ek]; exact h4 k (by omega)
theorem si30_40 {σ : ZS} {G : Nat → Nat} {co : Nat → Nat} (h : zScene σ.1 1 G) (hI : zInv G) (hp : ∀ b, b < 5 → σ.2 21 b = lN (co b)) {lamp : Nat} (hl : lamp < 3) (L : Nat) : ∃ σ1, fX0_seenInto_19_40_30 (nI lamp) (lN L) 0 σ = some ((), σ1) ∧ σ1.1 = σ.1 ∧ (∀ c, c ≠ 40 → σ1.2 c = σ.2 c) ∧ ∀ e, e < 3 → σ1.2 40 e = lN (nSe G co lamp 0 e 5 * L) := by
  unfold fX0_seenInto_19_40_30 fX0_seenInto_19_40_30n
  refine zloop_rule (fun i st => ∃ s1 : ZS, st = (nI lamp, lN L, nI i, s1) ∧ i ≤ 3 ∧ s1.1 = σ.1 ∧ (∀ c, c ≠ 40 → s1.2 c = σ.2 c) ∧ ∀ e, e < i → s1.2 40 e = lN (nSe G co lamp 0 e 5 * L)) 3 (fun o => ∃ σ1 : ZS, o = some ((), σ1) ∧ σ1.1 = σ.1 ∧ (∀ c, c ≠ 40 → σ1.2 c = σ.2 c) ∧ ∀ e, e < 3 → σ1.2 40 e = lN (nSe G co lamp 0 e 5 * L)) (fun i s h => h.choose_spec.2.1) ?_ zN 0 _ ⟨σ, rfl, Nat.zero_le _, rfl, fun _ _ => rfl, fun k h => absurd h (Nat.not_lt_zero k)⟩ (by unfold zN; omega)
  rintro f i st ⟨s1, rfl, h1, h2, h3, h4⟩
  unfold fX0_seenInto_19_40_30b
  dsimp only
  by_cases e : i = 3
  · subst e
    rw [if_pos (show (3 : Int32) ≤ nI 3 from Int32.le_refl _)]
    exact Or.inr ⟨s1, rfl, h2, h3, h4⟩
  · have g : zScene s1.1 1 G := by rw [h2]; exact h
    refine Or.inl ⟨(nI lamp, lN L, nI (i + 1), zL s1 40 i (lN (nSe G co lamp 0 i 5 * L))), ?_, _, rfl, by omega, h2, fun c hc => ?_, fun k hk => ?_⟩
    · rw [if_neg (show ¬ (3 : Int32) ≤ nI i from nI_ge (b := 3) (by omega) (by omega)), if_neg (show ¬ (3 : Int32) ≤ nI i from nI_ge (b := 3) (by omega) (by omega)), show (0 : Int32) = nI 0 from rfl, seen_C g hI (fun b hb => by rw [h3 21 (by decide)]; exact hp b hb) hl (show i < 3 by omega) (show 0 ≤ 10 by decide), zb_mk, zin_t (by omega) (by omega), zg_tr, nI_cl (by omega), lN_mul, show (1 : Int32) = nI 1 from rfl, nI_add]
    · rw [zL_ne _ _ _ hc]; exact h3 c hc
    · rw [zL_at]
      by_cases ek : k = i
      · subst ek; rw [updL_at]
      · rw [updL_ne _ _ ek]; exact h4 k (by omega)
theorem si30_M {σ : ZS} {G : Nat → Nat} {co : Nat → Nat} (h : zRow (σ.1 1) G) (hI : zInv G) (hp : ∀ b, b < 5 → σ.2 3 b = lN (co b)) {lamp : Nat} (hl : lamp < 3) (L : Nat) : ∃ σ1, fX7_findSeen_36 (nI lamp) (lN L) 0 σ = some ((), σ1) ∧ σ1.1 = σ.1 ∧ (∀ c, c ≠ 11 → σ1.2 c = σ.2 c) ∧ ∀ e, e < 3 → σ1.2 11 e = lN (nSe G co lamp 0 e 5 * L) := by
  unfold fX7_findSeen_36 fX7_findSeen_36n
  refine zloop_rule (fun i st => ∃ s1 : ZS, st = (nI lamp, lN L, nI i, s1) ∧ i ≤ 3 ∧ s1.1 = σ.1 ∧ (∀ c, c ≠ 11 → s1.2 c = σ.2 c) ∧ ∀ e, e < i → s1.2 11 e = lN (nSe G co lamp 0 e 5 * L)) 3 (fun o => ∃ σ1 : ZS, o = some ((), σ1) ∧ σ1.1 = σ.1 ∧ (∀ c, c ≠ 11 → σ1.2 c = σ.2 c) ∧ ∀ e, e < 3 → σ1.2 11 e = lN (nSe G co lamp 0 e 5 * L)) (fun i s h => h.choose_spec.2.1) ?_ zN 0 _ ⟨σ, rfl, Nat.zero_le _, rfl, fun _ _ => rfl, fun k h => absurd h (Nat.not_lt_zero k)⟩ (by unfold zN; omega)
  rintro f i st ⟨s1, rfl, h1, h2, h3, h4⟩
  unfold fX7_findSeen_36b
  dsimp only
  by_cases e : i = 3
  · subst e
    rw [if_pos (show (3 : Int32) ≤ nI 3 from Int32.le_refl _)]
    exact Or.inr ⟨s1, rfl, h2, h3, h4⟩
  · have g : zRow (s1.1 1) G := by rw [h2]; exact h
    refine Or.inl ⟨(nI lamp, lN L, nI (i + 1), zL s1 11 i (lN (nSe G co lamp 0 i 5 * L))), ?_, _, rfl, by omega, h2, fun c hc => ?_, fun k hk => ?_⟩
    · rw [if_neg (show ¬ (3 : Int32) ≤ nI i from nI_ge (b := 3) (by omega) (by omega)), show (0 : Int32) = nI 0 from rfl, seen_M g hI (fun b hb => by rw [h3 3 (by decide)]; exact hp b hb) hl (show i < 3 by omega) (show 0 ≤ 10 by decide), zb_mk, zin_t (by omega) (by omega), zg_tr, nI_cl (by omega), lN_mul, show (1 : Int32) = nI 1 from rfl, nI_add]
    · rw [zL_ne _ _ _ hc]; exact h3 c hc
    · rw [zL_at]
      by_cases ek : k = i
      · subst ek; rw [updL_at]
      · rw [updL_ne _ _ ek]; exact h4 k (by omega)
theorem si8_39 {σ : ZS} {lamp n : Nat} (hn : n ≤ 6) : fX0_seenInto_19_39_8 (nI lamp) 1 (nI n) σ = fX0_seenInto_19_39_30 (nI lamp) (lN (100 ^ (6 - n))) 0 σ := by
  unfold fX0_seenInto_19_39_8 fX0_seenInto_19_39_8n
  refine zloop_rule (fun i st => n ≤ i ∧ i ≤ 6 ∧ st = (nI lamp, lN (100 ^ (i - n)), nI i, σ)) 6 (fun o => o = fX0_seenInto_19_39_30 (nI lamp) (lN (100 ^ (6 - n))) 0 σ) (fun i s h => h.2.1) ?_ zN n _ ⟨Nat.le_refl _, hn, by rw [Nat.sub_self]; rfl⟩ (by unfold zN; omega)
  rintro f i st ⟨h1, h2, rfl⟩
  unfold fX0_seenInto_19_39_8b
  dsimp only
  by_cases e : i = 6
  · subst e
    rw [if_pos (show (6 : Int32) ≤ nI 6 from Int32.le_refl _)]
    exact Or.inr rfl
  · refine Or.inl ⟨_, ?_, by omega, by omega, rfl⟩
    rw [if_neg (show ¬ (6 : Int32) ≤ nI i from nI_ge (b := 6) (by omega) (by omega)), show (100 : Int64) = lN 100 from rfl, lN_mul, show (1 : Int32) = nI 1 from rfl, nI_add, show i + 1 - n = i - n + 1 by omega, Nat.pow_succ]
theorem si8_40 {σ : ZS} {lamp n : Nat} (hn : n ≤ 6) : fX0_seenInto_19_40_8 (nI lamp) 1 (nI n) σ = fX0_seenInto_19_40_30 (nI lamp) (lN (100 ^ (6 - n))) 0 σ := by
  unfold fX0_seenInto_19_40_8 fX0_seenInto_19_40_8n
  refine zloop_rule (fun i st => n ≤ i ∧ i ≤ 6 ∧ st = (nI lamp, lN (100 ^ (i - n)), nI i, σ)) 6 (fun o => o = fX0_seenInto_19_40_30 (nI lamp) (lN (100 ^ (6 - n))) 0 σ) (fun i s h => h.2.1) ?_ zN n _ ⟨Nat.le_refl _, hn, by rw [Nat.sub_self]; rfl⟩ (by unfold zN; omega)
  rintro f i st ⟨h1, h2, rfl⟩
  unfold fX0_seenInto_19_40_8b
  dsimp only
  by_cases e : i = 6
  · subst e
    rw [if_pos (show (6 : Int32) ≤ nI 6 from Int32.le_refl _)]
    exact Or.inr rfl
  · refine Or.inl ⟨_, ?_, by omega, by omega, rfl⟩
    rw [if_neg (show ¬ (6 : Int32) ≤ nI i from nI_ge (b := 6) (by omega) (by omega)), show (100 : Int64) = lN 100 from rfl, lN_mul, show (1 : Int32) = nI 1 from rfl, nI_add, show i + 1 - n = i - n + 1 by omega, Nat.pow_succ]
theorem si8_M {σ : ZS} {lamp n : Nat} (hn : n ≤ 6) : fX7_findSeen_14 (nI lamp) 1 (nI n) σ = fX7_findSeen_36 (nI lamp) (lN (100 ^ (6 - n))) 0 σ := by
  unfold fX7_findSeen_14 fX7_findSeen_14n
  refine zloop_rule (fun i st => n ≤ i ∧ i ≤ 6 ∧ st = (nI lamp, lN (100 ^ (i - n)), nI i, σ)) 6 (fun o => o = fX7_findSeen_36 (nI lamp) (lN (100 ^ (6 - n))) 0 σ) (fun i s h => h.2.1) ?_ zN n _ ⟨Nat.le_refl _, hn, by rw [Nat.sub_self]; rfl⟩ (by unfold zN; omega)
  rintro f i st ⟨h1, h2, rfl⟩
  unfold fX7_findSeen_14b
  dsimp only
  by_cases e : i = 6
  · subst e
    rw [if_pos (show (6 : Int32) ≤ nI 6 from Int32.le_refl _)]
    exact Or.inr rfl
  · refine Or.inl ⟨_, ?_, by omega, by omega, rfl⟩
    rw [if_neg (show ¬ (6 : Int32) ≤ nI i from nI_ge (b := 6) (by omega) (by omega)), show (100 : Int64) = lN 100 from rfl, lN_mul, show (1 : Int32) = nI 1 from rfl, nI_add, show i + 1 - n = i - n + 1 by omega, Nat.pow_succ]
/-- a stack's pile, and what an eye sees by it as of six sheets -/
def sPl (G : Nat → Nat) (t : Nat) : List Nat := nPile G t 99 (G (58 + 7 * t))
def nBr (G : Nat → Nat) (t lamp e : Nat) : Int64 := lN (nSe G (nCo (gLt G) (sPl G t)) lamp 0 e 5 * 100 ^ (6 - (sPl G t).length))
/-- the class looked: what stands -/
def zCs (σ σ1 : ZS) (G : Nat → Nat) : Prop := zFC σ σ1 ∧ zScene σ1.1 1 G ∧ zLk σ1 (G 0) (gLt G)
def zMs (τ τ1 : ZS) (G : Nat → Nat) : Prop := zFM τ τ1 ∧ zRow (τ1.1 1) G
theorem look3 {σ : ZS} {G : Nat → Nat} (h : zScene σ.1 1 G) (hI : zInv G) : ∃ σ1, fX0_lookAtSheets σ = some ((), σ1) ∧ zCs σ σ1 G := look2 h hI
theorem pile3 {σ σ1 : ZS} {G : Nat → Nat} (hI : zInv G) (c : zCs σ σ1 G) {t : Nat} (ht : t < G 1) : ∃ σ2, fX0_pileStack (nI t) σ1 = some ((), σ2) ∧ zCs σ σ2 G ∧ zPl σ2 (gLt G) (sPl G t) ∧ fP σ1 σ2 := by
  obtain ⟨σ2, e, ⟨a, b, c, d⟩, f⟩ := pile2 hI c.1 c.2.1 c.2.2 ht
  exact ⟨σ2, e, ⟨a, b, c⟩, d, f⟩
theorem shines3 {τ τ1 : ZS} {G : Nat → Nat} (hI : zInv G) (c : zMs τ τ1 G) {t : Nat} (ht : t < G 1) : ∃ τ2, fX7_shines (nI t) τ1 = some ((), τ2) ∧ zMs τ τ2 G ∧ zPM τ2 (gLt G) (sPl G t) ∧ fPM τ1 τ2 := by
  obtain ⟨τ2, e, f, p⟩ := shines_eq c.2 hI ht
  exact ⟨τ2, e, ⟨c.1.tr f.FM, by rw [f.1]; exact c.2⟩, p, f⟩
theorem zCs.eq {σ σ1 σ2 : ZS} {G : Nat → Nat} (c : zCs σ σ1 G) (e : σ2.1 = σ1.1) : zCs σ σ2 G := ⟨fun k hk => by rw [e]; exact c.1 k hk, by rw [e]; exact c.2.1, fun s b hs hb => by rw [e]; exact c.2.2 s b hs hb⟩
theorem zMs.eq {τ τ1 τ2 : ZS} {G : Nat → Nat} (c : zMs τ τ1 G) (e : τ2.1 = τ1.1) : zMs τ τ2 G := ⟨⟨fun k hk => by rw [e]; exact c.1.1 k hk, by rw [e]; exact c.1.2.1, by rw [e]; exact c.1.2.2.1, by rw [e]; exact c.1.2.2.2⟩, by rw [e]; exact c.2⟩
theorem sPl_len {G : Nat → Nat} (hI : zInv G) {t : Nat} (ht : t < G 1) : (sPl G t).length = G (58 + 7 * t) := by
  have h := in_hgt hI (show t < 6 by have := hI.2.1; omega)
  exact nPile_full G t 99 _ (by omega)
theorem seenInto_39 {σ σ1 : ZS} {G : Nat → Nat} (hI : zInv G) (c : zCs σ σ1 G) {t : Nat} (ht : t < G 1) {lamp : Nat} (hl : lamp < 3) : ∃ σ3, (∀ {β : Type} (k : ZS → Option β), zb (fX0_pileStack (nI t) σ1) (fun _ s => zb (fX0_seenInto_19_39 (nI lamp) s) (fun _ s => k s)) = k σ3) ∧ zCs σ σ3 G ∧ (∀ e, e < 3 → σ3.2 39 e = nBr G t lamp e) ∧ (∀ c, c ≠ 39 → c ≠ 19 → c ≠ 21 → σ3.2 c = σ1.2 c) := by
  obtain ⟨σ2, e2, c2, p2, f2⟩ := pile3 hI c ht
  have hlen : (sPl G t).length ≤ 6 := pile_len hI ht 99
  obtain ⟨σ3, e3, g1, g2, g3⟩ := si30_39 c2.2.1 hI p2.1 hl (100 ^ (6 - (sPl G t).length))
  refine ⟨σ3, fun k => ?_, c2.eq g1, g3, fun c h1 h2 h3 => (g2 c h1).trans (f2.2 c h2 h3)⟩
  rw [e2, zb_mk]
  unfold fX0_seenInto_19_39
  rw [p2.2.2, si8_39 hlen, e3, zb_mk]
theorem seenInto_40 {σ σ1 : ZS} {G : Nat → Nat} (hI : zInv G) (c : zCs σ σ1 G) {t : Nat} (ht : t < G 1) {lamp : Nat} (hl : lamp < 3) : ∃ σ3, (∀ {β : Type} (k : ZS → Option β), zb (fX0_pileStack (nI t) σ1) (fun _ s => zb (fX0_seenInto_19_40 (nI lamp) s) (fun _ s => k s)) = k σ3) ∧ zCs σ σ3 G ∧ (∀ e, e < 3 → σ3.2 40 e = nBr G t lamp e) ∧ (∀ c, c ≠ 40 → c ≠ 19 → c ≠ 21 → σ3.2 c = σ1.2 c) := by
  obtain ⟨σ2, e2, c2, p2, f2⟩ := pile3 hI c ht
  have hlen : (sPl G t).length ≤ 6 := pile_len hI ht 99
  obtain ⟨σ3, e3, g1, g2, g3⟩ := si30_40 c2.2.1 hI p2.1 hl (100 ^ (6 - (sPl G t).length))
  refine ⟨σ3, fun k => ?_, c2.eq g1, g3, fun c h1 h2 h3 => (g2 c h1).trans (f2.2 c h2 h3)⟩
  rw [e2, zb_mk]
  unfold fX0_seenInto_19_40
  rw [p2.2.2, si8_40 hlen, e3, zb_mk]
theorem findSeen_eq {τ τ1 : ZS} {G : Nat → Nat} (hI : zInv G) (c : zMs τ τ1 G) {t : Nat} (ht : t < G 1) {lamp : Nat} (hl : lamp < 3) : ∃ τ3, fX7_findSeen (nI t) (nI lamp) τ1 = some ((), τ3) ∧ zMs τ τ3 G ∧ (∀ e, e < 3 → τ3.2 11 e = nBr G t lamp e) := by
  obtain ⟨τ2, e2, c2, p2, f2⟩ := shines3 hI c ht
  have hlen : (sPl G t).length ≤ 6 := pile_len hI ht 99
  obtain ⟨τ3, e3, g1, g2, g3⟩ := si30_M c2.2 hI p2.1 hl (100 ^ (6 - (sPl G t).length))
  refine ⟨τ3, ?_, c2.eq g1, g3⟩
  unfold fX7_findSeen
  rw [e2, zb_mk, size_eq c2.2 (by have := hI.2.1; omega), zb_mk, ← sPl_len hI ht, si8_M hlen, e3]
/-- do they look alike -/
def nAl (a b : Nat → Int64) : Int32 := if lg_cmp (a 0) (b 0) = (0 : Int32) then (if lg_cmp (a 1) (b 1) = (0 : Int32) then (if lg_cmp (a 2) (b 2) = (0 : Int32) then 1 else 0) else 0) else 0
def nAk (G : Nat → Nat) (t1 t2 lamp : Nat) : Int32 := nAl (nBr G t1 lamp) (nBr G t2 lamp)
theorem nAl_t {a b : Nat → Int64} (h : ∀ e, e < 3 → lg_cmp (a e) (b e) = 0) : nAl a b = 1 := by
  unfold nAl
  rw [if_pos (h 0 (by decide)), if_pos (h 1 (by decide)), if_pos (h 2 (by decide))]
theorem nAl_f {a b : Nat → Int64} {e : Nat} (he : e < 3) (h : ¬ lg_cmp (a e) (b e) = 0) : nAl a b = 0 := by
  unfold nAl
  rcases (show e = 0 ∨ e = 1 ∨ e = 2 by omega) with rfl | rfl | rfl
  · rw [if_neg h]
  · by_cases g0 : lg_cmp (a 0) (b 0) = 0
    · rw [if_pos g0, if_neg h]
    · rw [if_neg g0]
  · by_cases g0 : lg_cmp (a 0) (b 0) = 0
    · rw [if_pos g0]
      by_cases g1 : lg_cmp (a 1) (b 1) = 0
      · rw [if_pos g1, if_neg h]
      · rw [if_neg g1]
    · rw [if_neg g0]
theorem alike_C {σ σ1 : ZS} {G : Nat → Nat} (hI : zInv G) (c : zCs σ σ1 G) {t1 t2 lamp : Nat} (h1 : t1 < G 1) (h2 : t2 < G 1) (hl : lamp < 3) : ∃ σ2, fX6_looksAlike (nI t1) (nI t2) (nI lamp) σ1 = some (nAk G t1 t2 lamp, σ2) ∧ zCs σ σ2 G := by
  obtain ⟨σ2, e2, c2, v2, -⟩ := seenInto_39 hI c h1 hl
  obtain ⟨σ3, e3, c3, v3, g3⟩ := seenInto_40 hI c2 h2 hl
  refine ⟨σ3, ?_, c3⟩
  unfold fX6_looksAlike
  rw [e2, e3]
  unfold fX6_looksAlike_43 fX6_looksAlike_43n
  refine zloop_rule (fun i st => st = (nI i, σ3) ∧ i ≤ 3 ∧ ∀ e, e < i → lg_cmp (nBr G t1 lamp e) (nBr G t2 lamp e) = 0) 3 (fun o => o = some (nAk G t1 t2 lamp, σ3)) (fun i s h => h.2.1) ?_ zN 0 _ ⟨rfl, Nat.zero_le _, fun k h => absurd h (Nat.not_lt_zero k)⟩ (by unfold zN; omega)
  rintro f i st ⟨rfl, hi, hk⟩
  unfold fX6_looksAlike_43b
  dsimp only
  by_cases e : i = 3
  · subst e
    rw [if_pos (show (3 : Int32) ≤ nI 3 from Int32.le_refl _)]
    refine Or.inr ?_
    unfold nAk
    rw [nAl_t hk]
  · rw [if_neg (show ¬ (3 : Int32) ≤ nI i from nI_ge (b := 3) (by omega) (by omega)), zin_t (by omega) (by omega), zg_tr, zg_tr, nI_cl (by omega), g3 39 (by decide) (by decide) (by decide), v2 i (by omega), v3 i (by omega)]
    by_cases hc : lg_cmp (nBr G t1 lamp i) (nBr G t2 lamp i) = 0
    · rw [if_pos hc]
      refine Or.inl ⟨(nI (i + 1), σ3), by rw [show (1 : Int32) = nI 1 from rfl, nI_add], rfl, by omega, fun k hk2 => ?_⟩
      by_cases ek : k = i
      · subst ek; exact hc
      · exact hk k (by omega)
    · rw [if_neg hc]
      refine Or.inr ?_
      unfold nAk
      rw [nAl_f (show i < 3 by omega) hc]
theorem alike_M {τ τ1 : ZS} {G : Nat → Nat} (hI : zInv G) (c : zMs τ τ1 G) {t1 t2 lamp : Nat} (h1 : t1 < G 1) (h2 : t2 < G 1) (hl : lamp < 3) : ∃ τ2, fX7_areAlike (nI t1) (nI t2) (nI lamp) τ1 = some (nAk G t1 t2 lamp, τ2) ∧ zMs τ τ2 G := by
  obtain ⟨τ2, e2, c2, v2⟩ := findSeen_eq hI c h1 hl
  obtain ⟨τ3, e3, c3, v3⟩ := findSeen_eq hI c2 h2 hl
  refine ⟨τ3, ?_, c3⟩
  unfold fX7_areAlike
  rw [e2, zb_mk, e3]
  simp only [zb_mk, show zin (0 : Int32) 3 = true from rfl, show zin (1 : Int32) 3 = true from rfl, show zin (2 : Int32) 3 = true from rfl, zg_tr, show (0 : Int32).toNatClampNeg = 0 from rfl, show (1 : Int32).toNatClampNeg = 1 from rfl, show (2 : Int32).toNatClampNeg = 2 from rfl]
  rw [v2 0 (by decide), v2 1 (by decide), v2 2 (by decide), v3 0 (by decide), v3 1 (by decide), v3 2 (by decide)]
  unfold nAk nAl
  by_cases g0 : lg_cmp (nBr G t1 lamp 0) (nBr G t2 lamp 0) = 0
  · rw [if_pos g0, if_pos g0]
    by_cases g1 : lg_cmp (nBr G t1 lamp 1) (nBr G t2 lamp 1) = 0
    · rw [if_pos g1, if_pos g1]
      by_cases g2 : lg_cmp (nBr G t1 lamp 2) (nBr G t2 lamp 2) = 0
      · rw [if_pos g2, if_pos g2]
      · rw [if_neg g2, if_neg g2]
    · rw [if_neg g1, if_neg g1]
  · rw [if_neg g0, if_neg g0]
theorem zMs.rf {τ : ZS} {G : Nat → Nat} (h : zRow (τ.1 1) G) : zMs τ τ G := ⟨zFM.rf, h⟩
set_option maxHeartbeats 1000000 in
theorem step14 : zStep14 zR := fun σ τ y1 y2 y3 hR => by
  obtain ⟨⟨G, hg⟩, -⟩ := id hR
  have hS := hg.1
  have hI := hg.2.2
  have b1 := hI.2.1
  unfold fX6_alike fX7_alike
  rcases zin_or y1 (G 1) (by omega) with ⟨t, ht, rfl⟩ | ⟨hz, hx⟩
  · rw [hasStack_t hS hI ht, isStack_t hg.2.1 hI ht]
    simp only [zb_mk, if_neg i0]
    rcases zin_or y2 (G 1) (by omega) with ⟨u, hu, rfl⟩ | ⟨hz, hx⟩
    · rw [hasStack_t hS hI hu, isStack_t hg.2.1 hI hu]
      simp only [zb_mk, if_neg i0]
      rw [show (3 : Int32) = nI 3 from rfl]
      rcases zin_or y3 3 (by omega) with ⟨la, hla, rfl⟩ | ⟨hz, hx⟩
      · rw [within_t hla (by omega), isLamp_t hla]
        simp only [zb_mk, if_neg i0]
        obtain ⟨σ1, e1, c1⟩ := look3 hS hI
        obtain ⟨σ2, e2, c2⟩ := alike_C hI c1 ht hu hla
        obtain ⟨τ1, e3, c3⟩ := alike_M hI (zMs.rf hg.2.1) ht hu hla
        rw [e1, zb_mk, e2, zb_mk, e3, zb_mk]
        by_cases h0 : nAk G t u la = 0
        · rw [if_pos h0, if_pos h0]
          exact zAsk.R ⟨_, _, _, rfl, rfl, c2.1, c3.1⟩ hR
        · rw [if_neg h0, if_neg h0]
          exact zAsk.R ⟨_, _, _, rfl, rfl, c2.1, c3.1⟩ hR
      · rw [within_f hx, isLamp_f hz]
        exact sameR hR rfl rfl
    · rw [hasStack_f hS hx, isStack_f hg.2.1 hI hz]
      exact sameR hR rfl rfl
  · rw [hasStack_f hS hx, isStack_f hg.2.1 hI hz]
    exact sameR hR rfl rfl
/-- a false pair -/
def nFk (G : Nat → Nat) (t1 t2 lamp : Nat) : Int32 := if nAk G t1 t2 lamp = (0 : Int32) then 0 else (if nAk G t1 t2 0 = (0 : Int32) then 1 else (if nAk G t1 t2 1 = (0 : Int32) then 1 else (if nAk G t1 t2 2 = (0 : Int32) then 1 else 0)))
theorem false_C {σ σ1 : ZS} {G : Nat → Nat} (hI : zInv G) (c : zCs σ σ1 G) {t1 t2 lamp : Nat} (h1 : t1 < G 1) (h2 : t2 < G 1) (hl : lamp < 3) : ∃ σ2, fX6_isFalsePair (nI t1) (nI t2) (nI lamp) σ1 = some (nFk G t1 t2 lamp, σ2) ∧ zCs σ σ2 G := by
  obtain ⟨σ2, e2, c2⟩ := alike_C hI c h1 h2 hl
  unfold fX6_isFalsePair nFk
  rw [e2, zb_mk]
  by_cases h0 : nAk G t1 t2 lamp = 0
  · rw [if_pos h0, if_pos h0]
    exact ⟨σ2, rfl, c2⟩
  · rw [if_neg h0, if_neg h0]
    unfold fX6_isFalsePair_15 fX6_isFalsePair_15n
    refine zloop_rule (fun i st => ∃ s1 : ZS, st = (nI t1, nI t2, nI i, s1) ∧ i ≤ 3 ∧ zCs σ s1 G ∧ ∀ e, e < i → ¬ nAk G t1 t2 e = 0) 3 (fun o => ∃ σ2 : ZS, o = some ((if nAk G t1 t2 0 = (0 : Int32) then (1 : Int32) else (if nAk G t1 t2 1 = (0 : Int32) then 1 else (if nAk G t1 t2 2 = (0 : Int32) then 1 else 0))), σ2) ∧ zCs σ σ2 G) (fun i s h => h.choose_spec.2.1) ?_ zN 0 _ ⟨σ2, rfl, Nat.zero_le _, c2, fun k h => absurd h (Nat.not_lt_zero k)⟩ (by unfold zN; omega)
    rintro f i st ⟨s1, rfl, hi, cs, hk⟩
    unfold fX6_isFalsePair_15b
    dsimp only
    by_cases e : i = 3
    · subst e
      rw [if_pos (show (3 : Int32) ≤ nI 3 from Int32.le_refl _)]
      rw [if_neg (hk 0 (by decide)), if_neg (hk 1 (by decide)), if_neg (hk 2 (by decide))]
      exact Or.inr ⟨s1, rfl, cs⟩
    · obtain ⟨s2, e4, c4⟩ := alike_C hI cs h1 h2 (show i < 3 by omega)
      rw [if_neg (show ¬ (3 : Int32) ≤ nI i from nI_ge (b := 3) (by omega) (by omega)), e4, zb_mk]
      by_cases hc : nAk G t1 t2 i = 0
      · rw [if_pos hc]
        refine Or.inr ⟨s2, ?_, c4⟩
        rcases (show i = 0 ∨ i = 1 ∨ i = 2 by omega) with rfl | rfl | rfl
        · rw [if_pos hc]
        · rw [if_neg (hk 0 (by decide)), if_pos hc]
        · rw [if_neg (hk 0 (by decide)), if_neg (hk 1 (by decide)), if_pos hc]
      · rw [if_neg hc, show (1 : Int32) = nI 1 from rfl, nI_add]
        refine Or.inl ⟨_, rfl, s2, rfl, by omega, c4, fun k hk2 => ?_⟩
        by_cases ek : k = i
        · subst ek; exact hc
        · exact hk k (by omega)
theorem false_M {τ τ1 : ZS} {G : Nat → Nat} (hI : zInv G) (c : zMs τ τ1 G) {t1 t2 lamp : Nat} (h1 : t1 < G 1) (h2 : t2 < G 1) (hl : lamp < 3) : ∃ τ2, fX7_isFalse (nI t1) (nI t2) (nI lamp) τ1 = some (nFk G t1 t2 lamp, τ2) ∧ zMs τ τ2 G := by
  obtain ⟨τ2, e2, c2⟩ := alike_M hI c h1 h2 hl
  obtain ⟨τ3, e3, c3⟩ := alike_M hI c2 h1 h2 (lamp := 0) (by decide)
  obtain ⟨τ4, e4, c4⟩ := alike_M hI c3 h1 h2 (lamp := 1) (by decide)
  obtain ⟨τ5, e5, c5⟩ := alike_M hI c4 h1 h2 (lamp := 2) (by decide)
  unfold fX7_isFalse nFk
  rw [e2, zb_mk]
  by_cases g : nAk G t1 t2 lamp = 0
  · rw [if_pos g, if_pos g]; exact ⟨τ2, rfl, c2⟩
  · rw [if_neg g, if_neg g, show (0 : Int32) = nI 0 from rfl, e3, zb_mk, show nI 0 = (0 : Int32) from rfl]
    by_cases g0 : nAk G t1 t2 0 = 0
    · rw [if_pos g0, if_pos g0]; exact ⟨τ3, rfl, c3⟩
    · rw [if_neg g0, if_neg g0]
      rw [show fX7_areAlike (nI t1) (nI t2) 1 τ3 = fX7_areAlike (nI t1) (nI t2) (nI 1) τ3 from rfl, e4, zb_mk]
      by_cases g1 : nAk G t1 t2 1 = 0
      · rw [if_pos g1, if_pos g1]; exact ⟨τ4, rfl, c4⟩
      · rw [if_neg g1, if_neg g1]
        rw [show fX7_areAlike (nI t1) (nI t2) 2 τ4 = fX7_areAlike (nI t1) (nI t2) (nI 2) τ4 from rfl, e5, zb_mk]
        by_cases g2 : nAk G t1 t2 2 = 0
        · rw [if_pos g2, if_pos g2]; exact ⟨τ5, rfl, c5⟩
        · rw [if_neg g2, if_neg g2]; exact ⟨τ5, rfl, c5⟩
