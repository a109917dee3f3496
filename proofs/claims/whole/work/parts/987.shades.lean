theorem zCs.fr {σ σ1 σ2 : ZS} {G : Nat → Nat} (c : zCs σ σ1 G) (a : zFC σ1 σ2) (e : σ2.1 20 = σ1.1 20) : zCs σ σ2 G := ⟨c.1.tr a, c.2.1.fr (fun k hk => a _ (by omega)), fun s b hs hb => by rw [e]; exact c.2.2 s b hs hb⟩
theorem zCs.fp {σ σ1 σ2 : ZS} {G : Nat → Nat} (c : zCs σ σ1 G) (a : fP σ1 σ2) : zCs σ σ2 G := c.fr a.FC (a.1 20 (by decide))
theorem zCs.one {σ σ1 σ2 : ZS} {G : Nat → Nat} {q : Nat} (c : zCs σ σ1 G) (a : ∀ k, k ≠ q → σ2.1 k = σ1.1 k) (hq : 19 ≤ q ∧ q ≠ 20 ∧ q ≠ 26 ∧ q ≠ 27 ∧ q ≠ 32 ∧ q ≠ 33 ∧ q ≠ 35 ∧ q ≠ 36) : zCs σ σ2 G := c.fr (fun k hk => a k (by omega)) (a 20 (by omega))
theorem zMs.fr {τ τ1 τ2 : ZS} {G : Nat → Nat} (c : zMs τ τ1 G) (b : zFM τ1 τ2) : zMs τ τ2 G := ⟨c.1.tr b, by rw [b.1 1 (by omega)]; exact c.2⟩
theorem zMs.fp {τ τ1 τ2 : ZS} {G : Nat → Nat} (c : zMs τ τ1 G) (b : fPM τ1 τ2) : zMs τ τ2 G := c.fr b.FM
theorem zMs.one {τ τ1 τ2 : ZS} {G : Nat → Nat} {q : Nat} (c : zMs τ τ1 G) (a : ∀ k, k ≠ q → τ2.1 k = τ1.1 k) (hq : q = 4 ∨ q = 5 ∨ q = 12 ∨ q = 13) : zMs τ τ2 G := c.fr ⟨fun k hk => a k (by omega), by rw [a 0 (by omega)], by rw [a 0 (by omega)], by rw [a 0 (by omega)]⟩
theorem zPl.fr {σ1 σ2 : ZS} {lt : Nat → Nat → Nat} {l : List Nat} (p : zPl σ1 lt l) (e : σ2.2 = σ1.2) (e2 : σ2.1 19 = σ1.1 19) : zPl σ2 lt l := by
  unfold zPl at p ⊢
  rw [e, e2]; exact p
theorem zPM.fr {σ1 σ2 : ZS} {lt : Nat → Nat → Nat} {l : List Nat} (p : zPM σ1 lt l) (e : σ2.2 = σ1.2) : zPM σ2 lt l := by
  unfold zPM at p ⊢
  rw [e]; exact p
/-- a shade of a pile -/
def nS (G : Nat → Nat) (lt : Nat → Nat → Nat) (l : List Nat) (la n e : Nat) : Nat := nSh G (nCo lt l) l.length la n e
theorem nS_le {G : Nat → Nat} (hI : zInv G) {lt : Nat → Nat → Nat} {l : List Nat} (hlt : ∀ s ∈ l, ∀ b, b < 5 → lt s b ≤ 100) {la n e : Nat} (hl : la < 3) (he : e < 3) (hn : n ≤ 10) (hlen : l.length ≤ 8) (h2 : n = 0 ∨ l.length ≤ 6) : nS G lt l la n e ≤ 405 := (room_ok hI hl he hn (fun b hb => nCo_le (fun s hs => hlt s hs b hb)) hlen h2).2.2
theorem shades_25 {σ : ZS} {G : Nat → Nat} {lt : Nat → Nat → Nat} {l : List Nat} (h : zScene σ.1 1 G) (hI : zInv G) (hp : zPl σ lt l) (hlt : ∀ s ∈ l, ∀ b, b < 5 → lt s b ≤ 100) {la n : Nat} (hl : la < 3) (hn : n ≤ 10) (hlen : l.length ≤ 8) (h2 : n = 0 ∨ l.length ≤ 6) : ∃ σ1, fX0_shadesInto_19_25 (nI la) (nI n) σ = some ((), σ1) ∧ σ1.2 = σ.2 ∧ (∀ c, c ≠ 25 → σ1.1 c = σ.1 c) ∧ ∀ e, e < 3 → σ1.1 25 e = nI (nS G lt l la n e) := by
  unfold fX0_shadesInto_19_25 fX0_shadesInto_19_25_3 fX0_shadesInto_19_25_3n
  refine zloop_rule (fun i st => ∃ s1 : ZS, st = (nI la, nI n, nI i, s1) ∧ i ≤ 3 ∧ s1.2 = σ.2 ∧ (∀ c, c ≠ 25 → s1.1 c = σ.1 c) ∧ ∀ e, e < i → s1.1 25 e = nI (nS G lt l la n e)) 3 (fun o => ∃ σ1 : ZS, o = some ((), σ1) ∧ σ1.2 = σ.2 ∧ (∀ c, c ≠ 25 → σ1.1 c = σ.1 c) ∧ ∀ e, e < 3 → σ1.1 25 e = nI (nS G lt l la n e)) (fun i s h => h.choose_spec.2.1) ?_ zN 0 _ ⟨σ, rfl, Nat.zero_le _, rfl, fun _ _ => rfl, fun k h => absurd h (Nat.not_lt_zero k)⟩ (by unfold zN; omega)
  rintro f i st ⟨s1, rfl, h1, h3, h4, h5⟩
  unfold fX0_shadesInto_19_25_3b
  dsimp only
  by_cases e : i = 3
  · subst e
    rw [if_pos (show (3 : Int32) ≤ nI 3 from Int32.le_refl _)]
    exact Or.inr ⟨s1, rfl, h3, h4, h5⟩
  · have g : zScene s1.1 1 G := h.fr (fun k hk => h4 _ (by omega))
    refine Or.inl ⟨(nI la, nI n, nI (i + 1), zI s1 25 i (nI (nS G lt l la n i))), ?_, _, rfl, by omega, h3, fun c hc => ?_, fun k hk => ?_⟩
    · rw [if_neg (show ¬ (3 : Int32) ≤ nI i from nI_ge (b := 3) (by omega) (by omega)), if_neg (show ¬ (3 : Int32) ≤ nI i from nI_ge (b := 3) (by omega) (by omega)), shade_C g hI (hp.fr h3 (h4 19 (by decide))) hlt hl (show i < 3 by omega) hn hlen h2, zb_mk, zin_t (by omega) (by omega), zg_tr, nI_cl (by omega), show (1 : Int32) = nI 1 from rfl, nI_add]; rfl
    · rw [zI_ne _ _ _ hc]; exact h4 c hc
    · rw [zI_at]
      by_cases ek : k = i
      · subst ek; rw [upd_at]
      · rw [upd_ne _ _ ek]; exact h5 k (by omega)
theorem shades_37 {σ : ZS} {G : Nat → Nat} {lt : Nat → Nat → Nat} {l : List Nat} (h : zScene σ.1 1 G) (hI : zInv G) (hp : zPl σ lt l) (hlt : ∀ s ∈ l, ∀ b, b < 5 → lt s b ≤ 100) {la n : Nat} (hl : la < 3) (hn : n ≤ 10) (hlen : l.length ≤ 8) (h2 : n = 0 ∨ l.length ≤ 6) : ∃ σ1, fX0_shadesInto_19_37 (nI la) (nI n) σ = some ((), σ1) ∧ σ1.2 = σ.2 ∧ (∀ c, c ≠ 37 → σ1.1 c = σ.1 c) ∧ ∀ e, e < 3 → σ1.1 37 e = nI (nS G lt l la n e) := by
  unfold fX0_shadesInto_19_37 fX0_shadesInto_19_37_3 fX0_shadesInto_19_37_3n
  refine zloop_rule (fun i st => ∃ s1 : ZS, st = (nI la, nI n, nI i, s1) ∧ i ≤ 3 ∧ s1.2 = σ.2 ∧ (∀ c, c ≠ 37 → s1.1 c = σ.1 c) ∧ ∀ e, e < i → s1.1 37 e = nI (nS G lt l la n e)) 3 (fun o => ∃ σ1 : ZS, o = some ((), σ1) ∧ σ1.2 = σ.2 ∧ (∀ c, c ≠ 37 → σ1.1 c = σ.1 c) ∧ ∀ e, e < 3 → σ1.1 37 e = nI (nS G lt l la n e)) (fun i s h => h.choose_spec.2.1) ?_ zN 0 _ ⟨σ, rfl, Nat.zero_le _, rfl, fun _ _ => rfl, fun k h => absurd h (Nat.not_lt_zero k)⟩ (by unfold zN; omega)
  rintro f i st ⟨s1, rfl, h1, h3, h4, h5⟩
  unfold fX0_shadesInto_19_37_3b
  dsimp only
  by_cases e : i = 3
  · subst e
    rw [if_pos (show (3 : Int32) ≤ nI 3 from Int32.le_refl _)]
    exact Or.inr ⟨s1, rfl, h3, h4, h5⟩
  · have g : zScene s1.1 1 G := h.fr (fun k hk => h4 _ (by omega))
    refine Or.inl ⟨(nI la, nI n, nI (i + 1), zI s1 37 i (nI (nS G lt l la n i))), ?_, _, rfl, by omega, h3, fun c hc => ?_, fun k hk => ?_⟩
    · rw [if_neg (show ¬ (3 : Int32) ≤ nI i from nI_ge (b := 3) (by omega) (by omega)), if_neg (show ¬ (3 : Int32) ≤ nI i from nI_ge (b := 3) (by omega) (by omega)), shade_C g hI (hp.fr h3 (h4 19 (by decide))) hlt hl (show i < 3 by omega) hn hlen h2, zb_mk, zin_t (by omega) (by omega), zg_tr, nI_cl (by omega), show (1 : Int32) = nI 1 from rfl, nI_add]; rfl
    · rw [zI_ne _ _ _ hc]; exact h4 c hc
    · rw [zI_at]
      by_cases ek : k = i
      · subst ek; rw [upd_at]
      · rw [upd_ne _ _ ek]; exact h5 k (by omega)
theorem shades_38 {σ : ZS} {G : Nat → Nat} {lt : Nat → Nat → Nat} {l : List Nat} (h : zScene σ.1 1 G) (hI : zInv G) (hp : zPl σ lt l) (hlt : ∀ s ∈ l, ∀ b, b < 5 → lt s b ≤ 100) {la n : Nat} (hl : la < 3) (hn : n ≤ 10) (hlen : l.length ≤ 8) (h2 : n = 0 ∨ l.length ≤ 6) : ∃ σ1, fX0_shadesInto_19_38 (nI la) (nI n) σ = some ((), σ1) ∧ σ1.2 = σ.2 ∧ (∀ c, c ≠ 38 → σ1.1 c = σ.1 c) ∧ ∀ e, e < 3 → σ1.1 38 e = nI (nS G lt l la n e) := by
  unfold fX0_shadesInto_19_38 fX0_shadesInto_19_38_3 fX0_shadesInto_19_38_3n
  refine zloop_rule (fun i st => ∃ s1 : ZS, st = (nI la, nI n, nI i, s1) ∧ i ≤ 3 ∧ s1.2 = σ.2 ∧ (∀ c, c ≠ 38 → s1.1 c = σ.1 c) ∧ ∀ e, e < i → s1.1 38 e = nI (nS G lt l la n e)) 3 (fun o => ∃ σ1 : ZS, o = some ((), σ1) ∧ σ1.2 = σ.2 ∧ (∀ c, c ≠ 38 → σ1.1 c = σ.1 c) ∧ ∀ e, e < 3 → σ1.1 38 e = nI (nS G lt l la n e)) (fun i s h => h.choose_spec.2.1) ?_ zN 0 _ ⟨σ, rfl, Nat.zero_le _, rfl, fun _ _ => rfl, fun k h => absurd h (Nat.not_lt_zero k)⟩ (by unfold zN; omega)
  rintro f i st ⟨s1, rfl, h1, h3, h4, h5⟩
  unfold fX0_shadesInto_19_38_3b
  dsimp only
  by_cases e : i = 3
  · subst e
    rw [if_pos (show (3 : Int32) ≤ nI 3 from Int32.le_refl _)]
    exact Or.inr ⟨s1, rfl, h3, h4, h5⟩
  · have g : zScene s1.1 1 G := h.fr (fun k hk => h4 _ (by omega))
    refine Or.inl ⟨(nI la, nI n, nI (i + 1), zI s1 38 i (nI (nS G lt l la n i))), ?_, _, rfl, by omega, h3, fun c hc => ?_, fun k hk => ?_⟩
    · rw [if_neg (show ¬ (3 : Int32) ≤ nI i from nI_ge (b := 3) (by omega) (by omega)), if_neg (show ¬ (3 : Int32) ≤ nI i from nI_ge (b := 3) (by omega) (by omega)), shade_C g hI (hp.fr h3 (h4 19 (by decide))) hlt hl (show i < 3 by omega) hn hlen h2, zb_mk, zin_t (by omega) (by omega), zg_tr, nI_cl (by omega), show (1 : Int32) = nI 1 from rfl, nI_add]; rfl
    · rw [zI_ne _ _ _ hc]; exact h4 c hc
    · rw [zI_at]
      by_cases ek : k = i
      · subst ek; rw [upd_at]
      · rw [upd_ne _ _ ek]; exact h5 k (by omega)
theorem shades_M {σ : ZS} {G : Nat → Nat}  {l : List Nat} (h : zRow (σ.1 1) G) (hI : zInv G) (hp : zPM σ (gLt G) l) (hlt : ∀ s ∈ l, ∀ b, b < 5 → (gLt G) s b ≤ 100) {la n : Nat} (hl : la < 3) (hn : n ≤ 10) (hlen : l.length ≤ 8) (h2 : n = 0 ∨ l.length ≤ 6) (h0 : n = 0) : ∃ σ1, fX7_findShades (nI la) σ = some ((), σ1) ∧ σ1.2 = σ.2 ∧ (∀ c, c ≠ 4 → σ1.1 c = σ.1 c) ∧ ∀ e, e < 3 → σ1.1 4 e = nI (nS G (gLt G) l la n e) := by
  unfold fX7_findShades fX7_findShades_2 fX7_findShades_2n
  refine zloop_rule (fun i st => ∃ s1 : ZS, st = (nI la, nI i, s1) ∧ i ≤ 3 ∧ s1.2 = σ.2 ∧ (∀ c, c ≠ 4 → s1.1 c = σ.1 c) ∧ ∀ e, e < i → s1.1 4 e = nI (nS G (gLt G) l la n e)) 3 (fun o => ∃ σ1 : ZS, o = some ((), σ1) ∧ σ1.2 = σ.2 ∧ (∀ c, c ≠ 4 → σ1.1 c = σ.1 c) ∧ ∀ e, e < 3 → σ1.1 4 e = nI (nS G (gLt G) l la n e)) (fun i s h => h.choose_spec.2.1) ?_ zN 0 _ ⟨σ, rfl, Nat.zero_le _, rfl, fun _ _ => rfl, fun k h => absurd h (Nat.not_lt_zero k)⟩ (by unfold zN; omega)
  rintro f i st ⟨s1, rfl, h1, h3, h4, h5⟩
  unfold fX7_findShades_2b
  dsimp only
  by_cases e : i = 3
  · subst e
    rw [if_pos (show (3 : Int32) ≤ nI 3 from Int32.le_refl _)]
    exact Or.inr ⟨s1, rfl, h3, h4, h5⟩
  · have g : zRow (s1.1 1) G := by rw [h4 1 (by decide)]; exact h
    refine Or.inl ⟨(nI la, nI (i + 1), zI s1 4 i (nI (nS G (gLt G) l la n i))), ?_, _, rfl, by omega, h3, fun c hc => ?_, fun k hk => ?_⟩
    · rw [if_neg (show ¬ (3 : Int32) ≤ nI i from nI_ge (b := 3) (by omega) (by omega)), show (0 : Int32) = nI n from by rw [h0]; rfl, shade_M g hI (hp.fr h3) hlt hl (show i < 3 by omega) hn hlen h2, zb_mk, zin_t (by omega) (by omega), zg_tr, nI_cl (by omega), show (1 : Int32) = nI 1 from rfl, nI_add]; rfl
    · rw [zI_ne _ _ _ hc]; exact h4 c hc
    · rw [zI_at]
      by_cases ek : k = i
      · subst ek; rw [upd_at]
      · rw [upd_ne _ _ ek]; exact h5 k (by omega)
theorem keep_M (τ : ZS) : ∃ τ1, fX7_keepShades τ = some ((), τ1) ∧ τ1.2 = τ.2 ∧ (∀ c, c ≠ 5 → τ1.1 c = τ.1 c) ∧ ∀ e, e < 3 → τ1.1 5 e = τ.1 4 e := by
  unfold fX7_keepShades fX7_keepShades_2 fX7_keepShades_2n
  refine zloop_rule (fun i st => ∃ s1 : ZS, st = (nI i, s1) ∧ i ≤ 3 ∧ s1.2 = τ.2 ∧ (∀ c, c ≠ 5 → s1.1 c = τ.1 c) ∧ ∀ e, e < i → s1.1 5 e = τ.1 4 e) 3 (fun o => ∃ τ1 : ZS, o = some ((), τ1) ∧ τ1.2 = τ.2 ∧ (∀ c, c ≠ 5 → τ1.1 c = τ.1 c) ∧ ∀ e, e < 3 → τ1.1 5 e = τ.1 4 e) (fun i s h => h.choose_spec.2.1) ?_ zN 0 _ ⟨τ, rfl, Nat.zero_le _, rfl, fun _ _ => rfl, fun k h => absurd h (Nat.not_lt_zero k)⟩ (by unfold zN; omega)
  rintro f i st ⟨s1, rfl, h1, h3, h4, h5⟩
  unfold fX7_keepShades_2b
  dsimp only
  by_cases e : i = 3
  · subst e
    rw [if_pos (show (3 : Int32) ≤ nI 3 from Int32.le_refl _)]
    exact Or.inr ⟨s1, rfl, h3, h4, h5⟩
  · refine Or.inl ⟨(nI (i + 1), zI s1 5 i (τ.1 4 i)), ?_, _, rfl, by omega, h3, fun c hc => ?_, fun k hk => ?_⟩
    · rw [if_neg (show ¬ (3 : Int32) ≤ nI i from nI_ge (b := 3) (by omega) (by omega)), zin_t (by omega) (by omega), zg_tr, zg_tr, nI_cl (by omega), h4 4 (by decide), show (1 : Int32) = nI 1 from rfl, nI_add]
    · rw [zI_ne _ _ _ hc]; exact h4 c hc
    · rw [zI_at]
      by_cases ek : k = i
      · subst ek; rw [upd_at]
      · rw [upd_ne _ _ ek]; exact h5 k (by omega)
/-- apart -/
def nAb (x y : Nat) : Nat := if x ≤ y then y - x else x - y
theorem nAb_comm (x y : Nat) : nAb x y = nAb y x := by
  unfold nAb
  by_cases h : x ≤ y
  · by_cases h2 : y ≤ x
    · rw [if_pos h, if_pos h2]; omega
    · rw [if_pos h, if_neg h2]
  · rw [if_neg h, if_pos (by omega)]
theorem nAb_le {x y m : Nat} (hx : x ≤ m) (hy : y ≤ m) : nAb x y ≤ m := by unfold nAb; split <;> omega
theorem nAb_zero {x y : Nat} : nAb x y = 0 ↔ x = y := by unfold nAb; split <;> omega
theorem nI_sub_toInt {x y : Nat} (hx : x ≤ 100000) (hy : y ≤ 100000) : (nI x - nI y).toInt = (x : Int) - y := by
  rw [Int32.toInt_sub, nI_toInt (by omega), nI_toInt (by omega)]
  exact Int.bmod_eq_of_le (by omega) (by omega)
theorem abs_eq {x y : Nat} (hx : x ≤ 100000) (hy : y ≤ 100000) : (if 0 ≤ nI x - nI y then nI x - nI y else 0 - (nI x - nI y)) = nI (nAb x y) := by
  have e := nI_sub_toInt hx hy
  have e0 : (0 : Int32).toInt = 0 := rfl
  unfold nAb
  by_cases h : x ≤ y
  · rw [if_pos h]
    by_cases h2 : x = y
    · subst h2
      rw [if_pos (Int32.le_iff_toInt_le.mpr (by rw [e, e0]; omega)), nI_sub (Nat.le_refl _)]
    · rw [if_neg (fun q => by have := Int32.le_iff_toInt_le.mp q; rw [e, e0] at this; omega)]
      apply Int32.toInt_inj.mp
      rw [Int32.toInt_sub, e, e0, nI_toInt (by omega)]
      rw [show (0 : Int) - ((x : Int) - y) = ((y - x : Nat) : Int) by omega]
      exact Int.bmod_eq_of_le (by omega) (by omega)
  · rw [if_neg h, if_pos (Int32.le_iff_toInt_le.mpr (by rw [e, e0]; omega)), nI_sub (by omega)]
theorem apart_eq {x y : Nat} (hx : x ≤ 100000) (hy : y ≤ 100000) (τ : ZS) : fX7_apartFrom (nI x) (nI y) τ = some (nI (nAb x y), τ) := by
  unfold fX7_apartFrom nAb
  by_cases h : x ≤ y
  · rw [if_pos (nI_le h (by omega)), if_pos h, nI_sub h]
  · rw [if_neg (nI_ge (by omega) (by omega)), if_neg h, nI_sub (by omega)]
def nDf (a b : Nat → Nat) : Nat → Nat
  | 0 => 0
  | k + 1 => nDf a b k + nAb (a k) (b k)
theorem nDf_le {a b : Nat → Nat} {m : Nat} : ∀ k, (∀ e, e < k → a e ≤ m ∧ b e ≤ m) → nDf a b k ≤ k * m := by
  intro k
  induction k with
  | zero => exact fun _ => Nat.zero_le _
  | succ k ih =>
    intro h
    have h1 := ih (fun e he => h e (by omega))
    have h2 := nAb_le (h k (by omega)).1 (h k (by omega)).2
    show nDf a b k + nAb (a k) (b k) ≤ (k + 1) * m
    rw [show (k + 1) * m = k * m + m from Nat.succ_mul k m]
    omega
theorem nDf_zero {a b : Nat → Nat} : ∀ k, nDf a b k = 0 ↔ ∀ e, e < k → a e = b e := by
  intro k
  induction k with
  | zero => exact ⟨fun _ e h => absurd h (Nat.not_lt_zero e), fun _ => rfl⟩
  | succ k ih =>
    show nDf a b k + nAb (a k) (b k) = 0 ↔ _
    constructor
    · intro h e he
      by_cases ek : e = k
      · subst ek; exact nAb_zero.mp (by omega)
      · exact ih.mp (by omega) e (by omega)
    · intro h
      have h1 := ih.mpr (fun e he => h e (by omega))
      have h2 := nAb_zero.mpr (h k (by omega))
      omega
theorem nDf_comm (a b : Nat → Nat) : ∀ k, nDf a b k = nDf b a k := by
  intro k
  induction k with
  | zero => rfl
  | succ k ih => show nDf a b k + nAb (a k) (b k) = nDf b a k + nAb (b k) (a k); rw [ih, nAb_comm]
theorem diff_37 {σ : ZS} {a b : Nat → Nat} (ha : ∀ e, e < 3 → σ.1 37 e = nI (a e) ∧ a e ≤ 100000) (hb : ∀ e, e < 3 → σ.1 38 e = nI (b e) ∧ b e ≤ 100000) : fX6_differing_37_38 σ = some (nI (nDf a b 3), σ) := by
  unfold fX6_differing_37_38 fX6_differing_37_38_4 fX6_differing_37_38_4n
  refine zloop_rule (fun i st => st = (nI (nDf a b i), nI i, σ) ∧ i ≤ 3) 3 (fun o => o = some (nI (nDf a b 3), σ)) (fun i s h => h.2) ?_ zN 0 _ ⟨rfl, Nat.zero_le _⟩ (by unfold zN; omega)
  rintro f i st ⟨rfl, hi⟩
  unfold fX6_differing_37_38_4b
  dsimp only
  by_cases e : i = 3
  · subst e
    rw [if_pos (show (3 : Int32) ≤ nI 3 from Int32.le_refl _)]
    exact Or.inr rfl
  · rw [if_neg (show ¬ (3 : Int32) ≤ nI i from nI_ge (b := 3) (by omega) (by omega)), if_neg (show ¬ (3 : Int32) ≤ nI i from nI_ge (b := 3) (by omega) (by omega)), zin_t (by omega) (by omega), zg_tr, zg_tr, nI_cl (by omega), (ha i (by omega)).1, (hb i (by omega)).1, abs_eq (ha i (by omega)).2 (hb i (by omega)).2, nI_add, show (1 : Int32) = nI 1 from rfl, nI_add]
    exact Or.inl ⟨_, rfl, rfl, by omega⟩
theorem diff_25 {σ : ZS} {a b : Nat → Nat} (ha : ∀ e, e < 3 → σ.1 25 e = nI (a e) ∧ a e ≤ 100000) (hb : ∀ e, e < 3 → σ.1 9 e = nI (b e) ∧ b e ≤ 100000) : fX6_differing_25_9 σ = some (nI (nDf a b 3), σ) := by
  unfold fX6_differing_25_9 fX6_differing_25_9_4 fX6_differing_25_9_4n
  refine zloop_rule (fun i st => st = (nI (nDf a b i), nI i, σ) ∧ i ≤ 3) 3 (fun o => o = some (nI (nDf a b 3), σ)) (fun i s h => h.2) ?_ zN 0 _ ⟨rfl, Nat.zero_le _⟩ (by unfold zN; omega)
  rintro f i st ⟨rfl, hi⟩
  unfold fX6_differing_25_9_4b
  dsimp only
  by_cases e : i = 3
  · subst e
    rw [if_pos (show (3 : Int32) ≤ nI 3 from Int32.le_refl _)]
    exact Or.inr rfl
  · rw [if_neg (show ¬ (3 : Int32) ≤ nI i from nI_ge (b := 3) (by omega) (by omega)), if_neg (show ¬ (3 : Int32) ≤ nI i from nI_ge (b := 3) (by omega) (by omega)), zin_t (by omega) (by omega), zg_tr, zg_tr, nI_cl (by omega), (ha i (by omega)).1, (hb i (by omega)).1, abs_eq (ha i (by omega)).2 (hb i (by omega)).2, nI_add, show (1 : Int32) = nI 1 from rfl, nI_add]
    exact Or.inl ⟨_, rfl, rfl, by omega⟩
/-- dark: one more sheet, again and again -/
theorem add_full {σ : ZS} {s : Nat} (hs : s < 8) (h : σ.1 19 4 = nI 8) : fX0_add (nI s) σ = some ((), σ) := by
  unfold fX0_add
  rw [show (8 : Int32) = nI 8 from rfl, within_t hs (by omega), zb_mk, if_neg i0, h, if_neg (fun q => absurd q Int32.lt_irrefl)]
def dPl (G : Nat → Nat) (t s : Nat) : Nat → List Nat
  | 0 => sPl G t
  | k + 1 => s :: dPl G t s k
theorem dPl_len (G : Nat → Nat) (t s : Nat) : ∀ k, (dPl G t s k).length = (sPl G t).length + k := by
  intro k
  induction k with
  | zero => rfl
  | succ k ih => show (dPl G t s k).length + 1 = _; rw [ih]; omega
theorem dPl_lt {G : Nat → Nat} (hI : zInv G) {t s : Nat} (ht : t < G 1) (hs : s < G 0) : ∀ k, ∀ x ∈ dPl G t s k, ∀ b, b < 5 → gLt G x b ≤ 100 := by
  intro k
  induction k with
  | zero => exact pile_lt hI ht 99
  | succ k ih =>
    intro x hx b hb
    rcases List.mem_cons.mp hx with rfl | hx
    · exact gLt_le hI hs hb
    · exact ih x hx b hb
theorem isDark_eq {σ : ZS} {G : Nat → Nat} {lt : Nat → Nat → Nat} {l : List Nat} (h : zScene σ.1 1 G) (hI : zInv G) (hp : zPl σ lt l) (hlt : ∀ s ∈ l, ∀ b, b < 5 → lt s b ≤ 100) {la : Nat} (hl : la < 3) (hlen : l.length ≤ 8) : fX0_isDark (nI la) σ = some (if nS G lt l la 0 0 + nS G lt l la 0 1 + nS G lt l la 0 2 = 0 then 1 else 0, σ) := by
  unfold fX0_isDark fX0_isDark_2 fX0_isDark_2n
  refine zloop_rule (fun i st => st = (nI la, nI i, σ) ∧ i ≤ 3 ∧ ∀ e, e < i → nS G lt l la 0 e = 0) 3 (fun o => o = some (if nS G lt l la 0 0 + nS G lt l la 0 1 + nS G lt l la 0 2 = 0 then 1 else 0, σ)) (fun i s h => h.2.1) ?_ zN 0 _ ⟨rfl, Nat.zero_le _, fun k h => absurd h (Nat.not_lt_zero k)⟩ (by unfold zN; omega)
  rintro f i st ⟨rfl, hi, hk⟩
  unfold fX0_isDark_2b
  dsimp only
  by_cases e : i = 3
  · subst e
    rw [if_pos (show (3 : Int32) ≤ nI 3 from Int32.le_refl _), if_pos (by rw [hk 0 (by decide), hk 1 (by decide), hk 2 (by decide)])]
    exact Or.inr rfl
  · have hle := nS_le hI hlt hl (show i < 3 by omega) (show 0 ≤ 10 by decide) hlen (Or.inl rfl)
    rw [if_neg (show ¬ (3 : Int32) ≤ nI i from nI_ge (b := 3) (by omega) (by omega)), show fX0_shadeOf (nI la) 0 (nI i) σ = fX0_shadeOf (nI la) (nI 0) (nI i) σ from rfl, shade_C h hI hp hlt hl (show i < 3 by omega) (show 0 ≤ 10 by decide) hlen (Or.inl rfl), zb_mk]
    show (∃ s', (if nI (nS G lt l la 0 i) = 0 then _ else _) = f s' ∧ _) ∨ (if nI (nS G lt l la 0 i) = 0 then _ else _) = _
    by_cases h0 : nS G lt l la 0 i = 0
    · rw [if_pos (show nI (nS G lt l la 0 i) = 0 by rw [h0]; rfl), show nI i + 1 = nI (i + 1) from nI_add i 1]
      refine Or.inl ⟨_, rfl, rfl, by omega, fun k hk2 => ?_⟩
      by_cases ek : k = i
      · subst ek; exact h0
      · exact hk k (by omega)
    · rw [if_neg (show ¬ nI (nS G lt l la 0 i) = (0 : Int32) from fun e => h0 ((nI_eq_iff (b := 0) (by omega) (by omega)).mp e))]
      refine Or.inr ?_
      rw [if_neg (by rcases (show i = 0 ∨ i = 1 ∨ i = 2 by omega) with rfl | rfl | rfl <;> omega)]
theorem dark_56 {τ τ1 : ZS} {G : Nat → Nat} {l : List Nat} (hI : zInv G) (c : zMs τ τ1 G) (hp : zPM τ1 (gLt G) l) (hlt : ∀ s ∈ l, ∀ b, b < 5 → gLt G s b ≤ 100) {la : Nat} (hl : la < 3) (hlen : l.length ≤ 8) (k33 : Int32 → Int32 → Int32 → Int32 → ZS → Option (Int32 × ZS)) (x1 x3 x4 : Int32) : ∃ τ2, fX7_dark_56 k33 x1 (nI la) x3 x4 τ1 = (if nS G (gLt G) l la 0 0 + nS G (gLt G) l la 0 1 + nS G (gLt G) l la 0 2 = 0 then some (x4, τ2) else k33 x1 (nI la) x3 (x4 + 1) τ2) ∧ zMs τ τ2 G ∧ zPM τ2 (gLt G) l := by
  obtain ⟨τ2, e2, f1, f2, v2⟩ := shades_M c.2 hI hp hlt hl (show 0 ≤ 10 by decide) hlen (Or.inl rfl) rfl
  refine ⟨τ2, ?_, c.one f2 (by decide), hp.fr f1⟩
  unfold fX7_dark_56
  rw [e2]
  simp only [zb_mk, show zin (0 : Int32) 3 = true from rfl, show zin (1 : Int32) 3 = true from rfl, show zin (2 : Int32) 3 = true from rfl, zg_tr, show (0 : Int32).toNatClampNeg = 0 from rfl, show (1 : Int32).toNatClampNeg = 1 from rfl, show (2 : Int32).toNatClampNeg = 2 from rfl]
  rw [v2 0 (by decide), v2 1 (by decide), v2 2 (by decide), nI_add, nI_add]
  have q0 := nS_le hI hlt hl (show 0 < 3 by decide) (show 0 ≤ 10 by decide) hlen (Or.inl rfl)
  have q1 := nS_le hI hlt hl (show 1 < 3 by decide) (show 0 ≤ 10 by decide) hlen (Or.inl rfl)
  have q2 := nS_le hI hlt hl (show 2 < 3 by decide) (show 0 ≤ 10 by decide) hlen (Or.inl rfl)
  by_cases h : nS G (gLt G) l la 0 0 + nS G (gLt G) l la 0 1 + nS G (gLt G) l la 0 2 = 0
  · rw [if_pos h, if_pos (show nI (nS G (gLt G) l la 0 0 + nS G (gLt G) l la 0 1 + nS G (gLt G) l la 0 2) = 0 by rw [h]; rfl)]
  · rw [if_neg h, if_neg (show ¬ nI (nS G (gLt G) l la 0 0 + nS G (gLt G) l la 0 1 + nS G (gLt G) l la 0 2) = (0 : Int32) from fun e => h ((nI_eq_iff (b := 0) (by omega) (by omega)).mp e))]
set_option maxHeartbeats 1000000 in
theorem dark_both {σ τ σ1 τ1 : ZS} {G : Nat → Nat} (hI : zInv G) (c : zCs σ σ1 G) (d : zMs τ τ1 G) {t la s : Nat} (ht : t < G 1) (hl : la < 3) (hs : s < G 0) (p : zPl σ1 (gLt G) (sPl G t)) (q : zPM τ1 (gLt G) (sPl G t)) : ∃ (r : Int32) (σ2 τ2 : ZS), fX6_dark_64 (nI la) (nI s) (nI 8 - nI (G (58 + 7 * t))) 0 σ1 = some (r, σ2) ∧ fX7_dark_33 (nI t) (nI la) (nI s) 0 τ1 = some (r, τ2) ∧ zCs σ σ2 G ∧ zMs τ τ2 G := by
  have b0 := hI.1
  have b1 := hI.2.1
  have h6 := in_hgt hI (show t < 6 by omega)
  have hlen := sPl_len hI ht
  rw [nI_sub (by omega)]
  unfold fX6_dark_64 fX6_dark_64n fX7_dark_33 fX7_dark_33n
  refine zloop2 (fun k st st' => ∃ s1 t1 : ZS, st = (nI la, nI s, nI (8 - G (58 + 7 * t)), nI k, s1) ∧ st' = (nI t, nI la, nI s, nI k, t1) ∧ k ≤ 9 - G (58 + 7 * t) ∧ zCs σ s1 G ∧ zMs τ t1 G ∧ (k ≤ 8 - G (58 + 7 * t) → zPl s1 (gLt G) (dPl G t s k) ∧ zPM t1 (gLt G) (dPl G t s (k - 1)))) 9 (fun o o' => ∃ (r : Int32) (σ2 τ2 : ZS), o = some (r, σ2) ∧ o' = some (r, τ2) ∧ zCs σ σ2 G ∧ zMs τ τ2 G) (fun i s s' h => by obtain ⟨_, _, _, _, h, _⟩ := h; omega) ?_ zN 0 _ _ ⟨σ1, τ1, rfl, rfl, Nat.zero_le _, c, d, fun _ => ⟨p, q⟩⟩ (by unfold zN; omega)
  rintro f g k st st' ⟨s1, t1, rfl, rfl, hk, cs, ms, hp⟩
  unfold fX6_dark_64b fX7_dark_33b
  dsimp only
  rw [size_eq ms.2 (by omega), zb_mk, nI_add, show (8 : Int32) = nI 8 from rfl]
  by_cases e : k = 9 - G (58 + 7 * t)
  · rw [if_pos (show nI (8 - G (58 + 7 * t)) < nI k from (nI_lt_iff (by omega) (by omega)).mpr (by omega)), if_pos (show nI 8 < nI (k + G (58 + 7 * t)) from (nI_lt_iff (by omega) (by omega)).mpr (by omega))]
    exact Or.inr ⟨_, _, _, rfl, rfl, cs, ms⟩
  · obtain ⟨p1, p2⟩ := hp (by omega)
    have hd := dPl_len G t s k
    have hdl := dPl_lt hI ht hs k
    rw [if_neg (show ¬ nI (8 - G (58 + 7 * t)) < nI k from fun e2 => absurd ((nI_lt_iff (by omega) (by omega)).mp e2) (by omega)), if_neg (show ¬ nI 8 < nI (k + G (58 + 7 * t)) from fun e2 => absurd ((nI_lt_iff (by omega) (by omega)).mp e2) (by omega)), isDark_eq cs.2.1 hI p1 hdl hl (by omega), zb_mk]
    have hm : ∃ t2, (if nI k ≤ (0 : Int32) then fX7_dark_56 (fun x1 x2 x3 x4 s => g (x1, x2, x3, x4, s)) (nI t) (nI la) (nI s) (nI k) t1 else zb (fX7_lays (nI s) t1) fun u9 s9 => fX7_dark_56 (fun x1 x2 x3 x4 s => g (x1, x2, x3, x4, s)) (nI t) (nI la) (nI s) (nI k) s9) = (if nS G (gLt G) (dPl G t s k) la 0 0 + nS G (gLt G) (dPl G t s k) la 0 1 + nS G (gLt G) (dPl G t s k) la 0 2 = 0 then some (nI k, t2) else g (nI t, nI la, nI s, nI k + 1, t2)) ∧ zMs τ t2 G ∧ zPM t2 (gLt G) (dPl G t s k) := by
      by_cases k0 : k = 0
      · subst k0
        rw [if_pos (show nI 0 ≤ (0 : Int32) from Int32.le_refl _)]
        exact dark_56 hI ms (show zPM t1 (gLt G) (dPl G t s 0) from p2) hdl hl (by omega) (fun x1 x2 x3 x4 s => g (x1, x2, x3, x4, s)) _ _ _
      · rw [if_neg (show ¬ nI k ≤ (0 : Int32) from nI_ge (b := k) (a := 0) (by omega) (by omega))]
        obtain ⟨t2, e2, f2, q2⟩ := lays_eq ms.2 hI (show s < 8 by omega) p2
        rw [e2, zb_mk]
        have q3 : zPM t2 (gLt G) (dPl G t s k) := by
          have : dPl G t s k = s :: dPl G t s (k - 1) := by
            obtain ⟨j, rfl⟩ : ∃ j, k = j + 1 := ⟨k - 1, by omega⟩
            rfl
          rw [this]; exact q2
        exact dark_56 hI (ms.fp f2) q3 hdl hl (by omega) (fun x1 x2 x3 x4 s => g (x1, x2, x3, x4, s)) _ _ _
    obtain ⟨t2, em, m2, q2⟩ := hm
    rw [em]
    by_cases h0 : nS G (gLt G) (dPl G t s k) la 0 0 + nS G (gLt G) (dPl G t s k) la 0 1 + nS G (gLt G) (dPl G t s k) la 0 2 = 0
    · rw [if_pos h0, if_pos h0, if_neg i0]
      exact Or.inr ⟨_, _, _, rfl, rfl, cs, m2⟩
    · rw [if_neg h0, if_neg h0, if_pos rfl, show nI k + 1 = nI (k + 1) from nI_add k 1]
      refine Or.inl ?_
      by_cases ek : k = 8 - G (58 + 7 * t)
      · rw [add_full (show s < 8 by omega) (by rw [p1.2.2]; congr 1; omega), zb_mk]
        exact ⟨_, _, rfl, rfl, s1, t2, rfl, rfl, by omega, cs, m2, fun h => by omega⟩
      · obtain ⟨s2, e5, f5, p5⟩ := add_eq b0 hs cs.2.2 p1 (by omega) (fun b hb => gLt_le hI hs hb)
        rw [e5, zb_mk]
        exact ⟨_, _, rfl, rfl, s2, t2, rfl, rfl, by omega, cs.fp f5, m2, fun h => ⟨p5, by rw [Nat.add_sub_cancel]; exact q2⟩⟩
set_option maxHeartbeats 1000000 in
theorem step21 : zStep21 zR := fun σ τ y1 y2 y3 hR => by
  obtain ⟨⟨G, hg⟩, -⟩ := id hR
  have hS := hg.1
  have hI := hg.2.2
  have b0 := hI.1
  have b1 := hI.2.1
  unfold fX6_dark fX7_dark
  rcases zin_or y1 (G 1) (by omega) with ⟨t, ht, rfl⟩ | ⟨hz, hx⟩
  · rw [hasStack_t hS hI ht, isStack_t hg.2.1 hI ht]
    simp only [zb_mk, if_neg i0]
    rw [show (3 : Int32) = nI 3 from rfl]
    rcases zin_or y2 3 (by omega) with ⟨la, hla, rfl⟩ | ⟨hz, hx⟩
    · rw [within_t hla (by omega), isLamp_t hla]
      simp only [zb_mk, if_neg i0]
      rcases zin_or y3 (G 0) (by omega) with ⟨s, hs, rfl⟩ | ⟨hz, hx⟩
      · rw [hasSheet_t hS hI hs, isSheet_t hg.2.1 hI hs]
        simp only [zb_mk, if_neg i0]
        obtain ⟨σ1, e1, c1⟩ := look3 hS hI
        obtain ⟨σ2, e2, c2, p2, -⟩ := pile3 hI c1 ht
        obtain ⟨τ1, e3, c3, p3, -⟩ := shines3 hI (zMs.rf hg.2.1) ht
        rw [e1, zb_mk, e2, zb_mk, e3, zb_mk, zin_t (by omega) (show t < 6 by omega), zg_tr, nI_cl (by omega), sc_hgt c2.2.1 (show t < 6 by omega)]
        obtain ⟨r, σ3, τ3, e4, e5, c4, m4⟩ := dark_both hI c2 c3 ht hla hs p2 p3
        exact zAsk.R ⟨r, σ3, τ3, e4, e5, c4.1, m4.1⟩ hR
      · rw [hasSheet_f hS hx, isSheet_f hg.2.1 hI hz]
        exact sameR hR rfl rfl
    · rw [within_f hx, isLamp_f hz]
      exact sameR hR rfl rfl
  · rw [hasStack_f hS hx, isStack_f hg.2.1 hI hz]
    exact sameR hR rfl rfl
