/-- what is looked up of the sheets, by the class -/
def zLk (σ : ZS) (m : Nat) (lt : Nat → Nat → Nat) : Prop := ∀ s b, s < m → b < 5 → σ.1 20 (5 * s + b) = nI (lt s b)
theorem lookAs_eq {σ : ZS} {G : Nat → Nat} (h : zScene σ.1 1 G) (hI : zInv G) {s kd fg : Nat} (hs : s < G 0) (hk : kd ≤ 5) (hf : fg ≤ 9) : ∃ τ : ZS, fX0_lookAtSheetAs (nI s) (nI kd) (nI fg) σ = some ((), τ) ∧ (∀ c, c ≠ 20 → τ.1 c = σ.1 c) ∧ τ.2 = σ.2 ∧ (∀ b, b < 5 → τ.1 20 (5 * s + b) = nI (nLet G s kd fg b)) ∧ ∀ k, (k < 5 * s ∨ 5 * s + 5 ≤ k) → τ.1 20 k = σ.1 20 k := by
  have b0 := hI.1
  unfold fX0_lookAtSheetAs
  rw [show (8 : Int32) = nI 8 from rfl, within_t (show s < 8 by omega) (by omega), zb_mk, if_neg i0]
  unfold fX0_lookAtSheetAs_13 fX0_lookAtSheetAs_13n
  refine zloop_rule (fun i st => ∃ s1 : ZS, st = (nI s, nI kd, nI fg, nI i, s1) ∧ i ≤ 5 ∧ (∀ c, c ≠ 20 → s1.1 c = σ.1 c) ∧ s1.2 = σ.2 ∧ (∀ b, b < i → s1.1 20 (5 * s + b) = nI (nLet G s kd fg b)) ∧ ∀ k, (k < 5 * s ∨ 5 * s + 5 ≤ k) → s1.1 20 k = σ.1 20 k) 5 (fun o => ∃ τ : ZS, o = some ((), τ) ∧ (∀ c, c ≠ 20 → τ.1 c = σ.1 c) ∧ τ.2 = σ.2 ∧ (∀ b, b < 5 → τ.1 20 (5 * s + b) = nI (nLet G s kd fg b)) ∧ ∀ k, (k < 5 * s ∨ 5 * s + 5 ≤ k) → τ.1 20 k = σ.1 20 k) (fun i s h => h.choose_spec.2.1) ?_ zN 0 _ ⟨σ, rfl, Nat.zero_le _, fun _ _ => rfl, rfl, fun z h => absurd h (Nat.not_lt_zero z), fun _ _ => rfl⟩ (by unfold zN; omega)
  rintro f i st ⟨s1, rfl, h1, h2, h3, h4, h5⟩
  unfold fX0_lookAtSheetAs_13b
  dsimp only
  by_cases hi : i = 5
  · subst hi
    rw [if_pos (show (5 : Int32) ≤ nI 5 from Int32.le_refl _)]
    exact Or.inr ⟨s1, rfl, h2, h3, h4, h5⟩
  · refine Or.inl ?_
    rw [if_neg (show ¬ (5 : Int32) ≤ nI i from nI_ge (b := 5) (by omega) (by omega)), letsAs_eq (h.fr (fun k hk => h2 _ (by omega))) hI hs hk hf (by omega), zb_mk]
    simp only [li, nI_mul, nI_add]
    rw [zin_t (by omega) (by omega), zg_tr, nI_cl (by omega)]
    refine ⟨_, rfl, zI s1 20 (s * 5 + i) (nI (nLet G s kd fg i)), rfl, by omega, fun c hc => by rw [zI_ne _ _ _ hc]; exact h2 c hc, h3, fun z hz => ?_, fun k hk => ?_⟩
    · rw [zI_at]
      by_cases e : z = i
      · subst e; rw [show s * 5 + z = 5 * s + z by omega, upd_at]
      · rw [upd_ne _ _ (by omega)]; exact h4 z (by omega)
    · rw [zI_at, upd_ne _ _ (by omega)]; exact h5 k hk
theorem look_eq {σ : ZS} {G : Nat → Nat} (h : zScene σ.1 1 G) (hI : zInv G) : ∃ τ : ZS, fX0_lookAtSheets σ = some ((), τ) ∧ (∀ c, c ≠ 20 → τ.1 c = σ.1 c) ∧ τ.2 = σ.2 ∧ zLk τ (G 0) (gLt G) := by
  have b0 := hI.1
  unfold fX0_lookAtSheets fX0_lookAtSheets_2 fX0_lookAtSheets_2n
  refine zloop_rule (fun i st => ∃ s1 : ZS, st = (nI i, s1) ∧ i ≤ G 0 ∧ (∀ c, c ≠ 20 → s1.1 c = σ.1 c) ∧ s1.2 = σ.2 ∧ zLk s1 i (gLt G)) (G 0) (fun o => ∃ τ : ZS, o = some ((), τ) ∧ (∀ c, c ≠ 20 → τ.1 c = σ.1 c) ∧ τ.2 = σ.2 ∧ zLk τ (G 0) (gLt G)) (fun i s h => h.choose_spec.2.1) ?_ zN 0 _ ⟨σ, rfl, Nat.zero_le _, fun _ _ => rfl, rfl, fun s b h => absurd h (Nat.not_lt_zero s)⟩ (by unfold zN; omega)
  rintro f i st ⟨s1, rfl, h1, h2, h3, h4⟩
  unfold fX0_lookAtSheets_2b
  dsimp only
  have hS1 := h.fr (g := s1.1) (fun k hk => h2 _ (by omega))
  rw [hS1.1]
  by_cases hi : i = G 0
  · rw [← hi, if_pos (Int32.le_refl _), hi] at *
    exact Or.inr ⟨s1, rfl, h2, h3, h4⟩
  · refine Or.inl ?_
    obtain ⟨s2, e, f2, f3, v, w⟩ := lookAs_eq hS1 hI (s := i) (by omega) (in_kind hI (s := i) (by omega)) (in_fig hI (s := i) (by omega))
    rw [if_neg (nI_ge (by omega) (by omega)), zin_t (by omega) (by omega), zg_tr, zg_tr, nI_cl (by omega), sc_kind hS1 (by omega), sc_fig hS1 (by omega), e, zb_mk, show (1 : Int32) = nI 1 from rfl, nI_add]
    refine ⟨_, rfl, s2, rfl, by omega, fun c hc => by rw [f2 c hc]; exact h2 c hc, by rw [f3]; exact h3, fun s b hs hb => ?_⟩
    by_cases es : s = i
    · subst es; exact v b hb
    · rw [w _ (by omega)]; exact h4 s b (by omega) hb
/-- piles: the last sheet laid is the head -/
def nCo (lt : Nat → Nat → Nat) : List Nat → Nat → Nat
  | [], _ => 1
  | s :: l, b => nCo lt l b * lt s b
theorem nCo_le {lt : Nat → Nat → Nat} {b : Nat} : ∀ {l : List Nat}, (∀ s ∈ l, lt s b ≤ 100) → nCo lt l b ≤ 100 ^ l.length
  | [], _ => Nat.le_refl 1
  | s :: l, h => by
    have h1 := nCo_le (l := l) (b := b) (fun x hx => h x (List.mem_cons_of_mem _ hx))
    have h2 := h s List.mem_cons_self
    show nCo lt l b * lt s b ≤ 100 ^ (l.length + 1)
    rw [Nat.pow_succ]
    exact Nat.mul_le_mul h1 h2
def zPl (σ : ZS) (lt : Nat → Nat → Nat) (l : List Nat) : Prop := (∀ b, b < 5 → σ.2 21 b = lN (nCo lt l b)) ∧ σ.2 19 3 = lN (100 ^ l.length) ∧ σ.1 19 4 = nI l.length
def zPM (τ : ZS) (lt : Nat → Nat → Nat) (l : List Nat) : Prop := (∀ b, b < 5 → τ.2 3 b = lN (nCo lt l b)) ∧ τ.2 0 4 = lN (100 ^ l.length)
def fP (σ σ1 : ZS) : Prop := (∀ c, c ≠ 19 → σ1.1 c = σ.1 c) ∧ ∀ c, c ≠ 19 → c ≠ 21 → σ1.2 c = σ.2 c
def fPM (τ τ1 : ZS) : Prop := τ1.1 = τ.1 ∧ ∀ c, c ≠ 0 → c ≠ 3 → τ1.2 c = τ.2 c
theorem fP.rf {σ : ZS} : fP σ σ := ⟨fun _ _ => rfl, fun _ _ _ => rfl⟩
theorem fPM.rf {σ : ZS} : fPM σ σ := ⟨rfl, fun _ _ _ => rfl⟩
theorem fP.tr {a b c : ZS} (h : fP a b) (h2 : fP b c) : fP a c := ⟨fun k hk => (h2.1 k hk).trans (h.1 k hk), fun k hk h3 => (h2.2 k hk h3).trans (h.2 k hk h3)⟩
theorem fPM.tr {a b c : ZS} (h : fPM a b) (h2 : fPM b c) : fPM a c := ⟨h2.1.trans h.1, fun k hk h3 => (h2.2 k hk h3).trans (h.2 k hk h3)⟩
theorem zL_same (σ : ZS) (q k : Nat) (x : Int64) : (zL σ q k x).2 q = vp_updL (σ.2 q) k x := zL_at σ q k x
theorem updL_at (f : Nat → Int64) (k : Nat) (x : Int64) : vp_updL f k x k = x := pk_uLs
theorem updL_ne (f : Nat → Int64) {k j : Nat} (x : Int64) (h : j ≠ k) : vp_updL f k x j = f j := pk_uLn h
theorem clear_eq (σ : ZS) (lt : Nat → Nat → Nat) : ∃ τ : ZS, fX0_clear σ = some ((), τ) ∧ fP σ τ ∧ zPl τ lt [] := by
  unfold fX0_clear fX0_clear_2 fX0_clear_2n
  refine zloop_rule (fun i st => ∃ s1 : ZS, st = (nI i, s1) ∧ i ≤ 5 ∧ s1.1 = σ.1 ∧ (∀ c, c ≠ 21 → s1.2 c = σ.2 c) ∧ ∀ b, b < i → s1.2 21 b = 1) 5 (fun o => ∃ τ : ZS, o = some ((), τ) ∧ fP σ τ ∧ zPl τ lt []) (fun i s h => h.choose_spec.2.1) ?_ zN 0 _ ⟨σ, rfl, Nat.zero_le _, rfl, fun _ _ => rfl, fun b h => absurd h (Nat.not_lt_zero b)⟩ (by unfold zN; omega)
  rintro f i st ⟨s1, rfl, h1, h2, h3, h4⟩
  unfold fX0_clear_2b
  dsimp only
  by_cases hi : i = 5
  · subst hi
    rw [if_pos (show (5 : Int32) ≤ nI 5 from Int32.le_refl _)]
    refine Or.inr ⟨_, rfl, ⟨fun c hc => ?_, fun c hc hc2 => ?_⟩, fun b hb => ?_, ?_, ?_⟩
    · rw [zI_ne _ _ _ hc, zL1, h2]
    · rw [zI2, zL_ne _ _ _ hc]; exact h3 c hc2
    · rw [zI2, zL_ne _ _ _ (show 21 ≠ 19 by decide)]; exact h4 b hb
    · rw [zI2, zL_at, updL_at]; rfl
    · rw [zI_at, upd_at]; rfl
  · refine Or.inl ?_
    rw [if_neg (show ¬ (5 : Int32) ≤ nI i from nI_ge (b := 5) (by omega) (by omega)), zin_t (by omega) (by omega), zg_tr, nI_cl (by omega), show (1 : Int32) = nI 1 from rfl, nI_add]
    refine ⟨_, rfl, zL s1 21 i 1, rfl, by omega, h2, fun c hc => by rw [zL_ne _ _ _ hc]; exact h3 c hc, fun b hb => ?_⟩
    rw [zL_at]
    by_cases e : b = i
    · subst e; rw [updL_at]
    · rw [updL_ne _ _ e]; exact h4 b (by omega)
theorem add_eq {σ : ZS} {lt : Nat → Nat → Nat} {m s : Nat} {l : List Nat} (hm : m ≤ 8) (hs : s < m) (hk : zLk σ m lt) (hp : zPl σ lt l) (hl : l.length < 8) (hb : ∀ b, b < 5 → lt s b ≤ 100) : ∃ τ : ZS, fX0_add (nI s) σ = some ((), τ) ∧ fP σ τ ∧ zPl τ lt (s :: l) := by
  unfold fX0_add
  rw [show (8 : Int32) = nI 8 from rfl, within_t (show s < 8 by omega) (by omega), zb_mk, if_neg i0, hp.2.2, if_pos ((nI_lt_iff (by omega) (by omega)).mpr hl)]
  unfold fX0_add_21 fX0_add_21n
  refine zloop_rule (fun i st => ∃ s1 : ZS, st = (nI s, nI i, s1) ∧ i ≤ 5 ∧ s1.1 = σ.1 ∧ (∀ c, c ≠ 21 → s1.2 c = σ.2 c) ∧ (∀ b, b < i → s1.2 21 b = lN (nCo lt (s :: l) b)) ∧ ∀ b, i ≤ b → s1.2 21 b = σ.2 21 b) 5 (fun o => ∃ τ : ZS, o = some ((), τ) ∧ fP σ τ ∧ zPl τ lt (s :: l)) (fun i s h => h.choose_spec.2.1) ?_ zN 0 _ ⟨σ, rfl, Nat.zero_le _, rfl, fun _ _ => rfl, fun b h => absurd h (Nat.not_lt_zero b), fun _ _ => rfl⟩ (by unfold zN; omega)
  rintro f i st ⟨s1, rfl, h1, h2, h3, h4, h5⟩
  unfold fX0_add_21b
  dsimp only
  by_cases hi : i = 5
  · subst hi
    rw [if_pos (show (5 : Int32) ≤ nI 5 from Int32.le_refl _)]
    refine Or.inr ⟨_, rfl, ⟨fun c hc => ?_, fun c hc hc2 => ?_⟩, fun b hb => ?_, ?_, ?_⟩
    · rw [zI_ne _ _ _ hc, zL1, h2]
    · rw [zI2, zL_ne _ _ _ hc]; exact h3 c hc2
    · rw [zI2, zL_ne _ _ _ (show 21 ≠ 19 by decide)]; exact h4 b hb
    · rw [zI2, zL_at, updL_at, h3 19 (by decide), hp.2.1, show (100 : Int64) = lN 100 from rfl, lN_mul]; rfl
    · rw [zI_at, upd_at, zL1, h2, hp.2.2, show (1 : Int32) = nI 1 from rfl, nI_add]; rfl
  · refine Or.inl ?_
    rw [if_neg (show ¬ (5 : Int32) ≤ nI i from nI_ge (b := 5) (by omega) (by omega))]
    simp only [li, nI_mul, nI_add]
    have hv := hb i (by omega)
    rw [zin_t (by omega) (by omega), zin_t (by omega) (by omega)]
    simp only [zg_tr]
    rw [nI_cl (by omega), nI_cl (by omega), h2, show s * 5 + i = 5 * s + i by omega, hk s i hs (by omega), h5 i (Nat.le_refl i), hp.1 i (by omega), nI_l (by omega), lN_mul]
    refine ⟨_, rfl, zL s1 21 i (lN (nCo lt l i * lt s i)), rfl, by omega, h2, fun c hc => by rw [zL_ne _ _ _ hc]; exact h3 c hc, fun b hb2 => ?_, fun b hb2 => ?_⟩
    · rw [zL_at]
      by_cases e : b = i
      · subst e; rw [updL_at]; rfl
      · rw [updL_ne _ _ e]; exact h4 b (by omega)
    · rw [zL_at, updL_ne _ _ (by omega)]; exact h5 b (by omega)
theorem begins_eq (τ : ZS) (lt : Nat → Nat → Nat) : ∃ τ1 : ZS, fX7_begins τ = some ((), τ1) ∧ fPM τ τ1 ∧ zPM τ1 lt [] := by
  unfold fX7_begins fX7_begins_7 fX7_begins_7n
  refine zloop_rule (fun i st => ∃ s1 : ZS, st = (nI i, s1) ∧ i ≤ 5 ∧ s1.1 = τ.1 ∧ (∀ c, c ≠ 3 → s1.2 c = (zL τ 0 4 1).2 c) ∧ ∀ b, b < i → s1.2 3 b = 1) 5 (fun o => ∃ τ1 : ZS, o = some ((), τ1) ∧ fPM τ τ1 ∧ zPM τ1 lt []) (fun i s h => h.choose_spec.2.1) ?_ zN 0 _ ⟨zL τ 0 4 1, rfl, Nat.zero_le _, rfl, fun _ _ => rfl, fun b h => absurd h (Nat.not_lt_zero b)⟩ (by unfold zN; omega)
  rintro f i st ⟨s1, rfl, h1, h2, h3, h4⟩
  unfold fX7_begins_7b
  dsimp only
  by_cases hi : i = 5
  · subst hi
    rw [if_pos (show (5 : Int32) ≤ nI 5 from Int32.le_refl _)]
    exact Or.inr ⟨s1, rfl, ⟨h2, fun c hc hc2 => by rw [h3 c hc2, zL_ne _ _ _ hc]⟩, fun b hb => h4 b hb, by rw [h3 0 (by decide), zL_at, updL_at]; rfl⟩
  · refine Or.inl ?_
    rw [if_neg (show ¬ (5 : Int32) ≤ nI i from nI_ge (b := 5) (by omega) (by omega)), zin_t (by omega) (by omega), zg_tr, nI_cl (by omega), show (1 : Int32) = nI 1 from rfl, nI_add]
    refine ⟨_, rfl, zL s1 3 i 1, rfl, by omega, h2, fun c hc => by rw [zL_ne _ _ _ hc]; exact h3 c hc, fun b hb => ?_⟩
    rw [zL_at]
    by_cases e : b = i
    · subst e; rw [updL_at]
    · rw [updL_ne _ _ e]; exact h4 b (by omega)
theorem lays_eq {τ : ZS} {G : Nat → Nat} (hg : zRow (τ.1 1) G) (hI : zInv G) {s : Nat} {l : List Nat} (hs : s < 8) (hp : zPM τ (gLt G) l) : ∃ τ1 : ZS, fX7_lays (nI s) τ = some ((), τ1) ∧ fPM τ τ1 ∧ zPM τ1 (gLt G) (s :: l) := by
  unfold fX7_lays fX7_lays_14 fX7_lays_14n
  refine zloop_rule (fun i st => ∃ s1 : ZS, st = (nI s, nI i, s1) ∧ i ≤ 5 ∧ s1.1 = τ.1 ∧ (∀ c, c ≠ 3 → s1.2 c = (zL τ 0 4 (τ.2 0 4 * 100)).2 c) ∧ (∀ b, b < i → s1.2 3 b = lN (nCo (gLt G) (s :: l) b)) ∧ ∀ b, i ≤ b → s1.2 3 b = τ.2 3 b) 5 (fun o => ∃ τ1 : ZS, o = some ((), τ1) ∧ fPM τ τ1 ∧ zPM τ1 (gLt G) (s :: l)) (fun i s h => h.choose_spec.2.1) ?_ zN 0 _ ⟨zL τ 0 4 (τ.2 0 4 * 100), rfl, Nat.zero_le _, rfl, fun _ _ => rfl, fun b h => absurd h (Nat.not_lt_zero b), fun b _ => by rw [zL_ne _ _ _ (show 3 ≠ 0 by decide)]⟩ (by unfold zN; omega)
  rintro f i st ⟨s1, rfl, h1, h2, h3, h4, h5⟩
  unfold fX7_lays_14b
  dsimp only
  by_cases hi : i = 5
  · subst hi
    rw [if_pos (show (5 : Int32) ≤ nI 5 from Int32.le_refl _)]
    refine Or.inr ⟨s1, rfl, ⟨h2, fun c hc hc2 => by rw [h3 c hc2, zL_ne _ _ _ hc]⟩, h4, ?_⟩
    rw [h3 0 (by decide), zL_at, updL_at, hp.2, show (100 : Int64) = lN 100 from rfl, lN_mul]
    rfl
  · refine Or.inl ?_
    have hle := nLet_le hI (kd := G (2 + 7 * s)) (fg := G (3 + 7 * s)) (b := i) hs (in_fig hI hs) (by omega)
    rw [if_neg (show ¬ (5 : Int32) ≤ nI i from nI_ge (b := 5) (by omega) (by omega)), zin_t (by omega) (by omega), zg_tr, lets_eq (by rw [h2]; exact hg) hI hs (by omega), zb_mk, zg_tr, nI_cl (by omega), h5 i (Nat.le_refl i), hp.1 i (by omega), nI_l (show gLt G s i < 2147483648 by show nLet _ _ _ _ _ < _; omega), lN_mul, show (1 : Int32) = nI 1 from rfl, nI_add]
    refine ⟨_, rfl, zL s1 3 i (lN (nCo (gLt G) l i * gLt G s i)), rfl, by omega, h2, fun c hc => by rw [zL_ne _ _ _ hc]; exact h3 c hc, fun b hb2 => ?_, fun b hb2 => ?_⟩
    · rw [zL_at]
      by_cases e : b = i
      · subst e; rw [updL_at]; rfl
      · rw [updL_ne _ _ e]; exact h4 b (by omega)
    · rw [zL_at, updL_ne _ _ (by omega)]; exact h5 b (by omega)
/-- a stack's pile, up to a height, without one place -/
def nPile (G : Nat → Nat) (t sk : Nat) : Nat → List Nat
  | 0 => []
  | k + 1 => if k = sk then nPile G t sk k else G (59 + 7 * t + k) :: nPile G t sk k
theorem nPile_len (G : Nat → Nat) (t sk : Nat) : ∀ k, (nPile G t sk k).length ≤ k
  | 0 => Nat.le_refl 0
  | k + 1 => by
    have := nPile_len G t sk k
    unfold nPile
    split
    · omega
    · show (nPile G t sk k).length + 1 ≤ k + 1; omega
theorem nPile_full (G : Nat → Nat) (t sk : Nat) : ∀ k, k ≤ sk → (nPile G t sk k).length = k
  | 0, _ => rfl
  | k + 1, h => by
    have := nPile_full G t sk k (by omega)
    unfold nPile
    rw [if_neg (by omega)]
    show (nPile G t sk k).length + 1 = k + 1
    omega
theorem nPile_mem {G : Nat → Nat} (hI : zInv G) {t : Nat} (ht : t < G 1) (sk : Nat) : ∀ k, k ≤ G (58 + 7 * t) → ∀ s ∈ nPile G t sk k, s < G 0
  | 0, _, s, h => by cases h
  | k + 1, hk, s, h => by
    unfold nPile at h
    split at h
    · exact nPile_mem hI ht sk k (by omega) s h
    · rcases List.mem_cons.mp h with rfl | h
      · exact hI.2.2.2 t k ht (by omega)
      · exact nPile_mem hI ht sk k (by omega) s h
/-- the class's pile of a stack, without a place (sk) or with none left out (x = -1, sk = 99) -/
theorem pileW_eq {σ : ZS} {G : Nat → Nat} {lt : Nat → Nat → Nat} (h : zScene σ.1 1 G) (hI : zInv G) (hk : zLk σ (G 0) lt) (hlt : ∀ s b, s < G 0 → b < 5 → lt s b ≤ 100) {t sk : Nat} (ht : t < G 1) {x : Int32} (hx : ∀ k, k < 6 → (nI k = x ↔ k = sk)) : ∃ τ : ZS, fX0_pileStackWithout (nI t) x σ = some ((), τ) ∧ fP σ τ ∧ zPl τ lt (nPile G t sk (G (58 + 7 * t))) := by
  have b1 := hI.2.1
  have b0 := hI.1
  have hh := in_hgt hI (t := t) (by omega)
  obtain ⟨c1, ec, fc, pc⟩ := clear_eq σ lt
  unfold fX0_pileStackWithout
  rw [ec, zb_mk, hasStack_t (h.fr (fun k hk => fc.1 _ (by omega))) hI ht, zb_mk, if_neg i0]
  unfold fX0_pileStackWithout_18 fX0_pileStackWithout_18n
  refine zloop_rule (fun i st => ∃ s1 : ZS, st = (nI t, x, nI i, s1) ∧ i ≤ G (58 + 7 * t) ∧ fP σ s1 ∧ zPl s1 lt (nPile G t sk i)) (G (58 + 7 * t)) (fun o => ∃ τ : ZS, o = some ((), τ) ∧ fP σ τ ∧ zPl τ lt (nPile G t sk (G (58 + 7 * t)))) (fun i s h => h.choose_spec.2.1) ?_ zN 0 _ ⟨c1, rfl, Nat.zero_le _, fc, pc⟩ (by unfold zN; omega)
  rintro f i st ⟨s1, rfl, h1, h2, h3⟩
  unfold fX0_pileStackWithout_18b fX0_pileStackWithout_49
  dsimp only
  have hS1 := h.fr (g := s1.1) (fun k hk => h2.1 _ (by omega))
  rw [zin_t (by omega) (by omega), zg_tr, nI_cl (by omega), sc_hgt hS1 (by omega)]
  by_cases hi : i = G (58 + 7 * t)
  · subst hi
    rw [if_pos (Int32.le_refl _)]
    exact Or.inr ⟨s1, rfl, h2, h3⟩
  · refine Or.inl ?_
    rw [if_neg (nI_ge (by omega) (by omega)), show (1 : Int32) = nI 1 from rfl, nI_add]
    by_cases c : i = sk
    · rw [if_pos ((hx i (by omega)).mpr c)]
      refine ⟨_, rfl, s1, rfl, by omega, h2, ?_⟩
      show zPl s1 lt (if i = sk then nPile G t sk i else G (59 + 7 * t + i) :: nPile G t sk i)
      rw [if_pos c]; exact h3
    · have hm := hI.2.2.2 t i ht (by omega)
      obtain ⟨s2, e2, f2, p2⟩ := add_eq (σ := s1) (lt := lt) (m := G 0) (s := G (59 + 7 * t + i)) b0 hm (fun s b hs hb => by rw [h2.1 20 (by decide)]; exact hk s b hs hb) h3 (by have := nPile_len G t sk i; omega) (fun b hb => hlt _ b hm hb)
      rw [if_neg (fun q => c ((hx i (by omega)).mp q)), sheetAt_eq hS1 hI ht (by omega), zb_mk, e2, zb_mk]
      refine ⟨_, rfl, s2, rfl, by omega, h2.tr f2, ?_⟩
      show zPl s2 lt (if i = sk then nPile G t sk i else G (59 + 7 * t + i) :: nPile G t sk i)
      rw [if_neg c]; exact p2
theorem pile_eq {σ : ZS} {G : Nat → Nat} {lt : Nat → Nat → Nat} (h : zScene σ.1 1 G) (hI : zInv G) (hk : zLk σ (G 0) lt) (hlt : ∀ s b, s < G 0 → b < 5 → lt s b ≤ 100) {t : Nat} (ht : t < G 1) : ∃ τ : ZS, fX0_pileStack (nI t) σ = some ((), τ) ∧ fP σ τ ∧ zPl τ lt (nPile G t 99 (G (58 + 7 * t))) := by
  obtain ⟨τ, e, f, p⟩ := pileW_eq h hI hk hlt ht (x := -1) (sk := 99) (fun k hk => ⟨fun q => by rcases (show k = 0 ∨ k = 1 ∨ k = 2 ∨ k = 3 ∨ k = 4 ∨ k = 5 by omega) with rfl | rfl | rfl | rfl | rfl | rfl <;> exact absurd q (by decide), fun q => by omega⟩)
  unfold fX0_pileStack
  rw [e, zb_mk]
  exact ⟨τ, rfl, f, p⟩
theorem shines_eq {τ : ZS} {G : Nat → Nat} (hg : zRow (τ.1 1) G) (hI : zInv G) {t : Nat} (ht : t < G 1) : ∃ τ1 : ZS, fX7_shines (nI t) τ = some ((), τ1) ∧ fPM τ τ1 ∧ zPM τ1 (gLt G) (nPile G t 99 (G (58 + 7 * t))) := by
  have b1 := hI.2.1
  have b0 := hI.1
  have hh := in_hgt hI (t := t) (by omega)
  obtain ⟨c1, ec, fc, pc⟩ := begins_eq τ (gLt G)
  unfold fX7_shines
  rw [ec, zb_mk]
  unfold fX7_shines_6 fX7_shines_6n
  refine zloop_rule (fun i st => ∃ s1 : ZS, st = (nI t, nI i, s1) ∧ i ≤ G (58 + 7 * t) ∧ fPM τ s1 ∧ zPM s1 (gLt G) (nPile G t 99 i)) (G (58 + 7 * t)) (fun o => ∃ τ1 : ZS, o = some ((), τ1) ∧ fPM τ τ1 ∧ zPM τ1 (gLt G) (nPile G t 99 (G (58 + 7 * t)))) (fun i s h => h.choose_spec.2.1) ?_ zN 0 _ ⟨c1, rfl, Nat.zero_le _, fc, pc⟩ (by unfold zN; omega)
  rintro f i st ⟨s1, rfl, h1, h2, h3⟩
  unfold fX7_shines_6b
  dsimp only
  have hg1 : zRow (s1.1 1) G := by rw [h2.1]; exact hg
  rw [size_eq hg1 (by omega), zb_mk]
  by_cases hi : i = G (58 + 7 * t)
  · subst hi
    rw [if_pos (Int32.le_refl _)]
    exact Or.inr ⟨s1, rfl, h2, h3⟩
  · refine Or.inl ?_
    have hm := hI.2.2.2 t i ht (by omega)
    obtain ⟨s2, e2, f2, p2⟩ := lays_eq hg1 hI (s := G (59 + 7 * t + i)) (by omega) h3
    rw [if_neg (nI_ge (by omega) (by omega)), laid_eq hg1 (by omega) (by omega), zb_mk, e2, zb_mk, show (1 : Int32) = nI 1 from rfl, nI_add]
    refine ⟨_, rfl, s2, rfl, by omega, h2.tr f2, ?_⟩
    show zPM s2 (gLt G) (if i = 99 then nPile G t 99 i else G (59 + 7 * t + i) :: nPile G t 99 i)
    rw [if_neg (by omega)]; exact p2
