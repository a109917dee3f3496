/-- what a sheet lets through -/
def mx5 (G : Nat → Nat) (s : Nat) : Nat → Nat
  | 0 => 0
  | k + 1 => if mx5 G s k < G (4 + 7 * s + k) then G (4 + 7 * s + k) else mx5 G s k
def nLet (G : Nat → Nat) (s kd fg b : Nat) : Nat :=
  if kd = 1 then G (4 + 7 * s + b) * G (4 + 7 * s + b) else if kd = 2 then G (4 + 7 * s + b) * fg else if kd = 3 then 100 - G (4 + 7 * s + b) * fg else if kd = 4 then (if fg % 5 = b then 0 else G (4 + 7 * s + b) * G (4 + 7 * s + b)) else if kd = 5 then 10 * mx5 G s 5 else 10 * G (4 + 7 * s + b)
def gLt (G : Nat → Nat) (s b : Nat) : Nat := nLet G s (G (2 + 7 * s)) (G (3 + 7 * s)) b
theorem mx5_le {G : Nat → Nat} (hI : zInv G) {s : Nat} (hs : s < 8) : ∀ k, k ≤ 5 → mx5 G s k ≤ 10 := by
  intro k
  induction k with
  | zero => intro _; exact Nat.zero_le _
  | succ k ih =>
    intro hk
    have h1 := ih (by omega)
    have h2 := in_num hI hs (show k < 5 by omega)
    unfold mx5
    split <;> omega
theorem sq_le {n : Nat} (h : n ≤ 10) : n * n ≤ 100 := Nat.le_trans (Nat.mul_le_mul h h) (by decide)
theorem nLet_le {G : Nat → Nat} (hI : zInv G) {s kd fg b : Nat} (hs : s < 8) (hf : fg ≤ 9) (hb : b < 5) : nLet G s kd fg b ≤ 100 := by
  have h1 := in_num hI hs hb
  have h2 := mx5_le hI hs 5 (Nat.le_refl 5)
  have h3 := sq_le h1
  have h4 : G (4 + 7 * s + b) * fg ≤ 10 * 9 := Nat.mul_le_mul h1 hf
  unfold nLet
  split
  · exact h3
  · split
    · omega
    · split
      · omega
      · split
        · split <;> omega
        · split <;> omega
theorem greatest_C {σ : ZS} {G : Nat → Nat} (h : zScene σ.1 1 G) (hI : zInv G) {s : Nat} (hs : s < 8) : fX3_greatestNumber (nI s) σ = some (nI (mx5 G s 5), σ) := by
  unfold fX3_greatestNumber fX3_greatestNumber_4 fX3_greatestNumber_4n
  refine zloop_rule (fun i st => st = (nI s, nI (mx5 G s i), nI i, σ) ∧ i ≤ 5) 5 (fun o => o = some (nI (mx5 G s 5), σ)) (fun i s h => h.2) ?_ zN 0 _ ⟨rfl, Nat.zero_le _⟩ (by unfold zN; omega)
  rintro f i st ⟨rfl, hi⟩
  unfold fX3_greatestNumber_4b
  dsimp only
  by_cases e : i = 5
  · subst e; rw [if_pos (show (5 : Int32) ≤ nI 5 from Int32.le_refl _)]; exact Or.inr rfl
  · refine Or.inl ⟨(nI s, nI (mx5 G s (i + 1)), nI (i + 1), σ), ?_, rfl, by omega⟩
    rw [if_neg (show ¬ (5 : Int32) ≤ nI i from nI_ge (b := 5) (by omega) (by omega)), show (5 : Int32) = nI 5 from rfl, show (1 : Int32) = nI 1 from rfl, nI_mul, nI_add, nI_add, zin_t (by omega) (by omega), zg_tr, nI_cl (by omega), show s * 5 + i = 5 * s + i by omega, sc_num h hs (by omega)]
    have h1 := mx5_le hI hs i (by omega)
    have h2 := in_num hI hs (show i < 5 by omega)
    show f _ = f _
    congr 3
    show _ = nI (if mx5 G s i < G (4 + 7 * s + i) then G (4 + 7 * s + i) else mx5 G s i)
    by_cases c : mx5 G s i < G (4 + 7 * s + i)
    · rw [if_pos c, if_pos (nI_lt c (by omega))]
    · rw [if_neg c, if_neg (nI_nlt (by omega) (by omega))]
theorem numberOf_eq {τ : ZS} {G : Nat → Nat} (h : zRow (τ.1 1) G) {s b : Nat} (hs : s < 8) (hb : b < 5) : fX7_numberOf (nI s) (nI b) τ = some (nI (G (4 + 7 * s + b)), τ) := by
  unfold fX7_numberOf
  simp only [li, nI_mul, nI_add]
  rw [zin_t (by omega) (by omega), zg_tr, nI_cl (by omega), show 2 + 7 * s + 2 + b = 4 + 7 * s + b by omega, h _ (by omega)]
theorem kindOf_eq {τ : ZS} {G : Nat → Nat} (h : zRow (τ.1 1) G) {s : Nat} (hs : s < 8) : fX7_kindOf (nI s) τ = some (nI (G (2 + 7 * s)), τ) := by
  unfold fX7_kindOf
  simp only [li, nI_mul, nI_add]
  rw [zin_t (by omega) (by omega), zg_tr, nI_cl (by omega), h _ (by omega)]
theorem figureOf_eq {τ : ZS} {G : Nat → Nat} (h : zRow (τ.1 1) G) {s : Nat} (hs : s < 8) : fX7_figureOf (nI s) τ = some (nI (G (3 + 7 * s)), τ) := by
  unfold fX7_figureOf
  simp only [li, nI_mul, nI_add]
  rw [zin_t (by omega) (by omega), zg_tr, nI_cl (by omega), show 2 + 7 * s + 1 = 3 + 7 * s by omega, h _ (by omega)]
theorem greatest_M {τ : ZS} {G : Nat → Nat} (h : zRow (τ.1 1) G) (hI : zInv G) {s : Nat} (hs : s < 8) : fX7_greatest (nI s) τ = some (nI (mx5 G s 5), τ) := by
  unfold fX7_greatest fX7_greatest_4 fX7_greatest_4n
  refine zloop_rule (fun i st => st = (nI s, nI (mx5 G s i), nI i, τ) ∧ i ≤ 5) 5 (fun o => o = some (nI (mx5 G s 5), τ)) (fun i s h => h.2) ?_ zN 0 _ ⟨rfl, Nat.zero_le _⟩ (by unfold zN; omega)
  rintro f i st ⟨rfl, hi⟩
  unfold fX7_greatest_4b fX7_greatest_29
  dsimp only
  by_cases e : i = 5
  · subst e; rw [if_pos (show (5 : Int32) ≤ nI 5 from Int32.le_refl _)]; exact Or.inr rfl
  · refine Or.inl ⟨(nI s, nI (mx5 G s (i + 1)), nI (i + 1), τ), ?_, rfl, by omega⟩
    have h1 := mx5_le hI hs i (by omega)
    have h2 := in_num hI hs (show i < 5 by omega)
    rw [if_neg (show ¬ (5 : Int32) ≤ nI i from nI_ge (b := 5) (by omega) (by omega)), numberOf_eq h hs (by omega), zb_mk, numberOf_eq h hs (by omega), zb_mk, show (1 : Int32) = nI 1 from rfl, nI_add]
    show _ = f (nI s, nI (if mx5 G s i < G (4 + 7 * s + i) then G (4 + 7 * s + i) else mx5 G s i), nI (i + 1), τ)
    by_cases c : mx5 G s i < G (4 + 7 * s + i)
    · rw [if_pos c, if_neg (nI_ge c (by omega))]
    · rw [if_neg c, if_pos (nI_le (by omega) (by omega))]
set_option maxHeartbeats 1000000 in
theorem letsAs_eq {σ : ZS} {G : Nat → Nat} (h : zScene σ.1 1 G) (hI : zInv G) {s kd fg b : Nat} (hs : s < G 0) (hk : kd ≤ 5) (hf : fg ≤ 9) (hb : b < 5) : fX3_letsAs (nI s) (nI kd) (nI fg) (nI b) σ = some (nI (nLet G s kd fg b), σ) := by
  have b0 := hI.1
  have h1 := in_num hI (show s < 8 by omega) hb
  have h4 : G (4 + 7 * s + b) * fg ≤ 10 * 9 := Nat.mul_le_mul h1 hf
  unfold fX3_letsAs
  rw [hasSheet_t h hI hs]
  simp only [zb_mk, if_neg i0]
  rw [show (5 : Int32) = nI 5 from rfl, within_t hb (by omega)]
  simp only [zb_mk, if_neg i0]
  rw [nI_mul, nI_add, zin_t (by omega) (by omega), zg_tr, nI_cl (by omega), show s * 5 + b = 5 * s + b by omega, sc_num h (by omega) hb]
  rcases (show kd = 0 ∨ kd = 1 ∨ kd = 2 ∨ kd = 3 ∨ kd = 4 ∨ kd = 5 by omega) with rfl | rfl | rfl | rfl | rfl | rfl
  · rw [if_pos (show nI 0 = 0 from rfl), show (10 : Int32) = nI 10 from rfl, nI_mul]; rfl
  · rw [if_neg (show ¬ nI 1 = 0 by decide), if_pos (show nI 1 = 1 from rfl), nI_mul]; rfl
  · rw [if_neg (show ¬ nI 2 = 0 by decide), if_neg (show ¬ nI 2 = 1 by decide), if_pos (show nI 2 = 2 from rfl), nI_mul]; rfl
  · rw [if_neg (show ¬ nI 3 = 0 by decide), if_neg (show ¬ nI 3 = 1 by decide), if_neg (show ¬ nI 3 = 2 by decide), if_pos (show nI 3 = 3 from rfl), nI_mul, show (100 : Int32) = nI 100 from rfl, nI_sub (by omega)]; rfl
  · rw [if_neg (show ¬ nI 4 = 0 by decide), if_neg (show ¬ nI 4 = 1 by decide), if_neg (show ¬ nI 4 = 2 by decide), if_neg (show ¬ nI 4 = 3 by decide), if_pos (show nI 4 = 4 from rfl), show zne (nI 5) = true from rfl, zg_tr, nI_mod (by omega) (by omega) (by omega)]
    have e : nLet G s 4 fg b = if fg % 5 = b then 0 else G (4 + 7 * s + b) * G (4 + 7 * s + b) := rfl
    rw [e]
    by_cases c : fg % 5 = b
    · rw [if_pos c, if_pos (by rw [c])]; rfl
    · rw [if_neg c, if_neg (fun q => c ((nI_eq_iff (by omega) (by omega)).mp q)), nI_mul]
  · rw [if_neg (show ¬ nI 5 = 0 by decide), if_neg (show ¬ nI 5 = 1 by decide), if_neg (show ¬ nI 5 = 2 by decide), if_neg (show ¬ nI 5 = 3 by decide), if_neg (show ¬ nI 5 = 4 by decide), greatest_C h hI (by omega), zb_mk, show (10 : Int32) = nI 10 from rfl, nI_mul]; rfl
set_option maxHeartbeats 1000000 in
theorem lets_eq {τ : ZS} {G : Nat → Nat} (h : zRow (τ.1 1) G) (hI : zInv G) {s b : Nat} (hs : s < 8) (hb : b < 5) : fX7_lets (nI s) (nI b) τ = some (nI (gLt G s b), τ) := by
  have h1 := in_num hI hs hb
  have hk := in_kind hI hs
  have hf := in_fig hI hs
  have h4 : G (4 + 7 * s + b) * G (3 + 7 * s) ≤ 10 * 9 := Nat.mul_le_mul h1 hf
  unfold fX7_lets gLt
  rw [numberOf_eq h hs hb, zb_mk, kindOf_eq h hs, zb_mk, figureOf_eq h hs, greatest_M h hI hs]
  generalize G (3 + 7 * s) = fg at hf h4 ⊢
  generalize G (2 + 7 * s) = kd at hk ⊢
  simp only [zb_mk]
  rcases (show kd = 0 ∨ kd = 1 ∨ kd = 2 ∨ kd = 3 ∨ kd = 4 ∨ kd = 5 by omega) with rfl | rfl | rfl | rfl | rfl | rfl
  · rw [if_neg (show ¬ nI 0 = 1 by decide), if_neg (show ¬ nI 0 = 2 by decide), if_neg (show ¬ nI 0 = 3 by decide), if_neg (show ¬ nI 0 = 4 by decide), if_neg (show ¬ nI 0 = 5 by decide), show (10 : Int32) = nI 10 from rfl, nI_mul]; rfl
  · rw [if_pos (show nI 1 = 1 from rfl), nI_mul]; rfl
  · rw [if_neg (show ¬ nI 2 = 1 by decide), if_pos (show nI 2 = 2 from rfl), nI_mul]; rfl
  · rw [if_neg (show ¬ nI 3 = 1 by decide), if_neg (show ¬ nI 3 = 2 by decide), if_pos (show nI 3 = 3 from rfl), nI_mul, show (100 : Int32) = nI 100 from rfl, nI_sub (by omega)]; rfl
  · rw [if_neg (show ¬ nI 4 = 1 by decide), if_neg (show ¬ nI 4 = 2 by decide), if_neg (show ¬ nI 4 = 3 by decide), if_pos (show nI 4 = 4 from rfl), show zne (5 : Int32) = true from rfl, zg_tr, show (5 : Int32) = nI 5 from rfl, nI_mod (by omega) (by omega) (by omega)]
    have e : nLet G s 4 fg b = if fg % 5 = b then 0 else G (4 + 7 * s + b) * G (4 + 7 * s + b) := rfl
    rw [e]
    by_cases c : fg % 5 = b
    · rw [if_pos c, if_pos (by rw [c])]; rfl
    · rw [if_neg c, if_neg (fun q => c ((nI_eq_iff (by omega) (by omega)).mp q)), nI_mul]
  · rw [if_neg (show ¬ nI 5 = 1 by decide), if_neg (show ¬ nI 5 = 2 by decide), if_neg (show ¬ nI 5 = 3 by decide), if_neg (show ¬ nI 5 = 4 by decide), if_pos (show nI 5 = 5 from rfl), show (10 : Int32) = nI 10 from rfl, nI_mul]; rfl
set_option maxHeartbeats 1000000 in
theorem step4 : zStep4 zR := fun σ τ y1 y2 hR => by
  obtain ⟨⟨G, hg⟩, -⟩ := id hR
  have hS := hg.1
  have hI := hg.2.2
  have b0 := hI.1
  unfold fX6_sheet fX7_sheet
  rcases zin_or y1 (G 0) (by omega) with ⟨j, hj, rfl⟩ | ⟨hz, hx⟩
  · rw [hasSheet_t hS hI hj, isSheet_t hg.2.1 hI hj]
    simp only [zb_mk, if_neg i0]
    rw [show (1 : Int64) = lN 1 from rfl, show (10 : Int64) = lN 10 from rfl, show (14 : Int64) = lN 14 from rfl, show (20 : Int64) = lN 20 from rfl, show (24 : Int64) = lN 24 from rfl]
    rw [show (0 : Int64) = lN 0 from rfl, show (10 : Int32) = nI 10 from rfl, show (20 : Int32) = nI 20 from rfl, show (5 : Int32) = nI 5 from rfl]
    rcases zin_or y2 25 (by omega) with ⟨v, hv, rfl⟩ | ⟨hz, hx⟩
    · have ne : ∀ k : Nat, k < 30 → k ≠ v → ¬ nI v = nI k := fun k hk h e => h ((nI_eq_iff (by omega) (by omega)).mp e).symm
      have wf : ∀ (lo hi : Nat), hi < 30 → lo < 30 → ¬ (lo ≤ v ∧ v ≤ hi) → ∀ s, fX7_isIn (nI v).toInt64 (lN lo) (lN hi) s = some (0, s) := fun lo hi h1 h2 h3 s => isInL_f (by omega) (by omega) (by rw [nI_toInt (by omega)]; omega) s
      have wt : ∀ (lo hi : Nat), hi < 30 → lo ≤ v → v ≤ hi → ∀ s, fX7_isIn (nI v).toInt64 (lN lo) (lN hi) s = some (1, s) := fun lo hi h1 h2 h3 s => isIn_t h2 h3 (by omega) s
      have cn : ∀ k : Nat, k < 30 → v < k → ∀ s, fX6_within (nI v - nI k) (nI 5) s = some (0, s) := fun k hk h s => within_f (Or.inl (pk_sneg (by omega) h)) s
      have cb : ∀ k : Nat, k < 30 → k + 5 ≤ v → ∀ s, fX6_within (nI v - nI k) (nI 5) s = some (0, s) := fun k hk h s => by rw [nI_sub (by omega)]; exact within_f (Or.inr ⟨nI_pos (by omega), nI_le (by omega) (by omega)⟩) s
      have ct : ∀ k : Nat, k < 30 → k ≤ v → v < k + 5 → ∀ s, fX6_within (nI v - nI k) (nI 5) s = some (1, s) := fun k hk h h2 s => by rw [nI_sub h]; exact within_t (by omega) (by omega) s
      rcases (show v = 0 ∨ v = 1 ∨ (2 ≤ v ∧ v < 10) ∨ (10 ≤ v ∧ v < 15) ∨ (15 ≤ v ∧ v < 20) ∨ (20 ≤ v ∧ v < 25) by omega) with rfl | rfl | hv | hv | hv | hv
      · rw [if_pos (show nI 0 = 0 from rfl)]
        simp only [wt 0 1 (by decide) (by decide) (by decide), zb_mk, if_neg i0, li, nI_mul, nI_add]
        rw [zin_t (by omega) (by omega), zin_t (by omega) (by omega), zg_tr, zg_tr, nI_cl (by omega), nI_cl (by omega), sc_kind hS (by omega), hg.2.1 _ (by omega)]
        exact sameR hR rfl rfl
      · rw [if_neg (show ¬ nI 1 = 0 by decide), if_pos (show nI 1 = 1 from rfl)]
        simp only [wt 0 1 (by decide) (by decide) (by decide), zb_mk, if_neg i0, li, nI_mul, nI_add]
        rw [zin_t (by omega) (by omega), zin_t (by omega) (by omega), zg_tr, zg_tr, nI_cl (by omega), nI_cl (by omega), sc_fig hS (by omega), hg.2.1 _ (by omega), show 2 + 7 * j + 1 = 3 + 7 * j by omega]
        exact sameR hR rfl rfl
      · rw [if_neg (show ¬ nI v = (0 : Int32) from ne 0 (by omega) (by omega)), if_neg (show ¬ nI v = (1 : Int32) from ne 1 (by omega) (by omega))]
        simp only [wf 0 1 (by decide) (by decide) (by omega), wf 10 14 (by decide) (by decide) (by omega), wf 20 24 (by decide) (by decide) (by omega), cn 10 (by omega) (by omega), cn 20 (by omega) (by omega), zb_mk, if_true]
        exact sameR hR rfl rfl
      · rw [if_neg (show ¬ nI v = (0 : Int32) from ne 0 (by omega) (by omega)), if_neg (show ¬ nI v = (1 : Int32) from ne 1 (by omega) (by omega))]
        simp only [wf 0 1 (by decide) (by decide) (by omega), wt 10 14 (by decide) (by omega) (by omega), ct 10 (by omega) (by omega) (by omega), zb_mk, if_true, if_neg i0]
        rw [nI_sub (by omega), numberOf_eq hg.2.1 (by omega) (by omega), zb_mk, nI_mul, nI_add, zin_t (by omega) (by omega), zg_tr, nI_cl (by omega), show j * 5 + (v - 10) = 5 * j + (v - 10) by omega, sc_num hS (by omega) (by omega)]
        exact sameR hR rfl rfl
      · rw [if_neg (show ¬ nI v = (0 : Int32) from ne 0 (by omega) (by omega)), if_neg (show ¬ nI v = (1 : Int32) from ne 1 (by omega) (by omega))]
        simp only [wf 0 1 (by decide) (by decide) (by omega), wf 10 14 (by decide) (by decide) (by omega), wf 20 24 (by decide) (by decide) (by omega), cb 10 (by omega) (by omega), cn 20 (by omega) (by omega), zb_mk, if_true]
        exact sameR hR rfl rfl
      · rw [if_neg (show ¬ nI v = (0 : Int32) from ne 0 (by omega) (by omega)), if_neg (show ¬ nI v = (1 : Int32) from ne 1 (by omega) (by omega))]
        simp only [wf 0 1 (by decide) (by decide) (by omega), wf 10 14 (by decide) (by decide) (by omega), wt 20 24 (by decide) (by omega) (by omega), cb 10 (by omega) (by omega), ct 20 (by omega) (by omega) (by omega), zb_mk, if_true, if_neg i0]
        rw [nI_sub (show 20 ≤ v by omega), lets_eq hg.2.1 hI (by omega) (by omega), zb_mk, zin_t (by omega) (by omega), zg_tr, zg_tr, nI_cl (by omega), sc_kind hS (by omega), sc_fig hS (by omega), letsAs_eq hS hI hj (in_kind hI (by omega)) (in_fig hI (by omega)) (by omega), zb_mk]
        exact sameR hR rfl rfl
    · have hn := zin_false hz
      have n0 : ¬ y2 = 0 := fun e => hn (by rw [e]; decide)
      have n1 : ¬ y2 = 1 := fun e => hn (by rw [e]; decide)
      have w : ∀ k : Nat, k < 21 → ∀ s, fX6_within (y2 - nI k) (nI 5) s = some (0, s) := by
        intro k hk s
        rcases zin_or (y2 - nI k) 5 (by omega) with ⟨z, hz2, e⟩ | ⟨-, hx⟩
        · exfalso
          have e2 : y2 = nI (z + k) := by rw [← nI_add, ← e, Int32.sub_add_cancel]
          rw [e2, nI_toInt (by omega)] at hn
          omega
        · exact within_f hx s
      have wf : ∀ (lo hi : Nat), hi < 25 → lo < 25 → ∀ s, fX7_isIn y2.toInt64 (lN lo) (lN hi) s = some (0, s) := fun lo hi h1 h2 s => isInL_f (by omega) (by omega) (by omega) s
      rw [if_neg n0, if_neg n1]
      simp only [wf 0 1 (by decide) (by decide), wf 10 14 (by decide) (by decide), wf 20 24 (by decide) (by decide), w 10 (by omega), w 20 (by omega), zb_mk, if_true]
      exact sameR hR rfl rfl
  · rw [hasSheet_f hS hx, isSheet_f hg.2.1 hI hz]
    exact sameR hR rfl rfl
