theorem lg_zero : lg_cmp 0 0 = 0 := by decide
theorem gLt_le {G : Nat → Nat} (hI : zInv G) {s b : Nat} (hs : s < G 0) (hb : b < 5) : gLt G s b ≤ 100 := nLet_le hI (by have := hI.1; omega) (in_fig hI (by have := hI.1; omega)) hb
theorem fP.FC {σ σ1 : ZS} (h : fP σ σ1) : zFC σ σ1 := fun c hc => h.1 c (by omega)
theorem fPM.FM {τ τ1 : ZS} (h : fPM τ τ1) : zFM τ τ1 := ⟨fun c _ => by rw [h.1], by rw [h.1], by rw [h.1], by rw [h.1]⟩
/-- what an eye sees -/
def nBy (n b : Nat) : Nat := if n = 0 then 1 else if b < 2 then 10 - n else 10
def nSe (G : Nat → Nat) (co : Nat → Nat) (lamp n eye : Nat) : Nat → Nat
  | 0 => 0
  | b + 1 => nSe G co lamp n eye b + co b * (G (100 + (5 * lamp + b)) * G (115 + (5 * eye + b)) * nBy n b)
theorem nBy_le {n b : Nat} (hn : n ≤ 10) : nBy n b ≤ (if n = 0 then 1 else 10) := by
  unfold nBy
  by_cases h : n = 0
  · rw [if_pos h, if_pos h]; exact Nat.le_refl 1
  · rw [if_neg h, if_neg h]; split <;> omega
theorem pw_le {G : Nat → Nat} (hI : zInv G) {lamp eye b : Nat} (hl : lamp < 3) (he : eye < 3) (hb : b < 5) : G (100 + (5 * lamp + b)) * G (115 + (5 * eye + b)) ≤ 81 := Nat.le_trans (Nat.mul_le_mul (in_pow hI (show 5 * lamp + b < 15 by omega)) (in_wei hI (show 5 * eye + b < 15 by omega))) (by decide)
theorem pwb_le {G : Nat → Nat} (hI : zInv G) {lamp eye b n : Nat} (hl : lamp < 3) (he : eye < 3) (hb : b < 5) (hn : n ≤ 10) : G (100 + (5 * lamp + b)) * G (115 + (5 * eye + b)) * nBy n b ≤ 81 * (if n = 0 then 1 else 10) := Nat.mul_le_mul (pw_le hI hl he hb) (nBy_le hn)
theorem nSe_le {G : Nat → Nat} (hI : zInv G) {co : Nat → Nat} {M lamp n eye : Nat} (hl : lamp < 3) (he : eye < 3) (hn : n ≤ 10) (hc : ∀ b, b < 5 → co b ≤ M) : ∀ k, k ≤ 5 → nSe G co lamp n eye k ≤ k * (M * (81 * (if n = 0 then 1 else 10))) := by
  intro k
  induction k with
  | zero => intro _; exact Nat.zero_le _
  | succ k ih =>
    intro hk
    have h1 := ih (by omega)
    have h2 := Nat.mul_le_mul (hc k (by omega)) (pwb_le hI hl he (show k < 5 by omega) hn)
    exact Nat.le_trans (Nat.add_le_add h1 h2) (Nat.le_of_eq (Nat.succ_mul k _).symm)
theorem pba_eq {n b : Nat} (hn : n ≤ 10) (hb : b < 5) (σ : ZS) : fX0_powerByAge (nI n) (nI b) σ = some (nI (nBy n b), σ) := by
  unfold fX0_powerByAge nBy
  by_cases h0 : n = 0
  · subst h0; rw [if_pos (show nI 0 = 0 from rfl), if_pos rfl]; rfl
  · rw [if_neg (show ¬ nI n = (0 : Int32) from fun e => h0 ((nI_eq_iff (b := 0) (by omega) (by omega)).mp e)), if_neg h0]
    by_cases h2 : b < 2
    · rw [if_neg (show ¬ (2 : Int32) ≤ nI b from nI_ge (b := 2) h2 (by omega)), if_pos h2, show (10 : Int32) = nI 10 from rfl, nI_sub hn]
    · rw [if_pos (show (2 : Int32) ≤ nI b from nI_le (a := 2) (by omega) (by omega)), if_neg h2]; rfl
theorem seen_C {σ : ZS} {G : Nat → Nat} {co : Nat → Nat} (h : zScene σ.1 1 G) (hI : zInv G) (hp : ∀ b, b < 5 → σ.2 21 b = lN (co b)) {lamp n eye : Nat} (hl : lamp < 3) (he : eye < 3) (hn : n ≤ 10) : fX0_seen (nI lamp) (nI n) (nI eye) σ = some (lN (nSe G co lamp n eye 5), σ) := by
  unfold fX0_seen
  rw [show (3 : Int32) = nI 3 from rfl, within_t hl (by omega), zb_mk, if_neg i0, within_t he (by omega), zb_mk, if_neg i0]
  unfold fX0_seen_24 fX0_seen_24n
  refine zloop_rule (fun i st => st = (nI lamp, nI n, nI eye, lN (nSe G co lamp n eye i), nI i, σ) ∧ i ≤ 5) 5 (fun o => o = some (lN (nSe G co lamp n eye 5), σ)) (fun i s h => h.2) ?_ zN 0 _ ⟨rfl, Nat.zero_le _⟩ (by unfold zN; omega)
  rintro f i st ⟨rfl, hi⟩
  unfold fX0_seen_24b
  dsimp only
  by_cases e : i = 5
  · subst e; rw [if_pos (show (5 : Int32) ≤ nI 5 from Int32.le_refl _)]; exact Or.inr rfl
  · refine Or.inl ⟨_, ?_, rfl, by omega⟩
    have hb := pwb_le hI hl he (show i < 5 by omega) hn
    have hb2 : 81 * (if n = 0 then 1 else 10) ≤ 810 := by split <;> omega
    rw [if_neg (show ¬ (5 : Int32) ≤ nI i from nI_ge (b := 5) (by omega) (by omega)), pba_eq hn (by omega)]
    simp only [li, nI_mul, nI_add, zb_mk]
    rw [zin_t (by omega) (by omega), zin_t (by omega) (by omega), zin_t (by omega) (by omega)]
    simp only [zg_tr]
    rw [nI_cl (by omega), nI_cl (by omega), nI_cl (by omega), show lamp * 5 + i = 5 * lamp + i by omega, show eye * 5 + i = 5 * eye + i by omega, sc_pow h (by omega), sc_wei h (by omega), hp i (by omega), nI_mul, nI_mul, nI_l (by omega), lN_mul, lN_add]
    rfl
theorem seen_M {τ : ZS} {G : Nat → Nat} {co : Nat → Nat} (h : zRow (τ.1 1) G) (hI : zInv G) (hp : ∀ b, b < 5 → τ.2 3 b = lN (co b)) {lamp n eye : Nat} (hl : lamp < 3) (he : eye < 3) (hn : n ≤ 10) : fX7_seen (nI lamp) (nI n) (nI eye) τ = some (lN (nSe G co lamp n eye 5), τ) := by
  unfold fX7_seen fX7_seen_6 fX7_seen_6n
  refine zloop_rule (fun i st => st = (nI lamp, nI n, nI eye, lN (nSe G co lamp n eye i), nI i, τ) ∧ i ≤ 5) 5 (fun o => o = some (lN (nSe G co lamp n eye 5), τ)) (fun i s h => h.2) ?_ zN 0 _ ⟨rfl, Nat.zero_le _⟩ (by unfold zN; omega)
  rintro f i st ⟨rfl, hi⟩
  unfold fX7_seen_6b
  dsimp only
  by_cases e : i = 5
  · subst e; rw [if_pos (show (5 : Int32) ≤ nI 5 from Int32.le_refl _)]; exact Or.inr rfl
  · refine Or.inl ⟨(nI lamp, nI n, nI eye, lN (nSe G co lamp n eye (i + 1)), nI (i + 1), τ), ?_, rfl, by omega⟩
    have hb := pw_le hI hl he (show i < 5 by omega)
    have hr : ∀ by' : Nat, nBy n i = by' → fX7_seen_38 (fun x1 x2 x3 x4 x6 s => f (x1, x2, x3, x4, x6, s)) (nI lamp) (nI n) (nI eye) (lN (nSe G co lamp n eye i)) (nI i) (lN by') τ = f (nI lamp, nI n, nI eye, lN (nSe G co lamp n eye (i + 1)), nI (i + 1), τ) := by
      intro by' hby
      unfold fX7_seen_38
      simp only [li, nI_mul, nI_add]
      rw [zin_t (by omega) (by omega), zin_t (by omega) (by omega), zin_t (by omega) (by omega)]
      simp only [zg_tr]
      rw [nI_cl (by omega), nI_cl (by omega), nI_cl (by omega), h _ (by omega), h _ (by omega), hp i (by omega), nI_mul, show 100 + 5 * lamp + i = 100 + (5 * lamp + i) by omega, show 115 + 5 * eye + i = 115 + (5 * eye + i) by omega, nI_l (by omega), lN_mul, lN_mul, lN_add]
      show _ = f (nI lamp, nI n, nI eye, lN (nSe G co lamp n eye i + co i * (G (100 + (5 * lamp + i)) * G (115 + (5 * eye + i)) * nBy n i)), nI (i + 1), τ)
      rw [hby, Nat.mul_comm (co i)]
    rw [if_neg (show ¬ (5 : Int32) ≤ nI i from nI_ge (b := 5) (by omega) (by omega))]
    by_cases h0 : n = 0
    · subst h0
      rw [if_pos (show nI 0 = 0 from rfl)]
      exact hr 1 rfl
    · rw [if_neg (show ¬ nI n = (0 : Int32) from fun e => h0 ((nI_eq_iff (b := 0) (by omega) (by omega)).mp e))]
      by_cases h2 : i < 2
      · rw [if_neg (show ¬ (2 : Int32) ≤ nI i from nI_ge (b := 2) h2 (by omega)), nI_l (by omega), show (10 : Int64) = lN 10 from rfl, lN_sub hn]
        exact hr (10 - n) (by unfold nBy; rw [if_neg h0, if_pos h2])
      · rw [if_pos (show (2 : Int32) ≤ nI i from nI_le (a := 2) (by omega) (by omega))]
        exact hr 10 (by unfold nBy; rw [if_neg h0, if_neg h2])
/-- cuts -/
theorem lN_pos {b : Nat} (h : 0 < b) (hb : b < 2 ^ 63) : (0 : Int64) < lN b := (pk_lLT (a := 0) (by decide) hb).mpr h
theorem znl_t {b : Nat} (h : 0 < b) (hb : b < 2 ^ 63) : znl (lN b) = true := decide_eq_true (fun e => by have h1 := lN_pos h hb; rw [e] at h1; exact Int64.lt_irrefl h1)
theorem cut_eq {a b : Nat} (ha : a < 2 ^ 63) (h0 : 0 < b) (hb : b < 2 ^ 63) (σ : ZS) : fX6_cut (lN a) (lN b) σ = some (lN (a / b), σ) := by
  unfold fX6_cut
  rw [if_neg (Int32.not_le.mpr ((lcmp_gt _ _).mpr (lN_pos h0 hb))), znl_t h0 hb, zg_tr, pk_lDiv ha h0 hb]
def nWh (len n : Nat) : Nat := if n = 0 then 100 ^ len else 100 ^ len * 10
def nSh (G : Nat → Nat) (co : Nat → Nat) (len lamp n eye : Nat) : Nat := nSe G co lamp n eye 5 / nWh len n
theorem wba_eq {σ : ZS} {len n : Nat} (h : σ.2 19 3 = lN (100 ^ len)) (hn : n ≤ 10) : fX0_wholeByAge (nI n) σ = some (lN (nWh len n), σ) := by
  unfold fX0_wholeByAge nWh
  by_cases h0 : n = 0
  · subst h0; rw [if_pos (show nI 0 = 0 from rfl), if_pos rfl, h]
  · rw [if_neg (show ¬ nI n = (0 : Int32) from fun e => h0 ((nI_eq_iff (b := 0) (by omega) (by omega)).mp e)), if_neg h0, h, show (10 : Int64) = lN 10 from rfl, lN_mul]
theorem p100_pos (len : Nat) : 0 < 100 ^ len := Nat.pow_pos (by decide)
theorem p100_le {a b : Nat} (h : a ≤ b) : 100 ^ a ≤ 100 ^ b := Nat.pow_le_pow_right (by decide) h
theorem nWh_pos (len n : Nat) : 0 < nWh len n := by
  have := p100_pos len
  unfold nWh
  split <;> omega
/-- in room: eight sheets as it is, or seven aged -/
theorem room_ok {G : Nat → Nat} (hI : zInv G) {co : Nat → Nat} {len lamp n eye : Nat} (hl : lamp < 3) (he : eye < 3) (hn : n ≤ 10) (hc : ∀ b, b < 5 → co b ≤ 100 ^ len) (hlen : len ≤ 8) (h2 : n = 0 ∨ len ≤ 6) : nSe G co lamp n eye 5 < 2 ^ 63 ∧ nWh len n < 2 ^ 63 ∧ nSh G co len lamp n eye ≤ 405 := by
  have h1 := nSe_le hI hl he hn hc 5 (Nat.le_refl 5)
  have h8 : 100 ^ len ≤ 10000000000000000 := p100_le hlen
  have hp := p100_pos len
  by_cases h0 : n = 0
  · rw [if_pos h0] at h1
    have e : nWh len n = 100 ^ len := by unfold nWh; rw [if_pos h0]
    refine ⟨by omega, by rw [e]; omega, ?_⟩
    unfold nSh
    rw [e]
    exact Nat.div_le_of_le_mul (by omega)
  · rw [if_neg h0] at h1
    have h6 : 100 ^ len ≤ 1000000000000 := p100_le (h2.resolve_left h0)
    have e : nWh len n = 100 ^ len * 10 := by unfold nWh; rw [if_neg h0]
    refine ⟨by omega, by rw [e]; omega, ?_⟩
    unfold nSh
    rw [e]
    exact Nat.div_le_of_le_mul (by omega)
theorem shade_C {σ : ZS} {G : Nat → Nat} {lt : Nat → Nat → Nat} {l : List Nat} (h : zScene σ.1 1 G) (hI : zInv G) (hp : zPl σ lt l) (hlt : ∀ s ∈ l, ∀ b, b < 5 → lt s b ≤ 100) {lamp n eye : Nat} (hl : lamp < 3) (he : eye < 3) (hn : n ≤ 10) (hlen : l.length ≤ 8) (h2 : n = 0 ∨ l.length ≤ 6) : fX0_shadeOf (nI lamp) (nI n) (nI eye) σ = some (nI (nSh G (nCo lt l) l.length lamp n eye), σ) := by
  obtain ⟨r1, r2, r3⟩ := room_ok hI hl he hn (co := nCo lt l) (fun b hb => nCo_le (fun s hs => hlt s hs b hb)) hlen h2
  unfold fX0_shadeOf
  rw [seen_C h hI hp.1 hl he hn, zb_mk, wba_eq hp.2.1 hn, zb_mk, cut_eq r1 (nWh_pos _ _) r2, zb_mk, lN_i]
  rfl
theorem shade_M {τ : ZS} {G : Nat → Nat} {lt : Nat → Nat → Nat} {l : List Nat} (h : zRow (τ.1 1) G) (hI : zInv G) (hp : zPM τ lt l) (hlt : ∀ s ∈ l, ∀ b, b < 5 → lt s b ≤ 100) {lamp n eye : Nat} (hl : lamp < 3) (he : eye < 3) (hn : n ≤ 10) (hlen : l.length ≤ 8) (h2 : n = 0 ∨ l.length ≤ 6) : fX7_shadeOf (nI lamp) (nI n) (nI eye) τ = some (nI (nSh G (nCo lt l) l.length lamp n eye), τ) := by
  obtain ⟨r1, r2, r3⟩ := room_ok hI hl he hn (co := nCo lt l) (fun b hb => nCo_le (fun s hs => hlt s hs b hb)) hlen h2
  have hw := nWh_pos l.length n
  unfold fX7_shadeOf
  rw [seen_M h hI hp.1 hl he hn, zb_mk]
  unfold fX7_shadeOf_26
  rw [hp.2, show (10 : Int64) = lN 10 from rfl, lN_mul]
  unfold nSh
  unfold nWh at r2 hw ⊢
  by_cases h0 : n = 0
  · rw [if_pos h0] at r2 hw
    rw [if_pos (show nI n = (0 : Int32) by rw [h0]; rfl), znl_t hw r2, zg_tr, pk_lDiv r1 hw r2, lN_i, if_pos h0]
  · rw [if_neg h0] at r2 hw
    rw [if_neg (show ¬ nI n = (0 : Int32) from fun e => h0 ((nI_eq_iff (b := 0) (by omega) (by omega)).mp e)), Nat.mul_comm 10, znl_t hw r2, zg_tr, pk_lDiv r1 hw r2, lN_i, if_neg h0]
/-- the greatest common divisor, both ways -/
theorem half_step {X Y k K : Nat} (hY : 0 < Y) (hXY : Y < X) (h : X * Y * 2 ^ k ≤ K) : X % Y < Y ∧ Y * (X % Y) * 2 ^ (k + 1) ≤ K := by
  have h1 := Nat.mod_lt X hY
  refine ⟨h1, ?_⟩
  have h2 : 2 * (X % Y) ≤ X := by
    have h3 := Nat.div_add_mod X Y
    have h4 : Y * 1 ≤ Y * (X / Y) := Nat.mul_le_mul_left Y (Nat.div_pos (by omega) hY)
    omega
  have h5 : Y * (X % Y) * 2 ^ (k + 1) = Y * (2 * (X % Y)) * 2 ^ k := by
    rw [Nat.pow_succ, Nat.mul_comm (2 ^ k) 2, ← Nat.mul_assoc, Nat.mul_assoc Y, Nat.mul_comm (X % Y) 2]
  rw [h5]
  refine Nat.le_trans (Nat.mul_le_mul_right _ (Nat.mul_le_mul_left Y h2)) ?_
  rw [Nat.mul_comm Y X]
  exact h
def gI (a b i X Y : Nat) : Prop := i ≤ 127 ∧ X < 2 ^ 63 ∧ Y < 2 ^ 63 ∧ Nat.gcd X Y = Nat.gcd a b ∧ (i = 0 → X = a ∧ Y = b) ∧ ∀ k, i = k + 1 → Y < X ∧ X * Y * 2 ^ k ≤ 2 ^ 126
theorem gI_step {a b i X Y : Nat} (h : gI a b i X Y) (hY : 0 < Y) : gI a b (i + 1) Y (X % Y) := by
  obtain ⟨h1, h2, h3, h4, h5, h6⟩ := h
  have hm := Nat.mod_lt X hY
  have hg : Nat.gcd Y (X % Y) = Nat.gcd a b := by rw [← h4, Nat.gcd_comm X Y, Nat.gcd_rec Y X, Nat.gcd_comm]
  have key : Y * (X % Y) * 2 ^ i ≤ 2 ^ 126 := by
    cases i with
    | zero =>
      have q : Y * (X % Y) ≤ 2 ^ 63 * 2 ^ 63 := Nat.mul_le_mul (Nat.le_of_lt h3) (by omega)
      have e : (2 : Nat) ^ 63 * 2 ^ 63 = 2 ^ 126 := by decide
      rw [Nat.pow_zero, Nat.mul_one]
      omega
    | succ k => exact (half_step hY (h6 k rfl).1 (h6 k rfl).2).2
  refine ⟨?_, h3, by omega, hg, fun e => absurd e (by omega), fun k e => ?_⟩
  · cases i with
    | zero => omega
    | succ k =>
      have hk := h6 k rfl
      have h7 : 1 * 2 ^ k ≤ X * Y * 2 ^ k := Nat.mul_le_mul_right _ (Nat.mul_pos (by omega) hY)
      have h8 : k ≤ 126 := by
        rcases Nat.lt_or_ge 126 k with q | q
        · have := Nat.pow_lt_pow_right (a := 2) (by decide) q
          omega
        · exact q
      rcases Nat.lt_or_ge k 126 with q | q
      · omega
      · exfalso
        have h9 : k = 126 := by omega
        subst h9
        have h10 : 2 * 2 ^ 126 ≤ X * Y * 2 ^ 126 := Nat.mul_le_mul_right _ (by
          have : 1 * 2 ≤ Y * X := Nat.mul_le_mul hY (by omega)
          rw [Nat.mul_comm X Y]; omega)
        have : (0 : Nat) < 2 ^ 126 := Nat.pow_pos (by decide)
        omega
  · have : k = i := by omega
    subst this
    exact ⟨hm, key⟩
theorem lN_rem {X Y : Nat} (hX : X < 2 ^ 63) (h0 : 0 < Y) (hY : Y < 2 ^ 63) : lN X - lN X / lN Y * lN Y = lN (X % Y) := pk_lRem hX h0 hY
theorem gcd_C {a b : Nat} (ha : a < 2 ^ 63) (hb : b < 2 ^ 63) (σ : ZS) : fX6_greatestCommonDivisor (lN a) (lN b) σ = some (lN (Nat.gcd a b), σ) := by
  unfold fX6_greatestCommonDivisor fX6_greatestCommonDivisor_9 fX6_greatestCommonDivisor_9n
  refine zloop_rule (fun i st => ∃ X Y, st = (lN X, lN Y, nI i, σ) ∧ gI a b i X Y) 127 (fun o => o = some (lN (Nat.gcd a b), σ)) (fun i s h => by obtain ⟨X, Y, -, h⟩ := h; exact h.1) ?_ zN 0 _ ⟨a, b, rfl, by omega, ha, hb, rfl, fun _ => ⟨rfl, rfl⟩, fun k e => absurd e (by omega)⟩ (by unfold zN; omega)
  rintro f i st ⟨X, Y, rfl, h⟩
  unfold fX6_greatestCommonDivisor_9b
  dsimp only
  have hi := h.1
  rw [if_neg (show ¬ (128 : Int32) ≤ nI i from nI_ge (b := 128) (by omega) (by omega))]
  by_cases h0 : Y = 0
  · subst h0
    rw [show lN 0 = (0 : Int64) from rfl, lg_zero, if_pos (Int32.le_refl _)]
    refine Or.inr ?_
    rw [← h.2.2.2.1, Nat.gcd_zero_right]
  · rw [if_neg (Int32.not_le.mpr ((lcmp_gt _ _).mpr (lN_pos (by omega) h.2.2.1))), znl_t (by omega) h.2.2.1, zg_tr, lN_rem h.2.1 (by omega) h.2.2.1, show (1 : Int32) = nI 1 from rfl, nI_add]
    exact Or.inl ⟨_, rfl, Y, X % Y, rfl, gI_step h (by omega)⟩
theorem gcd_M {a b : Nat} (ha : a < 2 ^ 63) (hb : b < 2 ^ 63) (σ : ZS) : fX7_common (lN a) (lN b) σ = some (lN (Nat.gcd a b), σ) := by
  unfold fX7_common fX7_common_6 fX7_common_6n
  refine zloop_rule (fun i st => ∃ X Y, st = (lN X, lN Y, σ) ∧ gI a b i X Y) 127 (fun o => o = some (lN (Nat.gcd a b), σ)) (fun i s h => by obtain ⟨X, Y, -, h⟩ := h; exact h.1) ?_ zN 0 _ ⟨a, b, rfl, by omega, ha, hb, rfl, fun _ => ⟨rfl, rfl⟩, fun k e => absurd e (by omega)⟩ (by unfold zN; omega)
  rintro f i st ⟨X, Y, rfl, h⟩
  unfold fX7_common_6b
  dsimp only
  by_cases h0 : Y = 0
  · subst h0
    rw [show lN 0 = (0 : Int64) from rfl, lg_zero, if_pos rfl]
    refine Or.inr ?_
    rw [← h.2.2.2.1, Nat.gcd_zero_right]
  · rw [if_neg (fun e => by have h1 := (lcmp_eq _ _).mp e; have h2 := lN_pos (b := Y) (by omega) h.2.2.1; rw [h1] at h2; exact Int64.lt_irrefl h2), znl_t (by omega) h.2.2.1, zg_tr, lN_rem h.2.1 (by omega) h.2.2.1]
    exact Or.inl ⟨_, rfl, Y, X % Y, rfl, gI_step h (by omega)⟩
theorem part_both {a b : Nat} (ha : a < 2 ^ 63) (h0 : 0 < b) (hb : b < 2 ^ 63) (x : Int32) (σ τ : ZS) : ∃ v : Int64, fX6_partOf (lN a) (lN b) x σ = some (v, σ) ∧ fX7_partOf (lN a) (lN b) x τ = some (v, τ) := by
  have hg : 0 < Nat.gcd a b := Nat.gcd_pos_of_pos_right a h0
  have hg2 : Nat.gcd a b < 2 ^ 63 := Nat.lt_of_le_of_lt (Nat.le_of_dvd h0 (Nat.gcd_dvd_right a b)) hb
  unfold fX6_partOf fX7_partOf fX6_partOf_17 fX7_partOf_10
  rw [gcd_C ha hb, gcd_M ha hb, zb_mk, zb_mk, zb_mk, znl_t hg hg2, zg_tr, zg_tr]
  by_cases hx : x = 0
  · rw [if_pos hx, if_pos hx, cut_eq ha hg hg2, zb_mk, pk_lDiv ha hg hg2]
    exact ⟨_, rfl, rfl⟩
  · rw [if_neg hx, if_neg hx, cut_eq hb hg hg2, zb_mk, pk_lDiv hb hg hg2]
    exact ⟨_, rfl, rfl⟩
