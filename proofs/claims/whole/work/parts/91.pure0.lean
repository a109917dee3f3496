/-! ===== the pure part: plain facts ===== -/
theorem li (n : Nat) : (OfNat.ofNat n : Int32) = nI (OfNat.ofNat n) := rfl
theorem lil (n : Nat) : (OfNat.ofNat n : Int64) = lN (OfNat.ofNat n) := rfl
theorem zin_nI {a m : Nat} (h : a < 2147483648) : zin (nI a) m = decide (a < m) := by
  unfold zin
  rw [nI_toInt (by omega)]
  exact decide_eq_decide.mpr ⟨fun h => by omega, fun h => ⟨by omega, by omega⟩⟩
theorem zin_t {a m : Nat} (h : a < 2147483648) (h2 : a < m) : zin (nI a) m = true := by rw [zin_nI h]; exact decide_eq_true h2
theorem zin_or (x : Int32) (n : Nat) (hn : n < 2147483648) : (∃ j, j < n ∧ x = nI j) ∨ (zin x n = false ∧ (x < 0 ∨ (¬ x < 0 ∧ nI n ≤ x))) := by
  rcases pk_ix x (n := n) (by omega) with h | h | h
  · refine Or.inr ⟨?_, Or.inl h⟩
    unfold zin
    refine decide_eq_false (fun q => ?_)
    have := Int32.lt_iff_toInt_lt.mp h
    have e : (0 : Int32).toInt = 0 := rfl
    omega
  · by_cases h0 : x < 0
    · refine Or.inr ⟨?_, Or.inl h0⟩
      unfold zin
      refine decide_eq_false (fun q => ?_)
      have := Int32.lt_iff_toInt_lt.mp h0
      have e : (0 : Int32).toInt = 0 := rfl
      omega
    · refine Or.inr ⟨?_, Or.inr ⟨h0, h⟩⟩
      unfold zin
      refine decide_eq_false (fun q => ?_)
      have := Int32.le_iff_toInt_le.mp h
      rw [nI_toInt (by omega)] at this
      omega
  · exact Or.inl h
theorem nI_cl {n : Nat} (h : n < 2147483648) : (nI n).toNatClampNeg = n := nI_clamp (by omega)
theorem i0 : ¬ ((1 : Int32) = 0) := by decide
theorem upd_at (f : Nat → Int32) (k : Nat) (x : Int32) : upd f k x k = x := pk_us
theorem upd_ne (f : Nat → Int32) {k j : Nat} (x : Int32) (h : j ≠ k) : upd f k x j = f j := pk_un h
theorem zI1 (σ : ZS) (q k : Nat) (x : Int32) (c : Nat) : (zI σ q k x).1 c = if c = q then upd (σ.1 q) k x else σ.1 c := rfl
theorem zI2 (σ : ZS) (q k : Nat) (x : Int32) : (zI σ q k x).2 = σ.2 := rfl
theorem zL2 (σ : ZS) (q k : Nat) (x : Int64) (c : Nat) : (zL σ q k x).2 c = if c = q then vp_updL (σ.2 q) k x else σ.2 c := rfl
theorem zL1 (σ : ZS) (q k : Nat) (x : Int64) : (zL σ q k x).1 = σ.1 := rfl
theorem zb_mk {α β : Type} (r : α) (σ : ZS) (k : α → ZS → Option β) : zb (some (r, σ)) k = k r σ := rfl
theorem zg_tr {α : Type} (k : Option α) : zg true k = k := rfl
/-- loops that count up to a bound -/
theorem zloop_rule {σ ρ : Type} {F : (σ → Option ρ) → σ → Option ρ} (I : Nat → σ → Prop) (N : Nat) (Q : Option ρ → Prop) (hN : ∀ i s, I i s → i ≤ N) (hs : ∀ (f : σ → Option ρ) i s, I i s → (∃ s', F f s = f s' ∧ I (i + 1) s') ∨ Q (F f s)) : ∀ n i s, I i s → N < i + n → Q (zloop F n s) := by
  intro n
  induction n with
  | zero => intro i s hI h; exact absurd (hN i s hI) (by omega)
  | succ n ih =>
    intro i s hI h
    rcases hs (zloop F n) i s hI with ⟨s', e, hI'⟩ | hq
    · show Q (F (zloop F n) s)
      rw [e]
      exact ih (i + 1) s' hI' (by omega)
    · exact hq
theorem nI_lt_iff {a b : Nat} (ha : a < 2147483648) (hb : b < 2147483648) : nI a < nI b ↔ a < b := nI_ltI (by omega) (by omega)
theorem nI_le_iff {a b : Nat} (ha : a < 2147483648) (hb : b < 2147483648) : nI a ≤ nI b ↔ a ≤ b := nI_leI (by omega) (by omega)
theorem nI_eq_iff {a b : Nat} (ha : a < 2147483648) (hb : b < 2147483648) : nI a = nI b ↔ a = b := nI_eq (by omega) (by omega)
theorem nI_sub {a b : Nat} (h : b ≤ a) : nI a - nI b = nI (a - b) := pk_sub h
theorem nI_mul (a b : Nat) : nI a * nI b = nI (a * b) := pk_mul a b
theorem nI_mod {a d : Nat} (ha : a < 2147483648) (h0 : 0 < d) (hd : d < 2147483648) : nI a - nI a / nI d * nI d = nI (a % d) := pk_rem (by omega) h0 (by omega)
theorem nI_div {a d : Nat} (ha : a < 2147483648) (h0 : 0 < d) (hd : d < 2147483648) : nI a / nI d = nI (a / d) := pk_div (by omega) h0 (by omega)
/-- within -/
theorem within_t {a n : Nat} (h : a < n) (hn : n < 2147483648) (s : ZS) : fX6_within (nI a) (nI n) s = some (1, s) := by
  unfold fX6_within
  rw [if_neg (nI_pos (by omega)), if_neg (nI_ge h (by omega))]
theorem within_f {x : Int32} {n : Nat} (h : x < 0 ∨ (¬ x < 0 ∧ nI n ≤ x)) (s : ZS) : fX6_within x (nI n) s = some (0, s) := by
  unfold fX6_within
  rcases h with h | h
  · rw [if_pos h]
  · rw [if_neg h.1, if_pos h.2]
theorem lcmp_lt (x y : Int64) : lg_cmp x y < 0 ↔ x < y := by
  unfold lg_cmp
  by_cases h1 : y < x
  · rw [if_pos h1]
    exact ⟨fun h => absurd h (by decide), fun h => absurd (Int64.lt_trans h h1) Int64.lt_irrefl⟩
  · rw [if_neg h1]
    by_cases h2 : x = y
    · subst h2
      rw [if_pos rfl]
      exact ⟨fun h => absurd h (by decide), fun h => absurd h Int64.lt_irrefl⟩
    · rw [if_neg h2]
      exact ⟨fun _ => (Int64.lt_or_eq_of_le (Int64.not_lt.mp h1)).resolve_right h2, fun _ => by decide⟩
theorem lcmp_gt (x y : Int64) : 0 < lg_cmp x y ↔ y < x := by
  unfold lg_cmp
  by_cases h1 : y < x
  · rw [if_pos h1]
    exact ⟨fun _ => h1, fun _ => by decide⟩
  · rw [if_neg h1]
    by_cases h2 : x = y
    · rw [if_pos h2]
      exact ⟨fun h => absurd h (by decide), fun h => absurd h h1⟩
    · rw [if_neg h2]
      exact ⟨fun h => absurd h (by decide), fun h => absurd h h1⟩
theorem lcmp_eq (x y : Int64) : lg_cmp x y = 0 ↔ x = y := by
  unfold lg_cmp
  by_cases h1 : y < x
  · rw [if_pos h1]
    exact ⟨fun h => absurd h (by decide), fun h => by subst h; exact absurd h1 Int64.lt_irrefl⟩
  · rw [if_neg h1]
    by_cases h2 : x = y
    · rw [if_pos h2]; exact ⟨fun _ => h2, fun _ => rfl⟩
    · rw [if_neg h2]; exact ⟨fun h => absurd h (by decide), fun h => absurd h h2⟩
/-- isIn over widened ints -/
theorem isIn_eq (x a b : Int64) (s : ZS) : fX7_isIn x a b s = some (if a ≤ x ∧ x ≤ b then 1 else 0, s) := by
  unfold fX7_isIn
  by_cases h1 : x < a
  · rw [if_pos ((lcmp_lt _ _).mpr h1), if_neg (fun h => absurd h.1 (Int64.not_le.mpr h1))]
  · rw [if_neg (fun h => h1 ((lcmp_lt _ _).mp h))]
    by_cases h2 : b < x
    · rw [if_pos ((lcmp_gt _ _).mpr h2), if_neg (fun h => absurd h.2 (Int64.not_le.mpr h2))]
    · rw [if_neg (fun h => h2 ((lcmp_gt _ _).mp h)), if_pos ⟨Int64.not_lt.mp h1, Int64.not_lt.mp h2⟩]
theorem wide_toInt (x : Int32) : x.toInt64.toInt = x.toInt := Int32.toInt_toInt64 x
theorem isIn_t {a lo hi : Nat} (h1 : lo ≤ a) (h2 : a ≤ hi) (hh : hi < 2147483648) (s : ZS) : fX7_isIn (nI a).toInt64 (lN lo) (lN hi) s = some (1, s) := by
  rw [isIn_eq, nI_l (by omega), if_pos ⟨(lN_le (by omega) (by omega)).mpr h1, (lN_le (by omega) (by omega)).mpr h2⟩]
theorem isIn0_f {x : Int32} {n : Nat} (hn : n < 2147483648) (h : zin x n = false) (s : ZS) : fX7_isIn x.toInt64 0 (nI n - 1).toInt64 s = some (0, s) := by
  rw [isIn_eq, if_neg]
  intro q
  have h1 := Int64.le_iff_toInt_le.mp q.1
  have h2 := Int64.le_iff_toInt_le.mp q.2
  rw [wide_toInt] at h1
  rw [wide_toInt, wide_toInt] at h2
  have e0 : (0 : Int64).toInt = 0 := rfl
  have e1 : (nI n - 1).toInt = (n : Int) - 1 := by
    rw [show (1 : Int32) = nI 1 from rfl, Int32.toInt_sub, nI_toInt (by omega), nI_toInt (by omega)]
    exact Int.bmod_eq_of_le (by omega) (by omega)
  rw [e1] at h2
  have h3 : ¬ (0 ≤ x.toInt ∧ x.toInt < n) := fun q => absurd (show zin x n = true from decide_eq_true q) (by rw [h]; decide)
  exact h3 ⟨by omega, by omega⟩
theorem isIn0_t {a n : Nat} (hn : n < 2147483648) (h : a < n) (s : ZS) : fX7_isIn (nI a).toInt64 0 (nI n - 1).toInt64 s = some (1, s) := by
  rw [show (1 : Int32) = nI 1 from rfl, nI_sub (by omega), nI_l (n := n - 1) (by omega)]
  exact isIn_t (lo := 0) (Nat.zero_le _) (by omega) (by omega) s
theorem isInL_f {x : Int32} {lo hi : Nat} (hh : hi < 2147483648) (hl : lo < 2147483648) (h : ¬ ((lo : Int) ≤ x.toInt ∧ x.toInt ≤ hi)) (s : ZS) : fX7_isIn x.toInt64 (lN lo) (lN hi) s = some (0, s) := by
  rw [isIn_eq, if_neg]
  intro q
  have h1 := Int64.le_iff_toInt_le.mp q.1
  have h2 := Int64.le_iff_toInt_le.mp q.2
  rw [wide_toInt, lN_toInt (by omega)] at h1
  rw [wide_toInt, lN_toInt (by omega)] at h2
  exact h ⟨h1, h2⟩
theorem zin_false {x : Int32} {n : Nat} (h : zin x n = false) : ¬ (0 ≤ x.toInt ∧ x.toInt < n) := of_decide_eq_false h
