/-- the tape -/
def zTp (s : ZS) (n : Nat) (T : Nat → Nat) : Prop := n ≤ 80 ∧ s.1 26 1 = nI n ∧ ∀ i, i < n → s.1 27 i = nI (T i)
theorem byte_t {s : ZS} {n i : Nat} {T : Nat → Nat} (h : zTp s n T) (hi : i < n) : fX4_byteAt (nI i) s = some (nI (T i), s) := by
  obtain ⟨h1, h2, h3⟩ := h
  unfold fX4_byteAt
  rw [h2, if_neg (show ¬ nI n ≤ nI i from nI_ge (by omega) (by omega)), show (80 : Int32) = nI 80 from rfl, within_t (by omega) (by omega), zb_mk, if_neg i0, zin_t (by omega) (by omega), zg_tr, nI_cl (by omega), h3 i hi]
theorem byte_e {s : ZS} {n i : Nat} {T : Nat → Nat} (h : zTp s n T) (hi : n ≤ i) (h31 : i < 2147483648) : fX4_byteAt (nI i) s = some (-1, s) := by
  obtain ⟨h1, h2, h3⟩ := h
  unfold fX4_byteAt
  rw [h2, if_pos (show nI n ≤ nI i from nI_le hi (by omega))]
theorem zTp.fr {s s2 : ZS} {n : Nat} {T : Nat → Nat} (h : zTp s n T) (e1 : s2.1 26 1 = s.1 26 1) (e2 : s2.1 27 = s.1 27) : zTp s2 n T := ⟨h.1, by rw [e1]; exact h.2.1, fun i hi => by rw [e2]; exact h.2.2 i hi⟩
theorem minus_eq {a b j : Nat} (ha : a < 100000) (hb : b < 100000) (hj : j < 100000) (h : nI a - nI b = nI j) : a = j + b := by
  have e := nI_sub_toInt (x := a) (y := b) (by omega) (by omega)
  rw [h, nI_toInt (by omega)] at e
  omega
theorem zR.tape {σ τ σ1 τ1 : ZS} {G : Nat → Nat} (hR : zR σ τ) (a : ∀ c, c = 0 ∨ (10 ≤ c ∧ c < 19) ∨ c = 32 ∨ c = 33 ∨ c = 35 ∨ c = 36 → σ1.1 c = σ.1 c) (b : ∀ c, c = 2 ∨ c = 9 ∨ c = 10 ∨ c = 14 ∨ c = 15 ∨ c = 16 → τ1.1 c = τ.1 c) (b2 : τ1.1 0 2 = τ.1 0 2 ∧ τ1.1 0 23 = τ.1 0 23) (hG : zRg σ1 τ1 G) (ht : zRt σ1 τ1) : zR σ1 τ1 := by
  obtain ⟨-, h2, -, h4, h5, h6⟩ := hR
  refine ⟨⟨G, hG⟩, ?_, ht, ?_, ?_, ?_⟩
  · obtain ⟨h1, h2⟩ := h2
    refine ⟨by rw [a 0 (by omega), b2.1]; exact h1, ?_⟩
    rw [b2.1]
    refine h2.imp id (fun h => ⟨h.1, ?_⟩)
    obtain ⟨K, k1, k2, k3⟩ := h.2
    exact ⟨K, k1.fr (fun k hk => a _ (by omega)), by unfold zRow; rw [b 2 (by omega)]; exact k2, k3⟩
  · unfold zRp at h4 ⊢
    rw [a 32 (by omega), a 33 (by omega), b2.2, b 14 (by omega)]
    exact h4
  · unfold zRl at h5 ⊢
    rw [a 35 (by omega), a 36 (by omega), b 15 (by omega), b 16 (by omega)]
    exact h5
  · unfold zRc at h6 ⊢
    rw [b 9 (by omega), b 10 (by omega)]
    exact h6
/-- a stack from letters -/
def sOk (T : Nat → Nat) (m i : Nat) : Prop := 97 ≤ T i ∧ T i < 97 + m
def zLt (σ s : ZS) (T : Nat → Nat) (i : Nat) : Prop := (∀ c, c ≠ 26 → c ≠ 31 → s.1 c = σ.1 c) ∧ s.1 26 1 = σ.1 26 1 ∧ s.1 26 6 = nI i ∧ ∀ k, k < i → s.1 31 k = nI (T k - 97)
theorem stackC {σ s0 : ZS} {G : Nat → Nat} (hI : zInv G) {n : Nat} {T : Nat → Nat} (hT : zTp σ n T) (hb : ∀ i, i < n → T i ≤ 127) (h0 : zLt σ s0 T 0) (hn : 0 < n) : ∃ (i : Nat) (s2 : ZS), i ≤ n ∧ i ≤ 6 ∧ (∀ k, k < i → sOk T (G 0) k) ∧ (i < n → i = 6 ∨ ¬ sOk T (G 0) i) ∧ zLt σ s2 T i ∧ fX4_readStack_31 (nI (G 0)) 0 s0 = some (if i < n then nI i else -1, s2) := by
  have b0 := hI.1
  unfold fX4_readStack_31 fX4_readStack_31n
  refine zloop_rule (fun i st => ∃ s1, st = (nI (G 0), nI i, s1) ∧ i ≤ n ∧ i ≤ 6 ∧ (∀ k, k < i → sOk T (G 0) k) ∧ zLt σ s1 T i) 6 (fun o => ∃ (i : Nat) (s2 : ZS), i ≤ n ∧ i ≤ 6 ∧ (∀ k, k < i → sOk T (G 0) k) ∧ (i < n → i = 6 ∨ ¬ sOk T (G 0) i) ∧ zLt σ s2 T i ∧ o = some (if i < n then nI i else -1, s2)) (fun i s h => h.choose_spec.2.2.1) ?_ zN 0 _ ⟨s0, rfl, Nat.zero_le _, Nat.zero_le _, fun k h => absurd h (Nat.not_lt_zero k), h0⟩ (by unfold zN; omega)
  rintro f i st ⟨s1, rfl, hi, h6, hok, hL⟩
  have hT1 : zTp s1 n T := hT.fr hL.2.1 (hL.1 27 (by decide) (by decide))
  have h80 := hT.1
  unfold fX4_readStack_31b
  dsimp only
  rw [hT1.2.1]
  by_cases e : i = n
  · rw [if_pos (show nI n ≤ nI i by rw [e]; exact Int32.le_refl _), if_neg (show ¬ nI n = (0 : Int32) from fun q => absurd ((nI_eq_iff (b := 0) (by omega) (by omega)).mp q) (by omega))]
    exact Or.inr ⟨i, s1, hi, h6, hok, fun h => absurd h (by omega), hL, by rw [if_neg (by omega)]⟩
  · rw [if_neg (show ¬ nI n ≤ nI i from nI_ge (by omega) (by omega)), byte_t hT1 (by omega), zb_mk, show (6 : Int32) = nI 6 from rfl]
    by_cases e6 : i = 6
    · rw [if_pos (show nI 6 ≤ nI i by rw [e6]; exact Int32.le_refl _)]
      exact Or.inr ⟨i, s1, hi, h6, hok, fun _ => Or.inl e6, hL, by rw [if_pos (by omega)]⟩
    · rw [if_neg (show ¬ nI 6 ≤ nI i from nI_ge (by omega) (by omega)), show (97 : Int32) = nI 97 from rfl]
      have ht := hb i (by omega)
      by_cases ho : sOk T (G 0) i
      · rw [nI_sub ho.1, within_t (show T i - 97 < G 0 by have := ho.1; have := ho.2; omega) (by omega), zb_mk, if_neg i0, zin_t (by omega) (by omega), zg_tr, nI_cl (by omega), show (1 : Int32) = nI 1 from rfl, nI_add]
        refine Or.inl ⟨_, rfl, _, rfl, by omega, by omega, fun k hk => ?_, fun c h1 h2 => ?_, ?_, ?_, fun k hk => ?_⟩
        · by_cases ek : k = i
          · subst ek; exact ho
          · exact hok k (by omega)
        · rw [zI_ne _ _ _ h1, zI_ne _ _ _ h2]; exact hL.1 c h1 h2
        · rw [zI_at, upd_ne _ _ (show 1 ≠ 6 by decide), zI_ne _ _ _ (show 26 ≠ 31 by decide)]; exact hL.2.1
        · rw [zI_at, upd_at]
        · rw [zI_ne _ _ _ (show 31 ≠ 26 by decide), zI_at]
          by_cases ek : k = i
          · subst ek; rw [upd_at]
          · rw [upd_ne _ _ ek]; exact hL.2.2.2 k (by omega)
      · have hx : (nI (T i) - nI 97) < 0 ∨ (¬ (nI (T i) - nI 97) < 0 ∧ nI (G 0) ≤ nI (T i) - nI 97) := by
          rcases zin_or (nI (T i) - nI 97) (G 0) (by omega) with ⟨j, hj, ej⟩ | ⟨-, hx⟩
          · have := minus_eq (by omega) (by omega) (by omega) ej
            exact absurd ⟨by omega, by omega⟩ ho
          · exact hx
        rw [within_f hx, zb_mk, if_pos rfl]
        exact Or.inr ⟨i, s1, hi, h6, hok, fun _ => Or.inr ho, hL, by rw [if_pos (by omega)]⟩
theorem stackM {t0 : ZS} {G : Nat → Nat} (hr : zRow (t0.1 1) G) (hI : zInv G) {n i : Nat} {T : Nat → Nat} (h80 : n ≤ 80) (h6b : ∀ k, k < n → t0.1 6 k = nI (T k)) (hb : ∀ i, i < n → T i ≤ 127) (hi : i ≤ n) (h6 : i ≤ 6) (hok : ∀ k, k < i → sOk T (G 0) k) (hst : i < n → i = 6 ∨ ¬ sOk T (G 0) i) : fX7_stack_39 (nI n) 0 0 t0 = fX7_stack_76 (nI n) (nI i) 0 t0 := by
  have b0 := hI.1
  unfold fX7_stack_39 fX7_stack_39n
  refine zloop_rule (fun k st => st = (nI n, nI k, 0, t0) ∧ k ≤ i) 6 (fun o => o = fX7_stack_76 (nI n) (nI i) 0 t0) (fun k s h => by have := h.2; omega) ?_ zN 0 _ ⟨rfl, Nat.zero_le _⟩ (by unfold zN; omega)
  rintro f k st ⟨rfl, hk⟩
  unfold fX7_stack_39b
  dsimp only
  rw [if_pos rfl]
  by_cases e : k = n
  · rw [if_pos (show nI n ≤ nI k by rw [e]; exact Int32.le_refl _), show k = i by omega]
    exact Or.inr rfl
  · rw [if_neg (show ¬ nI n ≤ nI k from nI_ge (by omega) (by omega)), show (6 : Int32) = nI 6 from rfl]
    by_cases e6 : k = 6
    · rw [if_pos (show nI 6 ≤ nI k by rw [e6]; exact Int32.le_refl _), show k = i by omega]
      exact Or.inr rfl
    · rw [if_neg (show ¬ nI 6 ≤ nI k from nI_ge (by omega) (by omega)), zin_t (by omega) (by omega), zg_tr, nI_cl (by omega), h6b k (by omega), show (97 : Int32) = nI 97 from rfl]
      have ht := hb k (by omega)
      by_cases ho : sOk T (G 0) k
      · have : k ≠ i := fun q => by subst q; rcases hst (by omega) with h | h; exact e6 h; exact h ho
        rw [nI_sub ho.1, isSheet_t hr hI (show T k - 97 < G 0 by have := ho.1; have := ho.2; omega), zb_mk, if_neg i0, show nI k + 1 = nI (k + 1) from nI_add k 1]
        exact Or.inl ⟨_, rfl, rfl, by omega⟩
      · have hz : zin (nI (T k) - nI 97) (G 0) = false := by
          rcases zin_or (nI (T k) - nI 97) (G 0) (by omega) with ⟨j, hj, ej⟩ | ⟨hz, -⟩
          · have := minus_eq (by omega) (by omega) (by omega) ej
            exact absurd ⟨by omega, by omega⟩ ho
          · exact hz
        rw [isSheet_f hr hI hz, zb_mk, if_pos rfl]
        have : k = i := by
          rcases (show k = i ∨ k < i by omega) with h | h
          · exact h
          · exact absurd (hok k h) ho
        rw [this]
        exact Or.inr rfl
/-- the row with one more stack -/
def zGs (G : Nat → Nat) (h : Nat) (L : Nat → Nat) : Nat → Nat := fun i => if i = 1 then G 1 + 1 else if i = 58 + 7 * G 1 then h else if 59 + 7 * G 1 ≤ i ∧ i < 59 + 7 * G 1 + h then L (i - 59 - 7 * G 1) else G i
theorem zGs_1 (G : Nat → Nat) (h : Nat) (L : Nat → Nat) : zGs G h L 1 = G 1 + 1 := if_pos rfl
theorem zGs_h (G : Nat → Nat) (h : Nat) (L : Nat → Nat) : zGs G h L (58 + 7 * G 1) = h := by
  unfold zGs
  rw [if_neg (by omega), if_pos rfl]
theorem zGs_l (G : Nat → Nat) {h k : Nat} (L : Nat → Nat) (hk : k < h) : zGs G h L (59 + 7 * G 1 + k) = L k := by
  unfold zGs
  rw [if_neg (by omega), if_neg (by omega), if_pos (by omega)]
  congr 1
  omega
theorem zGs_o (G : Nat → Nat) {h i : Nat} (L : Nat → Nat) (h1 : i ≠ 1) (h2 : i ≠ 58 + 7 * G 1) (h3 : i < 59 + 7 * G 1 ∨ 59 + 7 * G 1 + h ≤ i) : zGs G h L i = G i := by
  unfold zGs
  rw [if_neg h1, if_neg h2, if_neg (by omega)]
theorem zGs_inv {G : Nat → Nat} (hI : zInv G) {h : Nat} {L : Nat → Nat} (h1 : G 1 < 6) (hh : h ≤ 6) (hL : ∀ k, k < h → L k < G 0) : zInv (zGs G h L) := by
  have b0 := hI.1
  have e0 : zGs G h L 0 = G 0 := zGs_o G L (by omega) (by omega) (by omega)
  refine ⟨by rw [e0]; exact b0, by rw [zGs_1]; omega, fun q a hq ha => ?_, fun t k ht hk => ?_⟩
  · by_cases g1 : pl q a = 58 + 7 * G 1
    · obtain ⟨rfl, rfl⟩ := pl_inj (q := q) (a := a) (q' := 3) (a' := G 1) hq ha (by decide) h1 g1
      rw [g1, zGs_h]; exact hh
    · by_cases g2 : 59 + 7 * G 1 ≤ pl q a ∧ pl q a < 59 + 7 * G 1 + h
      · obtain ⟨k, ek⟩ : ∃ k, pl q a = 59 + 7 * G 1 + k := ⟨pl q a - (59 + 7 * G 1), by omega⟩
        have hk : k < h := by omega
        obtain ⟨rfl, -⟩ := pl_inj (q := q) (a := a) (q' := 4) (a' := 6 * G 1 + k) hq ha (by decide) (show 6 * G 1 + k < 36 by omega) (by rw [pl4 (by omega)]; exact ek)
        rw [ek, zGs_l G L hk]
        have := hL k hk
        show L k ≤ 7
        omega
      · rw [zGs_o G L (by have := pl_rng hq ha; omega) g1 (by omega)]
        exact hI.2.2.1 q a hq ha
  · rw [zGs_1] at ht
    rw [e0]
    by_cases et : t = G 1
    · subst et
      rw [zGs_h] at hk
      rw [zGs_l G L hk]; exact hL k hk
    · rw [zGs_o G L (by omega) (by omega) (by omega)] at hk
      have := in_hgt hI (show t < 6 by omega)
      rw [zGs_o G L (by omega) (by omega) (by omega)]
      exact hI.2.2.2 t k (by omega) hk
theorem zGs_scene {f f2 : Nat → Nat → Int32} {G : Nat → Nat} (hS : zScene f 1 G) (hI : zInv G) {h : Nat} {L : Nat → Nat} (h1 : G 1 < 6) (hh : h ≤ 6) (e1 : f2 1 0 = f 1 0 ∧ f2 1 4 = nI (G 1 + 1)) (e5 : f2 5 (G 1) = nI h ∧ ∀ k, k ≠ G 1 → f2 5 k = f 5 k) (e6 : (∀ k, k < h → f2 6 (6 * G 1 + k) = nI (L k)) ∧ ∀ k, (k < 6 * G 1 ∨ 6 * G 1 + h ≤ k) → f2 6 k = f 6 k) (eo : ∀ c, 2 ≤ c → c < 10 → c ≠ 5 → c ≠ 6 → f2 c = f c) : zScene f2 1 (zGs G h L) := by
  have e0 : zGs G h L 0 = G 0 := zGs_o G L (by omega) (by omega) (by omega)
  refine ⟨by rw [e1.1, e0]; exact hS.1, by rw [e1.2, zGs_1], fun q a hq ha => ?_⟩
  have hs := hS.2.2 q a hq ha
  by_cases q3 : q = 3
  · subst q3
    have ha6 : a < 6 := ha
    by_cases ea : a = G 1
    · subst ea
      show f2 5 (G 1) = nI (zGs G h L (58 + 7 * G 1))
      rw [e5.1, zGs_h]
    · show f2 5 a = nI (zGs G h L (58 + 7 * a))
      rw [e5.2 a ea, zGs_o G L (by omega) (by omega) (by omega)]
      exact hs
  · by_cases q4 : q = 4
    · subst q4
      have ha36 : a < 36 := ha
      have ep : pl 4 a = 59 + 7 * (a / 6) + a % 6 := by simp [pl]
      by_cases g : 6 * G 1 ≤ a ∧ a < 6 * G 1 + h
      · obtain ⟨k, rfl⟩ : ∃ k, a = 6 * G 1 + k := ⟨a - 6 * G 1, by omega⟩
        show f2 6 (6 * G 1 + k) = nI (zGs G h L (pl 4 (6 * G 1 + k)))
        rw [e6.1 k (by omega), pl4 (by omega), zGs_l G L (by omega)]
      · show f2 6 a = nI (zGs G h L (pl 4 a))
        rw [e6.2 a (by omega), zGs_o G L (by omega) (by rw [ep]; omega) (by rw [ep]; omega)]
        exact hs
    · rw [eo (1 + 1 + q) (by omega) (by omega) (by omega) (by omega)]
      have hr := pl_rng hq ha
      rw [zGs_o G L (by omega) (fun e => q3 (pl_inj hq ha (show 3 < 8 by decide) (show G 1 < ln 3 from h1) e).1) ?_]
      · exact hs
      · by_cases g2 : 59 + 7 * G 1 ≤ pl q a ∧ pl q a < 59 + 7 * G 1 + h
        · obtain ⟨k, ek⟩ : ∃ k, pl q a = 59 + 7 * G 1 + k := ⟨pl q a - (59 + 7 * G 1), by omega⟩
          exact absurd (pl_inj hq ha (show 4 < 8 by decide) (show 6 * G 1 + k < 36 by omega) (by rw [pl4 (by omega)]; exact ek)).1 q4
        · omega
