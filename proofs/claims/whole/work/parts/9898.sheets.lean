/-- the clauses read so far -/
def zCl (s t : ZS) (m : Nat) (V : Nat → Nat) : Prop := (s.1 26 2 = nI m ∧ (∀ j, j < m → s.1 28 j = nI (V (7 * j)) ∧ s.1 29 j = nI (V (7 * j + 1)) ∧ ∀ b, b < 5 → s.1 30 (5 * j + b) = nI (V (7 * j + 2 + b))) ∧ (∀ i, i < 7 * m → t.1 8 i = nI (V i))) ∧ ∀ j, j < m → V (7 * j) ≤ 5 ∧ V (7 * j + 1) ≤ 9 ∧ ∀ b, b < 5 → V (7 * j + 2 + b) ≤ 10
def zRf (σ τ s t : ZS) : Prop := (∀ c, c ≠ 26 → c ≠ 28 → c ≠ 29 → c ≠ 30 → s.1 c = σ.1 c) ∧ (∀ c, c ≠ 0 → c ≠ 7 → c ≠ 8 → t.1 c = τ.1 c) ∧ ∀ k, k ≠ 9 → k ≠ 10 → k ≠ 11 → t.1 0 k = τ.1 0 k
def zQr (σ τ : ZS) (o o' : Option (Int32 × ZS)) : Prop := ∃ (s t : ZS), zRf σ τ s t ∧ ((∃ p, p ≤ 80 ∧ o = some (nI p, s) ∧ o' = some ((-100 : Int32) - nI p, t)) ∨ (∃ m V, m ≤ 7 ∧ o = some (-1, s) ∧ o' = some (nI m, t) ∧ zCl s t m V))
set_option maxHeartbeats 1000000 in
theorem copy_M {t : ZS} {m : Nat} (hm : m < 8) (x : Nat → Nat) (hx : ∀ b, b < 5 → t.1 7 b = nI (x b)) (k94 : Int32 → ZS → Option (Int32 × ZS)) : ∃ t2, fX7_reads_64 k94 (nI m) 0 t = k94 (nI m) t2 ∧ (∀ c, c ≠ 8 → t2.1 c = t.1 c) ∧ (∀ b, b < 5 → t2.1 8 (7 * m + 2 + b) = nI (x b)) ∧ ∀ i, i < 7 * m + 2 → t2.1 8 i = t.1 8 i := by
  unfold fX7_reads_64 fX7_reads_64n
  refine zloop_rule (fun i st => ∃ s1 : ZS, st = (nI m, nI i, s1) ∧ i ≤ 5 ∧ (∀ c, c ≠ 8 → s1.1 c = t.1 c) ∧ (∀ b, b < i → s1.1 8 (7 * m + 2 + b) = nI (x b)) ∧ ∀ i, i < 7 * m + 2 → s1.1 8 i = t.1 8 i) 5 (fun o => ∃ t2 : ZS, o = k94 (nI m) t2 ∧ (∀ c, c ≠ 8 → t2.1 c = t.1 c) ∧ (∀ b, b < 5 → t2.1 8 (7 * m + 2 + b) = nI (x b)) ∧ ∀ i, i < 7 * m + 2 → t2.1 8 i = t.1 8 i) (fun i s h => h.choose_spec.2.1) ?_ zN 0 _ ⟨t, rfl, Nat.zero_le _, fun _ _ => rfl, fun b hb => absurd hb (Nat.not_lt_zero b), fun _ _ => rfl⟩ (by unfold zN; omega)
  rintro f i st ⟨s1, rfl, hi, c1, c2, c3⟩
  unfold fX7_reads_64b
  dsimp only
  by_cases e : i = 5
  · subst e
    rw [if_pos (show (5 : Int32) ≤ nI 5 from Int32.le_refl _)]
    exact Or.inr ⟨s1, rfl, c1, c2, c3⟩
  · rw [if_neg (show ¬ (5 : Int32) ≤ nI i from nI_ge (b := 5) (by omega) (by omega)), zin_t (show i < 2147483648 by omega) (show i < 5 by omega), zg_tr, show (7 : Int32) = nI 7 from rfl, nI_mul, show (2 : Int32) = nI 2 from rfl, nI_add, nI_add, zin_t (show 7 * m + 2 + i < 2147483648 by omega) (show 7 * m + 2 + i < 56 by omega), zg_tr, nI_cl (show 7 * m + 2 + i < 2147483648 by omega), nI_cl (show i < 2147483648 by omega), c1 7 (by decide), hx i (by omega), show nI i + 1 = nI (i + 1) from nI_add i 1]
    refine Or.inl ⟨_, rfl, _, rfl, by omega, fun c hc => by rw [zI_ne _ _ _ hc]; exact c1 c hc, fun b hb => ?_, fun j hj => by rw [zI_at, upd_ne _ _ (by omega)]; exact c3 j hj⟩
    rw [zI_at]
    by_cases eb : b = i
    · subst eb; rw [upd_at]
    · rw [upd_ne _ _ (by omega)]; exact c2 b (by omega)
set_option maxHeartbeats 2000000 in
theorem reads_both {σ τ s0 t0 : ZS} {n : Nat} {T : Nat → Nat} (h : zIn s0 t0 n T 0) (hf : zRf σ τ s0 t0) (h2 : s0.1 26 2 = nI 0) : zQr σ τ (fX4_readSheets_14 1 0 s0) (fX7_reads_9 0 1 t0) := by
  have h80 := h.2.1.1
  unfold fX4_readSheets_14 fX4_readSheets_14n fX7_reads_9 fX7_reads_9n
  refine zloop2 (fun m st st' => ∃ (x : Nat) (s t : ZS) (p : Nat) (V : Nat → Nat), st = (nI x, nI m, s) ∧ st' = (nI m, nI x, t) ∧ x ≤ 1 ∧ zIn s t n T p ∧ zRf σ τ s t ∧ zCl s t m V ∧ (17 * m ≤ p + 1 - x) ∧ (x = 0 → 0 < m)) 5 (zQr σ τ) (fun i s s' h => by obtain ⟨_, _, _, _, _, _, _, hx, hz, _, _, h, _⟩ := h; have := hz.1; omega) ?_ zN 0 _ _ ⟨1, s0, t0, 0, fun _ => 0, rfl, rfl, Nat.le_refl _, h, hf, ⟨⟨h2, fun j hj => absurd hj (Nat.not_lt_zero j), fun i hi => absurd hi (by omega)⟩, fun j hj => absurd hj (Nat.not_lt_zero j)⟩, by omega, fun h => absurd h (by decide)⟩ (by unfold zN; omega)
  rintro f g m st st' ⟨x, s, t, p, V, rfl, rfl, hx, hz, hr, hV, h17, hx0⟩
  have hpn := hz.1
  unfold fX4_readSheets_14b fX7_reads_9b
  dsimp only
  rw [if_neg (show ¬ (8 : Int32) ≤ nI m from nI_ge (b := 8) (by omega) (by omega))]
  rcases (show x = 0 ∨ x = 1 by omega) with rfl | rfl
  · rw [if_pos (show nI 0 = (0 : Int32) from rfl), if_pos (show nI 0 = (0 : Int32) from rfl)]
    unfold fX4_readSheets_49
    rw [hz.2.1.2.1, hz.2.2.1, hz.2.2.2.2.1, hz.2.2.2.2.2.1]
    by_cases e : n ≤ p
    · rw [if_pos (show nI n ≤ nI p from nI_le e (by omega)), if_pos (show nI n ≤ nI p from nI_le e (by omega))]
      exact Or.inr ⟨s, t, hr, Or.inr ⟨m, V, by omega, rfl, rfl, hV⟩⟩
    · rw [if_neg (show ¬ nI n ≤ nI p from nI_ge (by omega) (by omega)), if_neg (show ¬ nI n ≤ nI p from nI_ge (by omega) (by omega))]
      exact Or.inr ⟨s, t, hr, Or.inl ⟨p, by omega, rfl, rfl⟩⟩
  · rw [if_neg (show ¬ nI 1 = (0 : Int32) by decide), if_neg (show ¬ nI 1 = (0 : Int32) by decide)]
    obtain ⟨s1, t1, fr, hq⟩ := clause_both hz (show m < 8 by omega) hV.1.1
    have hr1 : zRf σ τ s1 t1 := ⟨fun c a b d e => (fr.1 c a b d e).trans (hr.1 c a b d e), fun c a b d => (fr.2.1 c a b).trans (hr.2.1 c a b d), fun k a b d => (fr.2.2 k a b d).trans (hr.2.2 k a b d)⟩
    rcases hq with ⟨e1, e2, kd, fg, q, v, hkd, hfg, hv, hq16, z1, w2, w28, w29, w30, w30b, d10, d11, d7⟩ | ⟨e1, e2, q, z1⟩
    · have hqn := z1.1
      rw [e1, zb_mk, if_neg i0, e2, zb_mk, if_neg i0, if_neg (show ¬ (8 : Int32) ≤ nI m from nI_ge (b := 8) (by omega) (by omega)), show (7 : Int32) = nI 7 from rfl, nI_mul, show (1 : Int32) = nI 1 from rfl, nI_add, nI_add, zin_t (show 7 * m < 2147483648 by omega) (show 7 * m < 56 by omega), zg_tr, zin_t (show 7 * m + 1 < 2147483648 by omega) (show 7 * m + 1 < 56 by omega), zg_tr, nI_cl (show 7 * m < 2147483648 by omega), nI_cl (show 7 * m + 1 < 2147483648 by omega), d10, zI_ne _ _ _ (show 0 ≠ 8 by decide), d11]
      obtain ⟨t2, e3, f1, f2, f3⟩ := copy_M (t := zI (zI t1 8 (7 * m) (nI kd)) 8 (7 * m + 1) (nI fg)) (show m < 8 by omega) v (fun b hb => by rw [zI_ne _ _ _ (show 7 ≠ 8 by decide), zI_ne _ _ _ (show 7 ≠ 8 by decide)]; exact d7 b hb) (fX7_reads_94 (fun x1 x2 s => g (x1, x2, s)))
      have fo : ∀ c, c ≠ 8 → t2.1 c = t1.1 c := fun c hc => by rw [f1 c hc, zI_ne _ _ _ hc, zI_ne _ _ _ hc]
      have z2 : zIn s1 t2 n T q := z1.fr rfl rfl rfl (by rw [fo 0 (by decide)]) (by rw [fo 0 (by decide)]) (fo 6 (by decide)) ⟨fo 9 (by decide), fo 10 (by decide)⟩
      have hr2 : zRf σ τ s1 t2 := ⟨hr1.1, fun c a b d => by rw [fo c d]; exact hr1.2.1 c a b d, fun k a b d => by rw [fo 0 (by decide)]; exact hr1.2.2 k a b d⟩
      have hV2 : zCl s1 t2 (m + 1) (fun i => if i < 7 * m then V i else if i = 7 * m then kd else if i = 7 * m + 1 then fg else v (i - 7 * m - 2)) := by
        refine ⟨⟨w2, fun j hj => ?_, fun i hi => ?_⟩, fun j hj => ?_⟩
        · dsimp only
          by_cases ej : j = m
          · subst ej
            rw [if_neg (by omega), if_pos rfl, if_neg (by omega), if_neg (by omega), if_pos rfl, w28, w29, upd_at, upd_at]
            refine ⟨rfl, rfl, fun b hb => ?_⟩
            rw [if_neg (by omega), if_neg (by omega), if_neg (by omega), w30 b hb]
            congr 2
            omega
          · obtain ⟨g1, g2, g3⟩ := hV.1.2.1 j (by omega)
            rw [if_pos (by omega), if_pos (by omega), w28, w29, upd_ne _ _ ej, upd_ne _ _ ej]
            refine ⟨g1, g2, fun b hb => ?_⟩
            rw [if_pos (by omega), w30b _ (by omega)]
            exact g3 b hb
        · dsimp only
          by_cases e1 : i < 7 * m
          · rw [if_pos e1, f3 i (by omega), zI_at, upd_ne _ _ (by omega), zI_at, upd_ne _ _ (by omega), fr.2.1 8 (by decide) (by decide)]
            exact hV.1.2.2 i e1
          · rw [if_neg e1]
            by_cases e2 : i = 7 * m
            · rw [if_pos e2, e2, f3 _ (by omega), zI_at, upd_ne _ _ (by omega), zI_at, upd_at]
            · rw [if_neg e2]
              by_cases e3 : i = 7 * m + 1
              · rw [if_pos e3, e3, f3 _ (by omega), zI_at, upd_at]
              · rw [if_neg e3]
                obtain ⟨b, rfl⟩ : ∃ b, i = 7 * m + 2 + b := ⟨i - (7 * m + 2), by omega⟩
                rw [f2 b (by omega)]
                congr 2
                omega
        · dsimp only
          by_cases ej : j = m
          · subst ej
            rw [if_neg (by omega), if_pos rfl, if_neg (by omega), if_neg (by omega), if_pos rfl]
            refine ⟨hkd, hfg, fun b hb => ?_⟩
            rw [if_neg (by omega), if_neg (by omega), if_neg (by omega), show 7 * j + 2 + b - 7 * j - 2 = b by omega]
            exact hv b hb
          · obtain ⟨g1, g2, g3⟩ := hV.2 j (by omega)
            rw [if_pos (by omega), if_pos (by omega)]
            refine ⟨g1, g2, fun b hb => ?_⟩
            rw [if_pos (by omega)]
            exact g3 b hb
      obtain ⟨W, hW⟩ : ∃ W, zCl s1 t2 (m + 1) W := ⟨_, hV2⟩
      rw [e3]
      unfold fX7_reads_94
      rw [show (59 : Int32) = nI 59 from rfl, show (1 : Int32) = nI 1 from rfl, nI_add]
      rcases pass_both z2 (c := 59) (by omega) with ⟨r1, r2, r3⟩ | ⟨r2, r3⟩
      · rw [r2, r3, zb_mk, zb_mk]
        have a5 := fS.at s1 (q + 1)
        have b5 := fT.at t2 (q + 1)
        refine Or.inl ⟨_, _, rfl, rfl, 1, _, _, q + 1, W, rfl, rfl, Nat.le_refl _, z2.mv a5 b5 (by omega), ⟨fun c a b d e => by rw [a5.1 c a]; exact hr2.1 c a b d e, fun c a b d => by rw [b5.1 c a]; exact hr2.2.1 c a b d, fun k a b d => by rw [b5.2.1 k a b d]; exact hr2.2.2 k a b d⟩, ⟨⟨by rw [a5.2.1 2 (by decide)]; exact hW.1.1, fun j hj => by rw [a5.1 28 (by decide), a5.1 29 (by decide), a5.1 30 (by decide)]; exact hW.1.2.1 j hj, fun i hi => by rw [b5.1 8 (by decide)]; exact hW.1.2.2 i hi⟩, hW.2⟩, by omega, fun h => absurd h (by decide)⟩
      · rw [r2, r3, zb_mk, zb_mk]
        exact Or.inl ⟨_, _, rfl, rfl, 0, s1, t2, q, W, rfl, rfl, Nat.zero_le _, z2, hr2, hW, by omega, fun _ => by omega⟩
    · have hqn := z1.1
      rw [e1, zb_mk, if_pos rfl, e2, zb_mk, if_pos rfl, z1.2.2.1, z1.2.2.2.2.2.1]
      exact Or.inr ⟨s1, t1, hr1, Or.inl ⟨q, by omega, rfl, rfl⟩⟩
/-- the row with more sheets -/
def zGm (G : Nat → Nat) (m : Nat) (V : Nat → Nat) : Nat → Nat := fun i => if i = 0 then G 0 + m else if 2 + 7 * G 0 ≤ i ∧ i < 2 + 7 * G 0 + 7 * m then V (i - 2 - 7 * G 0) else G i
theorem zGm_0 (G : Nat → Nat) (m : Nat) (V : Nat → Nat) : zGm G m V 0 = G 0 + m := if_pos rfl
theorem zGm_v (G : Nat → Nat) {m i : Nat} (V : Nat → Nat) (h : i < 7 * m) : zGm G m V (2 + 7 * G 0 + i) = V i := by
  unfold zGm
  rw [if_neg (by omega), if_pos (by omega)]
  congr 1
  omega
theorem zGm_o (G : Nat → Nat) {m i : Nat} (V : Nat → Nat) (h0 : i ≠ 0) (h : i < 2 + 7 * G 0 ∨ 2 + 7 * G 0 + 7 * m ≤ i) : zGm G m V i = G i := by
  unfold zGm
  rw [if_neg h0, if_neg (by omega)]
/-- a place of a new sheet is one of its own -/
theorem pl_new {G : Nat → Nat} {m q a : Nat} (hm : G 0 + m ≤ 8) (hq : q < 8) (ha : a < ln q) (h : 2 + 7 * G 0 ≤ pl q a ∧ pl q a < 2 + 7 * G 0 + 7 * m) : (q = 0 ∧ ∃ j, j < m ∧ a = G 0 + j) ∨ (q = 1 ∧ ∃ j, j < m ∧ a = G 0 + j) ∨ (q = 2 ∧ ∃ j b, j < m ∧ b < 5 ∧ a = 5 * (G 0 + j) + b) := by
  rcases (show q = 0 ∨ q = 1 ∨ q = 2 ∨ q = 3 ∨ q = 4 ∨ q = 5 ∨ q = 6 ∨ q = 7 by omega) with rfl | rfl | rfl | rfl | rfl | rfl | rfl | rfl
  · rw [pl0] at h
    exact Or.inl ⟨rfl, a - G 0, by omega, by omega⟩
  · rw [pl1] at h
    exact Or.inr (Or.inl ⟨rfl, a - G 0, by omega, by omega⟩)
  · have e : pl 2 a = 4 + 7 * (a / 5) + a % 5 := by simp [pl]
    rw [e] at h
    exact Or.inr (Or.inr ⟨rfl, a / 5 - G 0, a % 5, by omega, by omega, by omega⟩)
  · rw [pl3] at h; omega
  · have e : pl 4 a = 59 + 7 * (a / 6) + a % 6 := by simp [pl]
    rw [e] at h; omega
  · rw [pl5] at h; omega
  · rw [pl6] at h; omega
  · rw [pl7] at h; omega
theorem zGm_inv {G : Nat → Nat} (hI : zInv G) {m : Nat} {V : Nat → Nat} (hm : G 0 + m ≤ 8) (hV : ∀ j, j < m → V (7 * j) ≤ 5 ∧ V (7 * j + 1) ≤ 9 ∧ ∀ b, b < 5 → V (7 * j + 2 + b) ≤ 10) : zInv (zGm G m V) := by
  have e1 : zGm G m V 1 = G 1 := zGm_o G V (by omega) (by omega)
  have b1 := hI.2.1
  refine ⟨by rw [zGm_0]; exact hm, by rw [e1]; exact b1, fun q a hq ha => ?_, fun t k ht hk => ?_⟩
  · by_cases h : 2 + 7 * G 0 ≤ pl q a ∧ pl q a < 2 + 7 * G 0 + 7 * m
    · rcases pl_new hm hq ha h with ⟨rfl, j, hj, rfl⟩ | ⟨rfl, j, hj, rfl⟩ | ⟨rfl, j, b, hj, hb, rfl⟩
      · rw [pl0, show 2 + 7 * (G 0 + j) = 2 + 7 * G 0 + 7 * j by omega, zGm_v G V (by omega)]
        exact (hV j hj).1
      · rw [pl1, show 3 + 7 * (G 0 + j) = 2 + 7 * G 0 + (7 * j + 1) by omega, zGm_v G V (by omega)]
        exact (hV j hj).2.1
      · rw [pl2 hb, show 4 + 7 * (G 0 + j) + b = 2 + 7 * G 0 + (7 * j + 2 + b) by omega, zGm_v G V (by omega)]
        exact (hV j hj).2.2 b hb
    · rw [zGm_o G V (by have := pl_rng hq ha; omega) (by omega)]
      exact hI.2.2.1 q a hq ha
  · rw [e1] at ht
    rw [zGm_o G V (by omega) (by omega)] at hk
    have := in_hgt hI (show t < 6 by omega)
    have := hI.2.2.2 t k ht hk
    rw [zGm_o G V (by omega) (by omega), zGm_0]
    omega
/-- the class's new sheets so far -/
def zAd (G V : Nat → Nat) (s0 s : ZS) (m : Nat) : Prop := (∀ c, c ≠ 1 → c ≠ 2 → c ≠ 3 → c ≠ 4 → s.1 c = s0.1 c) ∧ (s.1 1 0 = nI (G 0 + m) ∧ s.1 1 4 = s0.1 1 4) ∧ (∀ j, j < m → s.1 2 (G 0 + j) = nI (V (7 * j)) ∧ s.1 3 (G 0 + j) = nI (V (7 * j + 1)) ∧ ∀ b, b < 5 → s.1 4 (5 * (G 0 + j) + b) = nI (V (7 * j + 2 + b))) ∧ (∀ a, a < G 0 → s.1 2 a = s0.1 2 a ∧ s.1 3 a = s0.1 3 a) ∧ (∀ a, a < 5 * G 0 → s.1 4 a = s0.1 4 a) ∧ (∀ a, G 0 + m ≤ a → s.1 2 a = s0.1 2 a ∧ s.1 3 a = s0.1 3 a) ∧ ∀ a, 5 * (G 0 + m) ≤ a → s.1 4 a = s0.1 4 a
set_option maxHeartbeats 1000000 in
theorem addSheet_C {s0 s : ZS} {G V : Nat → Nat} {j : Nat} (h : zAd G V s0 s j) (hj : G 0 + j < 8) (h30 : ∀ b, b < 5 → s0.1 30 (5 * j + b) = nI (V (7 * j + 2 + b))) (h5 : 5 * j + 5 ≤ 40) : ∃ s2, fX3_addSheet (nI (V (7 * j))) (nI (V (7 * j + 1))) (nI j * 5) s = some ((), s2) ∧ zAd G V s0 s2 (j + 1) := by
  obtain ⟨c1, c2, c3, c4, c5, c6, c7⟩ := h
  unfold fX3_addSheet
  rw [c2.1, show (5 : Int32) = nI 5 from rfl, nI_mul, nI_add, if_neg (show ¬ (8 : Int32) ≤ nI (G 0 + j) from nI_ge (b := 8) (by omega) (by omega)), if_neg (show ¬ nI (j * 5) < (0 : Int32) from nI_pos (by omega)), if_pos (show nI (j * 5 + 5) ≤ (40 : Int32) from nI_le (b := 40) (by omega) (by omega)), zin_t (by omega) hj, zg_tr, nI_cl (by omega), zI_ne _ _ _ (show 1 ≠ 2 by decide), c2.1, zin_t (by omega) hj, zg_tr, nI_cl (by omega)]
  unfold fX3_addSheet_47 fX3_addSheet_47n
  refine zloop_rule (fun i st => ∃ s1 : ZS, st = (nI (j * 5), nI i, s1) ∧ i ≤ 5 ∧ (∀ c, c ≠ 4 → s1.1 c = (zI (zI s 2 (G 0 + j) (nI (V (7 * j)))) 3 (G 0 + j) (nI (V (7 * j + 1)))).1 c) ∧ (∀ b, b < i → s1.1 4 (5 * (G 0 + j) + b) = nI (V (7 * j + 2 + b))) ∧ ∀ a, (a < 5 * (G 0 + j) ∨ 5 * (G 0 + j) + i ≤ a) → s1.1 4 a = s.1 4 a) 5 (fun o => ∃ s2 : ZS, o = some ((), s2) ∧ zAd G V s0 s2 (j + 1)) (fun i s h => h.choose_spec.2.1) ?_ zN 0 _ ⟨_, rfl, Nat.zero_le _, fun _ _ => rfl, fun b hb => absurd hb (Nat.not_lt_zero b), fun a _ => by rw [zI_ne _ _ _ (show 4 ≠ 3 by decide), zI_ne _ _ _ (show 4 ≠ 2 by decide)]⟩ (by unfold zN; omega)
  rintro f i st ⟨s1, rfl, hi, d1, d2, d3⟩
  have e10 : s1.1 1 = s.1 1 := by rw [d1 1 (by decide), zI_ne _ _ _ (show 1 ≠ 3 by decide), zI_ne _ _ _ (show 1 ≠ 2 by decide)]
  have e2 : s1.1 2 = upd (s.1 2) (G 0 + j) (nI (V (7 * j))) := by rw [d1 2 (by decide), zI_ne _ _ _ (show 2 ≠ 3 by decide), zI_at]
  have e3 : s1.1 3 = upd (s.1 3) (G 0 + j) (nI (V (7 * j + 1))) := by rw [d1 3 (by decide), zI_at, zI_ne _ _ _ (show 3 ≠ 2 by decide)]
  unfold fX3_addSheet_47b
  dsimp only
  rw [e10, c2.1]
  by_cases e : i = 5
  · subst e
    rw [if_pos (show (5 : Int32) ≤ nI 5 from Int32.le_refl _), show (1 : Int32) = nI 1 from rfl, nI_add]
    refine Or.inr ⟨_, rfl, fun c q1 q2 q3 q4 => ?_, ⟨?_, ?_⟩, fun k hk => ?_, fun a ha => ?_, fun a ha => ?_, fun a ha => ?_, fun a ha => ?_⟩
    · rw [zI_ne _ _ _ q1, d1 c q4, zI_ne _ _ _ q3, zI_ne _ _ _ q2]; exact c1 c q1 q2 q3 q4
    · rw [zI_at, upd_at]; rfl
    · rw [zI_at, upd_ne _ _ (by decide), e10]; exact c2.2
    · rw [zI_ne _ _ _ (show 2 ≠ 1 by decide), zI_ne _ _ _ (show 3 ≠ 1 by decide), zI_ne _ _ _ (show 4 ≠ 1 by decide), e2, e3]
      by_cases ek : k = j
      · subst ek; rw [upd_at, upd_at]; exact ⟨rfl, rfl, d2⟩
      · rw [upd_ne _ _ (by omega), upd_ne _ _ (by omega)]
        obtain ⟨g1, g2, g3⟩ := c3 k (by omega)
        exact ⟨g1, g2, fun b hb => by rw [d3 _ (by omega)]; exact g3 b hb⟩
    · rw [zI_ne _ _ _ (show 2 ≠ 1 by decide), zI_ne _ _ _ (show 3 ≠ 1 by decide), e2, e3, upd_ne _ _ (by omega), upd_ne _ _ (by omega)]; exact c4 a ha
    · rw [zI_ne _ _ _ (show 4 ≠ 1 by decide), d3 _ (by omega)]; exact c5 a ha
    · rw [zI_ne _ _ _ (show 2 ≠ 1 by decide), zI_ne _ _ _ (show 3 ≠ 1 by decide), e2, e3, upd_ne _ _ (by omega), upd_ne _ _ (by omega)]; exact c6 a (by omega)
    · rw [zI_ne _ _ _ (show 4 ≠ 1 by decide), d3 _ (by omega)]; exact c7 a (by omega)
  · rw [if_neg (show ¬ (5 : Int32) ≤ nI i from nI_ge (b := 5) (by omega) (by omega)), nI_add, zin_t (show j * 5 + i < 2147483648 by omega) (show j * 5 + i < 40 by omega), zg_tr, show (5 : Int32) = nI 5 from rfl, nI_mul, nI_add, zin_t (show (G 0 + j) * 5 + i < 2147483648 by omega) (show (G 0 + j) * 5 + i < 40 by omega), zg_tr, nI_cl (show j * 5 + i < 2147483648 by omega), nI_cl (show (G 0 + j) * 5 + i < 2147483648 by omega), d1 30 (by decide), zI_ne _ _ _ (show 30 ≠ 3 by decide), zI_ne _ _ _ (show 30 ≠ 2 by decide), c1 30 (by decide) (by decide) (by decide) (by decide), show j * 5 + i = 5 * j + i by omega, h30 i (by omega), show nI i + 1 = nI (i + 1) from nI_add i 1]
    refine Or.inl ⟨_, rfl, _, rfl, by omega, fun c hc => by rw [zI_ne _ _ _ hc]; exact d1 c hc, fun b hb => ?_, fun a ha => by rw [zI_at, upd_ne _ _ (by omega)]; exact d3 a (by omega)⟩
    rw [zI_at]
    by_cases eb : b = i
    · subst eb; rw [show (G 0 + j) * 5 + b = 5 * (G 0 + j) + b by omega, upd_at]
    · rw [upd_ne _ _ (by omega)]; exact d2 b (by omega)
theorem zAd_scene {s0 s : ZS} {G V : Nat → Nat} {m : Nat} (hS : zScene s0.1 1 G) (hI : zInv G) (hm : G 0 + m ≤ 8) (h : zAd G V s0 s m) : zScene s.1 1 (zGm G m V) := by
  obtain ⟨c1, c2, c3, c4, c5, c6, c7⟩ := h
  refine ⟨by rw [c2.1, zGm_0], by rw [c2.2, zGm_o G V (by omega) (by omega)]; exact hS.2.1, fun q a hq ha => ?_⟩
  by_cases hp : 2 + 7 * G 0 ≤ pl q a ∧ pl q a < 2 + 7 * G 0 + 7 * m
  · rcases pl_new hm hq ha hp with ⟨rfl, j, hj, rfl⟩ | ⟨rfl, j, hj, rfl⟩ | ⟨rfl, j, b, hj, hb, rfl⟩
    · rw [pl0, show 2 + 7 * (G 0 + j) = 2 + 7 * G 0 + 7 * j by omega, zGm_v G V (by omega)]
      exact (c3 j hj).1
    · rw [pl1, show 3 + 7 * (G 0 + j) = 2 + 7 * G 0 + (7 * j + 1) by omega, zGm_v G V (by omega)]
      exact (c3 j hj).2.1
    · rw [pl2 hb, show 4 + 7 * (G 0 + j) + b = 2 + 7 * G 0 + (7 * j + 2 + b) by omega, zGm_v G V (by omega)]
      exact (c3 j hj).2.2 b hb
  · rw [zGm_o G V (by have := pl_rng hq ha; omega) (by omega)]
    have hs := hS.2.2 q a hq ha
    rcases (show q = 0 ∨ q = 1 ∨ q = 2 ∨ 3 ≤ q by omega) with rfl | rfl | rfl | h3
    · rw [pl0] at hp
      rw [← hs]
      show s.1 2 a = s0.1 2 a
      rcases (show a < G 0 ∨ G 0 + m ≤ a by omega) with h | h
      · exact (c4 a h).1
      · exact (c6 a h).1
    · rw [pl1] at hp
      rw [← hs]
      show s.1 3 a = s0.1 3 a
      rcases (show a < G 0 ∨ G 0 + m ≤ a by omega) with h | h
      · exact (c4 a h).2
      · exact (c6 a h).2
    · have e : pl 2 a = 4 + 7 * (a / 5) + a % 5 := by simp [pl]
      rw [e] at hp
      rw [← hs]
      show s.1 4 a = s0.1 4 a
      rcases (show a < 5 * G 0 ∨ 5 * (G 0 + m) ≤ a by omega) with h | h
      · exact c5 a h
      · exact c7 a h
    · rw [← hs, c1 (1 + 1 + q) (by omega) (by omega) (by omega) (by omega)]
theorem sheets_C {s0 : ZS} {G V : Nat → Nat} {m : Nat} (hS : zScene s0.1 1 G) (hm : G 0 + m ≤ 8) (h2 : s0.1 26 2 = nI m) (hV : ∀ j, j < m → s0.1 28 j = nI (V (7 * j)) ∧ s0.1 29 j = nI (V (7 * j + 1)) ∧ ∀ b, b < 5 → s0.1 30 (5 * j + b) = nI (V (7 * j + 2 + b))) : ∃ s2, fX6_sheets_50 0 s0 = some (nI (G 0 + m), s2) ∧ zAd G V s0 s2 m := by
  unfold fX6_sheets_50 fX6_sheets_50n
  refine zloop_rule (fun j st => ∃ s1 : ZS, st = (nI j, s1) ∧ j ≤ m ∧ zAd G V s0 s1 j) 8 (fun o => ∃ s2 : ZS, o = some (nI (G 0 + m), s2) ∧ zAd G V s0 s2 m) (fun i s h => by have := h.choose_spec.2.1; omega) ?_ zN 0 _ ⟨s0, rfl, Nat.zero_le _, fun _ _ _ _ _ => rfl, ⟨hS.1, rfl⟩, fun j hj => absurd hj (Nat.not_lt_zero j), fun _ _ => ⟨rfl, rfl⟩, fun _ _ => rfl, fun _ _ => ⟨rfl, rfl⟩, fun _ _ => rfl⟩ (by unfold zN; omega)
  rintro f j st ⟨s1, rfl, hj, ha⟩
  unfold fX6_sheets_50b
  dsimp only
  rw [ha.1 26 (by decide) (by decide) (by decide) (by decide), h2]
  by_cases e : j = m
  · subst e
    rw [if_pos (Int32.le_refl _), ha.2.1.1]
    exact Or.inr ⟨s1, rfl, ha⟩
  · obtain ⟨g1, g2, g3⟩ := hV j (by omega)
    obtain ⟨s2, e2, a2⟩ := addSheet_C ha (by omega) g3 (by omega)
    rw [if_neg (show ¬ nI m ≤ nI j from nI_ge (by omega) (by omega)), zin_t (by omega) (show j < 8 by omega), zg_tr, zg_tr, nI_cl (by omega), ha.1 28 (by decide) (by decide) (by decide) (by decide), ha.1 29 (by decide) (by decide) (by decide) (by decide), g1, g2, e2, zb_mk, show nI j + 1 = nI (j + 1) from nI_add j 1]
    exact Or.inl ⟨_, rfl, s2, rfl, by omega, a2⟩
theorem sheets_M {t0 : ZS} {G V : Nat → Nat} {m : Nat} (hr : zRow (t0.1 1) G) (hm : G 0 + m ≤ 8) (hV : ∀ i, i < 7 * m → t0.1 8 i = nI (V i)) : ∃ t2, fX7_sheets_34 (nI m) 0 t0 = some (nI (G 0 + m), t2) ∧ zRow (t2.1 1) (zGm G m V) ∧ ∀ c, c ≠ 1 → t2.1 c = t0.1 c := by
  unfold fX7_sheets_34 fX7_sheets_34n
  refine zloop_rule (fun i st => ∃ s1 : ZS, st = (nI m, nI i, s1) ∧ i ≤ 7 * m ∧ (∀ c, c ≠ 1 → s1.1 c = t0.1 c) ∧ (∀ k, k < i → s1.1 1 (2 + 7 * G 0 + k) = nI (V k)) ∧ ∀ k, k < 133 → (k < 2 + 7 * G 0 ∨ 2 + 7 * G 0 + i ≤ k) → s1.1 1 k = nI (G k)) 56 (fun o => ∃ t2 : ZS, o = some (nI (G 0 + m), t2) ∧ zRow (t2.1 1) (zGm G m V) ∧ ∀ c, c ≠ 1 → t2.1 c = t0.1 c) (fun i s h => by have := h.choose_spec.2.1; omega) ?_ zN 0 _ ⟨t0, rfl, Nat.zero_le _, fun _ _ => rfl, fun k hk => absurd hk (Nat.not_lt_zero k), fun k hk _ => hr k hk⟩ (by unfold zN; omega)
  rintro f i st ⟨s1, rfl, hi, c1, c2, c3⟩
  unfold fX7_sheets_34b
  dsimp only
  rw [show zin (0 : Int32) 133 = true from rfl, show (0 : Int32).toNatClampNeg = 0 from rfl, show (7 : Int32) = nI 7 from rfl, nI_mul, c3 0 (by decide) (by omega)]
  by_cases e : i = 7 * m
  · rw [if_pos (show nI (7 * m) ≤ nI i by rw [e]; exact Int32.le_refl _), zg_tr, zg_tr, zg_tr, nI_add, zI_at, upd_at]
    refine Or.inr ⟨_, rfl, fun k hk => ?_, fun c hc => by rw [zI_ne _ _ _ hc]; exact c1 c hc⟩
    rw [zI_at]
    by_cases k0 : k = 0
    · subst k0; rw [upd_at, zGm_0]
    · rw [upd_ne _ _ k0]
      by_cases k3 : 2 + 7 * G 0 ≤ k ∧ k < 2 + 7 * G 0 + 7 * m
      · obtain ⟨j, rfl⟩ : ∃ j, k = 2 + 7 * G 0 + j := ⟨k - (2 + 7 * G 0), by omega⟩
        rw [c2 j (by omega), zGm_v G V (by omega)]
      · rw [c3 k hk (by omega), zGm_o G V k0 (by omega)]
  · rw [if_neg (show ¬ nI (7 * m) ≤ nI i from nI_ge (by omega) (by omega)), zg_tr, zin_t (show i < 2147483648 by omega) (show i < 56 by omega), zg_tr, show (2 : Int32) = nI 2 from rfl, nI_mul, nI_add, nI_add, zin_t (show 2 + 7 * G 0 + i < 2147483648 by omega) (show 2 + 7 * G 0 + i < 133 by omega), zg_tr, nI_cl (show 2 + 7 * G 0 + i < 2147483648 by omega), nI_cl (show i < 2147483648 by omega), c1 8 (by decide), hV i (by omega), show nI i + 1 = nI (i + 1) from nI_add i 1]
    refine Or.inl ⟨_, rfl, _, rfl, by omega, fun c hc => by rw [zI_ne _ _ _ hc]; exact c1 c hc, fun k hk => ?_, fun k hk hk2 => by rw [zI_at, upd_ne _ _ (by omega)]; exact c3 k hk (by omega)⟩
    rw [zI_at]
    by_cases ek : k = i
    · subst ek; rw [upd_at]
    · rw [upd_ne _ _ (by omega)]; exact c2 k (by omega)
theorem neg100 {p : Nat} (h : p ≤ 80) : ¬ (0 : Int32) ≤ (-100 : Int32) - nI p := fun q => by
  have e : ((-100 : Int32) - nI p).toInt = -100 - (p : Int) := by
    rw [Int32.toInt_sub, nI_toInt (by omega), show (-100 : Int32).toInt = -100 from rfl]
    exact Int.bmod_eq_of_le (by omega) (by omega)
  have := Int32.le_iff_toInt_le.mp q
  rw [e] at this
  have e0 : (0 : Int32).toInt = 0 := rfl
  omega
set_option maxHeartbeats 2000000 in
theorem step1 : zStep1 zR := fun σ τ hR => by
  obtain ⟨⟨G, hg⟩, -, ⟨n, T, h80, hn1, hn2, hT⟩, -, -, hc⟩ := id hR
  have hS := hg.1
  have hI := hg.2.2
  have b0 := hI.1
  have b1 := hI.2.1
  have hz : zIn (zI (zI σ 26 8 0) 26 2 0) (zI τ 0 9 0) n T 0 := by
    refine ⟨Nat.zero_le _, ⟨h80, ?_, fun i hi => ?_⟩, ?_, fun i hi => ⟨(hT i hi).1, (hT i hi).2.1⟩, ?_, ?_, fun i hi => ?_, ?_⟩
    · rw [zI_at, upd_ne _ _ (by decide), zI_at, upd_ne _ _ (by decide)]; exact hn1
    · rw [zI_ne _ _ _ (by decide), zI_ne _ _ _ (by decide)]; exact (hT i hi).2.2.1
    · rw [zI_at, upd_ne _ _ (by decide), zI_at, upd_at]; rfl
    · rw [zI_at, upd_ne _ _ (by decide)]; exact hn2
    · rw [zI_at, upd_at]; rfl
    · rw [zI_ne _ _ _ (by decide)]; exact (hT i hi).2.2.2
    · unfold zRc at hc ⊢
      rw [zI_ne _ _ _ (by decide), zI_ne _ _ _ (by decide)]; exact hc
  have hf : zRf σ τ (zI (zI σ 26 8 0) 26 2 0) (zI τ 0 9 0) := ⟨fun c q1 _ _ _ => by rw [zI_ne _ _ _ q1, zI_ne _ _ _ q1], fun c q1 _ _ => by rw [zI_ne _ _ _ q1], fun k q1 _ _ => by rw [zI_at, upd_ne _ _ q1]⟩
  obtain ⟨s, t, hr, hq⟩ := reads_both hz hf (by rw [zI_at, upd_at]; rfl)
  have sc : zScene (zI s 26 1 0).1 1 G := hS.fr (fun k hk => by rw [zI_ne _ _ _ (by omega)]; exact hr.1 _ (by omega) (by omega) (by omega) (by omega))
  have rw1 : zRow ((zI t 0 8 0).1 1) G := by rw [zI_ne _ _ _ (by decide), hr.2.1 1 (by decide) (by decide) (by decide)]; exact hg.2.1
  have fin : ∀ (s3 t3 : ZS) (G2 : Nat → Nat), zRg s3 t3 G2 → (∀ c, c ≠ 1 → c ≠ 2 → c ≠ 3 → c ≠ 4 → s3.1 c = (zI s 26 1 0).1 c) → (∀ c, c ≠ 1 → t3.1 c = (zI t 0 8 0).1 c) → zR s3 t3 := fun s3 t3 G2 hG a b => hR.tape (fun c hc => by rw [a c (by omega) (by omega) (by omega) (by omega), zI_ne _ _ _ (by omega)]; exact hr.1 c (by omega) (by omega) (by omega) (by omega)) (fun c hc => by rw [b c (by omega), zI_ne _ _ _ (by omega)]; exact hr.2.1 c (by omega) (by omega) (by omega)) ⟨by rw [b 0 (by decide), zI_at, upd_ne _ _ (by decide)]; exact hr.2.2 2 (by decide) (by decide) (by decide), by rw [b 0 (by decide), zI_at, upd_ne _ _ (by decide)]; exact hr.2.2 23 (by decide) (by decide) (by decide)⟩ hG ⟨0, fun _ => 0, Nat.zero_le _, by rw [a 26 (by decide) (by decide) (by decide) (by decide), zI_at, upd_at]; rfl, by rw [b 0 (by decide), zI_at, upd_at]; rfl, fun i hi => absurd hi (Nat.not_lt_zero i)⟩
  have fin0 := fin (zI s 26 1 0) (zI t 0 8 0) G ⟨sc, rw1, hI⟩ (fun _ _ _ _ _ => rfl) (fun _ _ => rfl)
  unfold fX6_sheets fX4_readSheets fX7_sheets fX7_reads
  rcases hq with ⟨p, hp, e1, e2⟩ | ⟨m, V, hm, e1, e2, hV⟩
  · rw [e1, e2, zb_mk, zb_mk, if_neg (show ¬ nI p < (0 : Int32) from nI_pos (by omega)), if_neg (neg100 hp)]
    exact ⟨_, _, _, rfl, rfl, fin0⟩
  · rw [e1, e2, zb_mk, zb_mk, if_pos (show (-1 : Int32) < 0 by decide), if_pos (show (0 : Int32) ≤ nI m from nI_le (a := 0) (Nat.zero_le _) (by omega)), show zin (0 : Int32) 133 = true from rfl, zg_tr, show ((0 : Int32)).toNatClampNeg = 0 from rfl, rw1 0 (by decide), sc.1, show (zI s 26 1 0).1 26 2 = nI m by rw [zI_at, upd_ne _ _ (by decide)]; exact hV.1.1, nI_add]
    by_cases h8 : G 0 + m ≤ 8
    · rw [if_pos (show nI (G 0 + m) ≤ (8 : Int32) from nI_le (b := 8) h8 (by omega)), if_pos (show nI (G 0 + m) ≤ (8 : Int32) from nI_le (b := 8) h8 (by omega))]
      obtain ⟨s3, e3, a3⟩ := sheets_C (V := V) sc h8 (by rw [zI_at, upd_ne _ _ (by decide)]; exact hV.1.1) (fun j hj => by rw [zI_ne _ _ _ (by decide), zI_ne _ _ _ (by decide), zI_ne _ _ _ (by decide)]; exact hV.1.2.1 j hj)
      obtain ⟨t3, e4, a4, a5⟩ := sheets_M (V := V) rw1 h8 (fun i hi => by rw [zI_ne _ _ _ (by decide)]; exact hV.1.2.2 i hi)
      rw [e3, e4]
      exact ⟨_, _, _, rfl, rfl, fin s3 t3 _ ⟨zAd_scene sc hI h8 a3, a4, zGm_inv hI h8 hV.2⟩ a3.1 a5⟩
    · have hn8 : ¬ nI (G 0 + m) ≤ (8 : Int32) := nI_ge (a := 8) (by omega) (by omega)
      rw [if_neg hn8, if_neg hn8]
      exact ⟨_, _, _, rfl, rfl, fin0⟩
