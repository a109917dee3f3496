theorem zloop_one {σ ρ : Type} (F : (σ → Option ρ) → σ → Option ρ) (s : σ) : zloop F zN s = F (zloop F 4999) s := rfl
/-- the class adds a stack -/
def zAc (G : Nat → Nat) (L : Nat → Nat) (s0 s : ZS) (i : Nat) : Prop := (∀ c, c ≠ 1 → c ≠ 5 → c ≠ 6 → s.1 c = s0.1 c) ∧ (s.1 1 0 = s0.1 1 0 ∧ s.1 1 4 = nI (G 1 + 1)) ∧ (s.1 5 (G 1) = nI i ∧ ∀ k, k ≠ G 1 → s.1 5 k = s0.1 5 k) ∧ (∀ k, k < i → s.1 6 (6 * G 1 + k) = nI (L k)) ∧ ∀ k, (k < 6 * G 1 ∨ 6 * G 1 + i ≤ k) → s.1 6 k = s0.1 6 k
theorem addStack_C {s0 : ZS} {G : Nat → Nat} (hS : zScene s0.1 1 G) {h : Nat} {L : Nat → Nat} (h1 : G 1 < 6) (hh : h ≤ 6) (hL : ∀ k, k < h → s0.1 31 k = nI (L k)) : ∃ s2, fX3_addStack (nI h) s0 = some (nI (G 1), s2) ∧ zAc G L s0 s2 h := by
  unfold fX3_addStack
  rw [hS.2.1, show (6 : Int32) = nI 6 from rfl, if_pos (show nI (G 1) < nI 6 from (nI_lt_iff (by omega) (by omega)).mpr h1), zin_t (by omega) h1, zg_tr, nI_cl (by omega), zI_ne _ _ _ (show 1 ≠ 5 by decide), hS.2.1, show (1 : Int32) = nI 1 from rfl, nI_add]
  unfold fX3_addStack_34 fX3_addStack_34n
  refine zloop_rule (fun i st => ∃ s1, st = (nI h, nI (G 1), nI i, s1) ∧ i ≤ h ∧ zAc G L s0 s1 i) 6 (fun o => ∃ s2, o = some (nI (G 1), s2) ∧ zAc G L s0 s2 h) (fun i s h => by obtain ⟨_, _, h, _⟩ := h; omega) ?_ zN 0 _ ⟨_, rfl, Nat.zero_le _, ?_⟩ (by unfold zN; omega)
  · rintro f i st ⟨s1, rfl, hi, c1, c2, c3, c4, c5⟩
    unfold fX3_addStack_34b
    dsimp only
    by_cases e : i = h
    · rw [if_pos (show nI h ≤ nI i by rw [e]; exact Int32.le_refl _)]
      exact Or.inr ⟨s1, rfl, by rw [← e]; exact ⟨c1, c2, c3, c4, c5⟩⟩
    · rw [if_neg (show ¬ nI h ≤ nI i from nI_ge (by omega) (by omega)), show (6 : Int32) = nI 6 from rfl, if_neg (show ¬ nI 6 ≤ nI i from nI_ge (by omega) (by omega)), zin_t (by omega) (show i < 6 by omega), zg_tr, nI_cl (by omega), c1 31 (by decide) (by decide) (by decide), hL i (by omega)]
      unfold fX3_layOn fX3_hasStack
      rw [c2.2, within_t (show G 1 < G 1 + 1 by omega) (by omega), zb_mk, show zbo 1 = true from rfl, zg_tr, zb_mk, if_neg i0, zin_t (by omega) h1, zg_tr, nI_cl (by omega), c3.1, show (6 : Int32) = nI 6 from rfl, if_pos (show nI i < nI 6 from (nI_lt_iff (by omega) (by omega)).mpr (by omega)), zg_tr, nI_mul, nI_add, zin_t (by omega) (show G 1 * 6 + i < 36 by omega), zg_tr, zg_tr, zg_tr, nI_cl (by omega), zI_ne _ _ _ (show 5 ≠ 6 by decide), c3.1, show (1 : Int32) = nI 1 from rfl, nI_add, zb_mk]
      refine Or.inl ⟨_, rfl, _, rfl, by omega, fun c q1 q5 q6 => ?_, ⟨?_, ?_⟩, ⟨?_, fun k hk => ?_⟩, fun k hk => ?_, fun k hk => ?_⟩
      · rw [zI_ne _ _ _ q5, zI_ne _ _ _ q6]; exact c1 c q1 q5 q6
      · rw [zI_ne _ _ _ (show 1 ≠ 5 by decide), zI_ne _ _ _ (show 1 ≠ 6 by decide)]; exact c2.1
      · rw [zI_ne _ _ _ (show 1 ≠ 5 by decide), zI_ne _ _ _ (show 1 ≠ 6 by decide)]; exact c2.2
      · rw [zI_at, upd_at]
      · rw [zI_at, upd_ne _ _ hk, zI_ne _ _ _ (show 5 ≠ 6 by decide)]; exact c3.2 k hk
      · rw [zI_ne _ _ _ (show 6 ≠ 5 by decide), zI_at]
        by_cases ek : k = i
        · subst ek; rw [show 6 * G 1 + k = G 1 * 6 + k by omega, upd_at]
        · rw [upd_ne _ _ (by omega)]; exact c4 k (by omega)
      · rw [zI_ne _ _ _ (show 6 ≠ 5 by decide), zI_at, upd_ne _ _ (by omega)]; exact c5 k (by omega)
  · refine ⟨fun c q1 q5 q6 => ?_, ⟨?_, ?_⟩, ⟨?_, fun k hk => ?_⟩, fun k hk => absurd hk (Nat.not_lt_zero k), fun k hk => ?_⟩
    · rw [zI_ne _ _ _ q1, zI_ne _ _ _ q5]
    · rw [zI_at, upd_ne _ _ (show 0 ≠ 4 by decide), zI_ne _ _ _ (show 1 ≠ 5 by decide)]
    · rw [zI_at, upd_at]
    · rw [zI_ne _ _ _ (show 5 ≠ 1 by decide), zI_at, upd_at]; rfl
    · rw [zI_ne _ _ _ (show 5 ≠ 1 by decide), zI_at, upd_ne _ _ hk]
    · rw [zI_ne _ _ _ (show 6 ≠ 1 by decide), zI_ne _ _ _ (show 6 ≠ 5 by decide)]
theorem addStack_f {s0 : ZS} {G : Nat → Nat} (hS : zScene s0.1 1 G) (h1 : G 1 = 6) (x : Int32) : fX3_addStack x s0 = some (-4, s0) := by
  unfold fX3_addStack
  rw [hS.2.1, h1, if_neg (show ¬ nI 6 < (6 : Int32) by decide)]
theorem addStack_M {t0 : ZS} {G : Nat → Nat} (hr : zRow (t0.1 1) G) {h : Nat} {T : Nat → Nat} (h1 : G 1 < 6) (hh : h ≤ 6) (hT : ∀ k, k < h → t0.1 6 k = nI (T k) ∧ 97 ≤ T k) : ∃ t2, fX7_stack_133 (nI (58 + 7 * G 1)) (nI (58 + 7 * G 1)) (nI h) t0 = some (nI (G 1), t2) ∧ zRow (t2.1 1) (zGs G h (fun k => T k - 97)) ∧ ∀ c, c ≠ 1 → t2.1 c = t0.1 c := by
  unfold fX7_stack_133
  rw [zin_t (by omega) (show 58 + 7 * G 1 < 133 by omega), zg_tr, nI_cl (by omega)]
  unfold fX7_stack_137 fX7_stack_137n
  refine zloop_rule (fun i st => ∃ s1 : ZS, st = (nI (58 + 7 * G 1), nI i, s1) ∧ i ≤ h ∧ (∀ c, c ≠ 1 → s1.1 c = t0.1 c) ∧ s1.1 1 (58 + 7 * G 1) = nI h ∧ (∀ k, k < i → s1.1 1 (59 + 7 * G 1 + k) = nI (T k - 97)) ∧ ∀ k, k < 133 → k ≠ 58 + 7 * G 1 → (k < 59 + 7 * G 1 ∨ 59 + 7 * G 1 + i ≤ k) → s1.1 1 k = nI (G k)) 6 (fun o => ∃ t2 : ZS, o = some (nI (G 1), t2) ∧ zRow (t2.1 1) (zGs G h (fun k => T k - 97)) ∧ ∀ c, c ≠ 1 → t2.1 c = t0.1 c) (fun i s h => by obtain ⟨_, _, h, _⟩ := h; omega) ?_ zN 0 _ ⟨_, rfl, Nat.zero_le _, fun c hc => zI_ne _ _ _ hc, by rw [zI_at, upd_at], fun k hk => absurd hk (Nat.not_lt_zero k), fun k hk hk2 _ => by rw [zI_at, upd_ne _ _ hk2]; exact hr k hk⟩ (by unfold zN; omega)
  rintro f i st ⟨s1, rfl, hi, c1, c2, c3, c4⟩
  unfold fX7_stack_137b
  dsimp only
  rw [zin_t (by omega) (show 58 + 7 * G 1 < 133 by omega), zg_tr, nI_cl (by omega), c2]
  by_cases e : i = h
  · rw [if_pos (show nI h ≤ nI i by rw [e]; exact Int32.le_refl _)]
    simp only [show zin (1 : Int32) 133 = true from rfl, zg_tr, show (1 : Int32).toNatClampNeg = 1 from rfl]
    rw [zI_at, upd_at, c4 1 (by omega) (by omega) (by omega), show (1 : Int32) = nI 1 from rfl, nI_add, nI_sub (by omega), Nat.add_sub_cancel]
    refine Or.inr ⟨_, rfl, fun k hk => ?_, fun c hc => by rw [zI_ne _ _ _ hc]; exact c1 c hc⟩
    rw [zI_at]
    by_cases k1 : k = 1
    · subst k1; rw [upd_at, zGs_1]
    · rw [upd_ne _ _ k1]
      by_cases k2 : k = 58 + 7 * G 1
      · subst k2; rw [c2, zGs_h]
      · by_cases k3 : 59 + 7 * G 1 ≤ k ∧ k < 59 + 7 * G 1 + h
        · obtain ⟨j, rfl⟩ : ∃ j, k = 59 + 7 * G 1 + j := ⟨k - (59 + 7 * G 1), by omega⟩
          rw [c3 j (by omega), zGs_l G (h := h) (fun k => T k - 97) (by omega)]
        · rw [c4 k hk k2 (by omega), zGs_o G _ k1 k2 (by omega)]
  · rw [if_neg (show ¬ nI h ≤ nI i from nI_ge (by omega) (by omega)), zin_t (by omega) (show i < 80 by omega), zg_tr, show (1 : Int32) = nI 1 from rfl, nI_add, nI_add, zin_t (by omega) (show 58 + 7 * G 1 + 1 + i < 133 by omega), zg_tr, nI_cl (by omega), nI_cl (by omega), c1 6 (by decide), (hT i (by omega)).1, show (97 : Int32) = nI 97 from rfl, nI_sub (hT i (by omega)).2, nI_add]
    refine Or.inl ⟨_, rfl, _, rfl, by omega, fun c hc => by rw [zI_ne _ _ _ hc]; exact c1 c hc, by rw [zI_at, upd_ne _ _ (by omega)]; exact c2, fun k hk => ?_, fun k hk hk2 hk3 => by rw [zI_at, upd_ne _ _ (by omega)]; exact c4 k hk hk2 (by omega)⟩
    rw [zI_at]
    by_cases ek : k = i
    · subst ek; rw [show 59 + 7 * G 1 + k = 58 + 7 * G 1 + 1 + k by omega, upd_at]
    · rw [upd_ne _ _ (by omega)]; exact c3 k (by omega)
/-- with the tape emptied -/
theorem stack_end {σ τ s2 t2 : ZS} {G : Nat → Nat} (hR : zR σ τ) (hG : zRg (zI s2 26 1 0) t2 G) (a : ∀ c, c = 0 ∨ (10 ≤ c ∧ c < 19) ∨ c = 32 ∨ c = 33 ∨ c = 35 ∨ c = 36 → s2.1 c = σ.1 c) (b : ∀ c, c ≠ 1 → t2.1 c = (zI τ 0 8 0).1 c) : zR (zI s2 26 1 0) t2 := by
  refine hR.tape (fun c hc => by rw [zI_ne _ _ _ (by omega)]; exact a c hc) (fun c hc => by rw [b c (by omega), zI_ne _ _ _ (by omega)]) ⟨by rw [b 0 (by decide), zI_at, upd_ne _ _ (by decide)], by rw [b 0 (by decide), zI_at, upd_ne _ _ (by decide)]⟩ hG ⟨0, fun _ => 0, Nat.zero_le _, by rw [zI_at, upd_at]; rfl, by rw [b 0 (by decide), zI_at, upd_at]; rfl, fun i hi => absurd hi (Nat.not_lt_zero i)⟩
/-- the class's rest, once the letters are read: as many as i -/
theorem stack_fin {σ τ s2 : ZS} {G : Nat → Nat} (hR : zR σ τ) (hg : zRg σ τ G) {T : Nat → Nat} {n i : Nat} (hi : i ≤ 6) (hn1 : n ≤ 80) (hn : 0 < n) (hL : zLt σ s2 T i) (hok : ∀ k, k < i → sOk T (G 0) k) (hT : ∀ k, k < i → τ.1 6 k = nI (T k)) (x1 x2 x3 : Int32) (hx : x2 = x1 ∨ (x1 = nI 1 ∧ x2 = nI 1)) (hx0 : x1 = nI n) (hx3 : (if x3 = 0 then x1 else 0) = nI i) : ∃ (r : Int32) (σ1 τ1 : ZS), zb (fX3_addStack ((zI s2 26 1 0).1 26 6) (zI s2 26 1 0)) (fun u3 s3 => some (u3, s3)) = some (r, σ1) ∧ fX7_stack_76 x1 x2 x3 (zI τ 0 8 0) = some (r, τ1) ∧ zR σ1 τ1 := by
  have hI := hg.2.2
  have b1 := hI.2.1
  have hS2 : zScene (zI s2 26 1 0).1 1 G := hg.1.fr (fun k hk => by rw [zI_ne _ _ _ (by omega)]; exact hL.1 _ (by omega) (by omega))
  have hr2 : zRow ((zI τ 0 8 0).1 1) G := by rw [zI_ne _ _ _ (show 1 ≠ 0 by decide)]; exact hg.2.1
  have hxx : ¬ x2 < x1 := by
    rcases hx with h | ⟨h1, h2⟩
    · rw [h]; exact Int32.lt_irrefl
    · rw [h1, h2]; exact Int32.lt_irrefl
  have hx10 : ¬ x1 = (0 : Int32) := by rw [hx0]; exact fun q => absurd ((nI_eq_iff (b := 0) (by omega) (by omega)).mp q) (by omega)
  have hm : fX7_stack_76 x1 x2 x3 (zI τ 0 8 0) = if G 1 = 6 then some (-4, zI τ 0 8 0) else fX7_stack_133 (nI (58 + 7 * G 1)) (nI (58 + 7 * G 1)) (nI i) (zI τ 0 8 0) := by
    unfold fX7_stack_76
    rw [if_neg hxx, if_neg hx10, show zin (1 : Int32) 133 = true from rfl, zg_tr, zg_tr, show ((1 : Int32)).toNatClampNeg = 1 from rfl, hr2 1 (by decide)]
    by_cases h6 : G 1 = 6
    · rw [if_pos h6, h6, if_pos (show nI 6 = (6 : Int32) from rfl)]
    · rw [if_neg h6, if_neg (show ¬ nI (G 1) = (6 : Int32) from fun q => h6 ((nI_eq_iff (b := 6) (by omega) (by omega)).mp q)), show (58 : Int32) = nI 58 from rfl, show (7 : Int32) = nI 7 from rfl, nI_mul, nI_add]
      by_cases h3 : x3 = 0
      · rw [if_pos h3] at hx3 ⊢; rw [hx3]
      · rw [if_neg h3] at hx3 ⊢; rw [hx3]
  rw [hm, zI_at, upd_ne _ _ (show 6 ≠ 1 by decide), hL.2.2.1]
  by_cases h6 : G 1 = 6
  · rw [if_pos h6, addStack_f hS2 h6, zb_mk]
    refine ⟨_, _, _, rfl, rfl, stack_end hR ⟨hS2, hr2, hI⟩ (fun c hc => hL.1 c (by omega) (by omega)) (fun c hc => rfl)⟩
  · rw [if_neg h6]
    obtain ⟨s3, e3, c1, c2, c3, c4, c5⟩ := addStack_C hS2 (L := fun k => T k - 97) (show G 1 < 6 by omega) hi (fun k hk => by rw [zI_ne _ _ _ (show 31 ≠ 26 by decide)]; exact hL.2.2.2 k hk)
    obtain ⟨t3, e4, d1, d2⟩ := addStack_M hr2 (T := T) (show G 1 < 6 by omega) hi (fun k hk => ⟨by rw [zI_ne _ _ _ (show 6 ≠ 0 by decide)]; exact hT k hk, (hok k hk).1⟩)
    rw [e3, zb_mk, e4]
    have hL2 : ∀ k, k < i → T k - 97 < G 0 := fun k hk => by have := (hok k hk).1; have := (hok k hk).2; omega
    have hG2 : zRg s3 t3 (zGs G i (fun k => T k - 97)) := ⟨zGs_scene hS2 hI (by omega) hi c2 c3 ⟨c4, c5⟩ (fun c q1 q2 q3 q4 => c1 c (by omega) q3 q4), d1, zGs_inv hI (by omega) hi hL2⟩
    have e26 : s3.1 26 = (zI s2 26 1 0).1 26 := c1 26 (by decide) (by decide) (by decide)
    refine ⟨_, _, _, rfl, rfl, hR.tape (fun c hc => by rw [c1 c (by omega) (by omega) (by omega), zI_ne _ _ _ (by omega)]; exact hL.1 c (by omega) (by omega)) (fun c hc => by rw [d2 c (by omega), zI_ne _ _ _ (by omega)]) ⟨by rw [d2 0 (by decide), zI_at, upd_ne _ _ (by decide)], by rw [d2 0 (by decide), zI_at, upd_ne _ _ (by decide)]⟩ hG2 ⟨0, fun _ => 0, Nat.zero_le _, by rw [e26, zI_at, upd_at]; rfl, by rw [d2 0 (by decide), zI_at, upd_at]; rfl, fun i hi => absurd hi (Nat.not_lt_zero i)⟩⟩
set_option maxHeartbeats 1000000 in
theorem step5 : zStep5 zR := fun σ τ hR => by
  obtain ⟨⟨G, hg⟩, -, ⟨n, T, h80, hn1, hn2, hT⟩, -⟩ := id hR
  have hS := hg.1
  have hI := hg.2.2
  have b0 := hI.1
  have hTp : zTp σ n T := ⟨h80, hn1, fun i hi => (hT i hi).2.2.1⟩
  have hL0 : zLt σ (zI σ 26 6 0) T 0 := ⟨fun c h1 h2 => zI_ne _ _ _ h1, by rw [zI_at, upd_ne _ _ (by decide)], by rw [zI_at, upd_at]; rfl, fun k hk => absurd hk (Nat.not_lt_zero k)⟩
  have hTp0 : zTp (zI σ 26 6 0) n T := hTp.fr hL0.2.1 (hL0.1 27 (by decide) (by decide))
  have fault : ∀ (j : Nat) (s2 : ZS) (i : Nat), zLt σ s2 T i → ∃ (r : Int32) (σ1 τ1 : ZS), some ((-100 : Int32) - nI j, zI s2 26 1 0) = some (r, σ1) ∧ some ((-100 : Int32) - nI j, zI τ 0 8 0) = some (r, τ1) ∧ zR σ1 τ1 := fun j s2 i hL => ⟨_, _, _, rfl, rfl, stack_end hR ⟨hg.1.fr (fun k hk => by rw [zI_ne _ _ _ (by omega)]; exact hL.1 _ (by omega) (by omega)), by rw [zI_ne _ _ _ (show 1 ≠ 0 by decide)]; exact hg.2.1, hI⟩ (fun c hc => hL.1 c (by omega) (by omega)) (fun c hc => rfl)⟩
  unfold fX6_stack fX4_readStack fX7_stack
  rw [hS.1, hn2, show fX4_byteAt 0 (zI σ 26 6 0) = fX4_byteAt (nI 0) (zI σ 26 6 0) from rfl]
  by_cases h0 : n = 0
  · subst h0
    rw [byte_e hTp0 (Nat.zero_le _) (by omega), zb_mk, if_neg (show ¬ (-1 : Int32) = 45 by decide), if_pos (show nI 0 ≤ (0 : Int32) from Int32.le_refl _)]
    have e1 : fX4_readStack_31 (nI (G 0)) 0 (zI σ 26 6 0) = some (0, zI σ 26 6 0) := by
      unfold fX4_readStack_31 fX4_readStack_31n
      rw [zloop_one]
      unfold fX4_readStack_31b
      dsimp only
      rw [hTp0.2.1, if_pos (show nI 0 ≤ (0 : Int32) from Int32.le_refl _), if_pos (show nI 0 = (0 : Int32) from rfl)]
    have e2 : fX7_stack_31 fX7_stack_32 (nI 0) 0 (zI τ 0 8 0) = some ((-100 : Int32) - nI 0, zI τ 0 8 0) := by
      unfold fX7_stack_31 fX7_stack_32
      rw [if_pos rfl]
      unfold fX7_stack_39 fX7_stack_39n
      rw [zloop_one]
      unfold fX7_stack_39b
      dsimp only
      rw [if_pos rfl, if_pos (show nI 0 ≤ (0 : Int32) from Int32.le_refl _)]
      unfold fX7_stack_76 fX7_stack_85
      rw [if_neg (show ¬ (0 : Int32) < nI 0 by decide), if_pos (show nI 0 = (0 : Int32) from rfl)]
      rfl
    rw [e1, zb_mk, if_neg (show ¬ (0 : Int32) < 0 by decide), e2]
    exact fault 0 _ 0 hL0
  · have ht0 := hT 0 (by omega)
    rw [byte_t hTp0 (by omega), zb_mk, if_neg (show ¬ nI n ≤ (0 : Int32) from nI_ge (b := n) (a := 0) (by omega) (by omega)), show zin (0 : Int32) 80 = true from rfl, zg_tr, show ((0 : Int32)).toNatClampNeg = 0 from rfl, zI_ne _ _ _ (show 6 ≠ 0 by decide), ht0.2.2.2]
    by_cases h45 : T 0 = 45
    · rw [if_pos (show nI (T 0) = (45 : Int32) by rw [h45]; rfl), if_pos (show nI (T 0) = (45 : Int32) by rw [h45]; rfl)]
      rw [hTp0.2.1]
      have e2 : fX7_stack_32 (nI n) 0 1 (zI τ 0 8 0) = fX7_stack_76 (nI n) (nI 1) 1 (zI τ 0 8 0) := by
        unfold fX7_stack_32
        rw [if_neg i0]
        unfold fX7_stack_39 fX7_stack_39n
        rw [zloop_one]
        unfold fX7_stack_39b
        dsimp only
        rw [if_neg i0]
        rfl
      rw [e2]
      by_cases hn : n = 1
      · rw [if_pos (show nI n = (1 : Int32) by rw [hn]; rfl), zb_mk, if_pos (show (-1 : Int32) < 0 by decide)]
        exact stack_fin hR hg (i := 0) (by omega) h80 (by omega) hL0 (fun k hk => absurd hk (Nat.not_lt_zero k)) (fun k hk => absurd hk (Nat.not_lt_zero k)) (nI n) (nI 1) 1 (Or.inl (by rw [hn])) rfl (by rw [if_neg i0]; rfl)
      · rw [if_neg (show ¬ nI n = (1 : Int32) from fun q => hn ((nI_eq_iff (b := 1) (by omega) (by omega)).mp q)), zb_mk, if_neg (show ¬ (1 : Int32) < 0 by decide)]
        have e3 : fX7_stack_76 (nI n) (nI 1) 1 (zI τ 0 8 0) = some ((-100 : Int32) - nI 1, zI τ 0 8 0) := by
          unfold fX7_stack_76 fX7_stack_85
          rw [if_pos ((nI_lt_iff (by omega) (by omega)).mpr (show 1 < n by omega))]
        rw [e3]
        exact fault 1 _ 0 hL0
    · rw [if_neg (show ¬ nI (T 0) = (45 : Int32) from fun q => h45 ((nI_eq_iff (b := 45) (by omega) (by omega)).mp q)), if_neg (show ¬ nI (T 0) = (45 : Int32) from fun q => h45 ((nI_eq_iff (b := 45) (by omega) (by omega)).mp q))]
      obtain ⟨i, s2, hi, h6, hok, hst, hL, e1⟩ := stackC hI hTp (fun i hi => (hT i hi).2.1) hL0 (by omega)
      have e2 : fX7_stack_31 fX7_stack_32 (nI n) 0 (zI τ 0 8 0) = fX7_stack_76 (nI n) (nI i) 0 (zI τ 0 8 0) := by
        unfold fX7_stack_31 fX7_stack_32
        rw [if_pos rfl]
        exact stackM (by rw [zI_ne _ _ _ (show 1 ≠ 0 by decide)]; exact hg.2.1) hI h80 (fun k hk => by rw [zI_ne _ _ _ (show 6 ≠ 0 by decide)]; exact (hT k hk).2.2.2) (fun i hi => (hT i hi).2.1) hi h6 hok hst
      rw [e1, zb_mk, e2]
      by_cases hin : i < n
      · rw [if_pos hin, if_neg (show ¬ nI i < (0 : Int32) from nI_pos (by omega))]
        have e3 : fX7_stack_76 (nI n) (nI i) 0 (zI τ 0 8 0) = some ((-100 : Int32) - nI i, zI τ 0 8 0) := by
          unfold fX7_stack_76 fX7_stack_85
          rw [if_pos ((nI_lt_iff (by omega) (by omega)).mpr hin)]
        rw [e3]
        exact fault i _ i hL
      · have ein : i = n := by omega
        rw [if_neg hin, if_pos (show (-1 : Int32) < 0 by decide)]
        exact stack_fin hR hg h6 h80 (by omega) hL hok (fun k hk => (hT k (by omega)).2.2.2) (nI n) (nI i) 0 (Or.inl (by rw [ein])) rfl (by rw [if_pos rfl, ein])
