/-- the paper while it is written -/
def zPp (σ τ s t : ZS) (m : Nat) : Prop := ((∀ c, c ≠ 32 → c ≠ 33 → s.1 c = σ.1 c) ∧ (∀ c, c ≠ 0 → c ≠ 14 → t.1 c = τ.1 c) ∧ ∀ k, k ≠ 23 → t.1 0 k = τ.1 0 k) ∧ s.1 32 1 = nI m ∧ t.1 0 23 = nI m ∧ ∀ i, i < m → s.1 33 i = t.1 14 i
theorem write_both {σ τ s t : ZS} {m : Nat} (h : zPp σ τ s t m) (hm : m < 47) (x : Int32) : ∃ s2 t2, fX2_write x s = some ((), s2) ∧ fX7_writes x t = some ((), t2) ∧ zPp σ τ s2 t2 (m + 1) := by
  obtain ⟨⟨a, b, c⟩, e1, e2, e3⟩ := h
  refine ⟨zI (zI s 33 m x) 32 1 (nI (m + 1)), zI (zI t 14 m x) 0 23 (nI (m + 1)), ?_, ?_, ⟨fun q h1 h2 => ?_, fun q h1 h2 => ?_, fun k hk => ?_⟩, ?_, ?_, fun i hi => ?_⟩
  · unfold fX2_write
    rw [e1, if_pos (show nI m < (47 : Int32) from (nI_lt_iff (b := 47) (by omega) (by omega)).mpr hm), zin_t (by omega) hm, zg_tr, nI_cl (by omega), zI_ne _ _ _ (show 32 ≠ 33 by decide), e1, show (1 : Int32) = nI 1 from rfl, nI_add]
  · unfold fX7_writes
    rw [e2, zin_t (by omega) (show m < 60 by omega), zg_tr, nI_cl (by omega), zI_ne _ _ _ (show 0 ≠ 14 by decide), e2, show (1 : Int32) = nI 1 from rfl, nI_add]
  · rw [zI_ne _ _ _ h1, zI_ne _ _ _ h2]; exact a q h1 h2
  · rw [zI_ne _ _ _ h1, zI_ne _ _ _ h2]; exact b q h1 h2
  · rw [zI_at, upd_ne _ _ hk, zI_ne _ _ _ (show 0 ≠ 14 by decide)]; exact c k hk
  · rw [zI_at, upd_at]
  · rw [zI_at, upd_at]
  · rw [zI_ne _ _ _ (show 33 ≠ 32 by decide), zI_at, zI_ne _ _ _ (show 14 ≠ 0 by decide), zI_at]
    by_cases ei : i = m
    · subst ei; rw [upd_at, upd_at]
    · rw [upd_ne _ _ ei, upd_ne _ _ ei]; exact e3 i (by omega)
theorem zR.paper {σ τ s t : ZS} {m : Nat} (hR : zR σ τ) (h : zPp σ τ s t m) (hm : m ≤ 47) : zR s t := by
  obtain ⟨⟨G, g1, g2, g3⟩, h2, h3, -, h5, h6⟩ := hR
  obtain ⟨⟨a, b, c⟩, e1, e2, e3⟩ := h
  refine ⟨⟨G, g1.fr (fun k hk => a _ (by omega) (by omega)), by unfold zRow; rw [b 1 (by omega) (by omega)]; exact g2, g3⟩, ?_, ?_, ⟨m, hm, e1, e2, e3⟩, ?_, ?_⟩
  · obtain ⟨h1, h2⟩ := h2
    refine ⟨by rw [a 0 (by omega) (by omega), c 2 (by omega)]; exact h1, ?_⟩
    rw [c 2 (by omega)]
    refine h2.imp id (fun h => ⟨h.1, ?_⟩)
    obtain ⟨K, k1, k2, k3⟩ := h.2
    exact ⟨K, k1.fr (fun k hk => a _ (by omega) (by omega)), by unfold zRow; rw [b 2 (by omega) (by omega)]; exact k2, k3⟩
  · unfold zRt at h3 ⊢
    rw [a 26 (by omega) (by omega), a 27 (by omega) (by omega), c 8 (by omega), b 6 (by omega) (by omega)]
    exact h3
  · unfold zRl at h5 ⊢
    rw [a 35 (by omega) (by omega), a 36 (by omega) (by omega), b 15 (by omega) (by omega), b 16 (by omega) (by omega)]
    exact h5
  · unfold zRc at h6 ⊢
    rw [b 9 (by omega) (by omega), b 10 (by omega) (by omega)]
    exact h6
theorem word_eq {k : Nat} (h : k < 6) (s : ZS) : fX6_wordOf (nI k) s = some (k, s) := by
  unfold fX6_wordOf
  rcases (show k = 0 ∨ k = 1 ∨ k = 2 ∨ k = 3 ∨ k = 4 ∨ k = 5 by omega) with rfl | rfl | rfl | rfl | rfl | rfl
  · rw [if_pos (show nI 0 = (0 : Int32) from rfl)]
  · rw [if_neg (show ¬ nI 1 = (0 : Int32) by decide), if_pos (show nI 1 = (1 : Int32) from rfl)]
  · rw [if_neg (show ¬ nI 2 = (0 : Int32) by decide), if_neg (show ¬ nI 2 = (1 : Int32) by decide), if_pos (show nI 2 = (2 : Int32) from rfl)]
  · rw [if_neg (show ¬ nI 3 = (0 : Int32) by decide), if_neg (show ¬ nI 3 = (1 : Int32) by decide), if_neg (show ¬ nI 3 = (2 : Int32) by decide), if_pos (show nI 3 = (3 : Int32) from rfl)]
  · rw [if_neg (show ¬ nI 4 = (0 : Int32) by decide), if_neg (show ¬ nI 4 = (1 : Int32) by decide), if_neg (show ¬ nI 4 = (2 : Int32) by decide), if_neg (show ¬ nI 4 = (3 : Int32) by decide), if_pos (show nI 4 = (4 : Int32) from rfl)]
  · rw [if_neg (show ¬ nI 5 = (0 : Int32) by decide), if_neg (show ¬ nI 5 = (1 : Int32) by decide), if_neg (show ¬ nI 5 = (2 : Int32) by decide), if_neg (show ¬ nI 5 = (3 : Int32) by decide), if_neg (show ¬ nI 5 = (4 : Int32) by decide), if_pos (show nI 5 = (5 : Int32) from rfl)]
theorem jlen_eq {k : Nat} (h : k < 6) (s : ZS) : fJlen k s = some (nI (zSlen.getD k 0), s) := by
  unfold fJlen
  rw [show decide (k < 7) = true from decide_eq_true (by omega), zg_tr]
theorem slen_le {k : Nat} (h : k < 6) : zSlen.getD k 0 ≤ 6 := (show ∀ k, k < 6 → zSlen.getD k 0 ≤ 6 by decide) k h
theorem sch_eq {k x : Nat} (h : k < 6) (hx : x < zSlen.getD k 0) : zSch k (nI x) = nI (zWords.getD (6 * k + x) 0) := (show ∀ k, k < 6 → ∀ x, x < 6 → x < zSlen.getD k 0 → zSch k (nI x) = nI (zWords.getD (6 * k + x) 0) by decide) k h x (Nat.lt_of_lt_of_le hx (slen_le h)) hx
theorem jcat_eq {k x : Nat} (h : k < 6) (hx : x < zSlen.getD k 0) (s : ZS) : fJcat k (nI x) s = some (nI (zWords.getD (6 * k + x) 0), s) := by
  have := slen_le h
  unfold fJcat
  rw [show decide (k < 7) = true from decide_eq_true (by omega), zg_tr, zin_t (by omega) hx, zg_tr, sch_eq h hx]
set_option maxHeartbeats 1000000 in
theorem sheet_both {σ τ s t : ZS} {G : Nat → Nat} (hR : zR σ τ) (hg : zRg σ τ G) {m j x1 x2 : Nat} (h : zPp σ τ s t m) (hm : m ≤ 40) (hj : j < G 0) (k31 : Int32 → Int32 → ZS → Option (Int32 × ZS)) : ∃ s2 t2 m2, fX2_spellSheet (nI j) s = some ((), s2) ∧ fX7_spell_60 k31 (nI x1) (nI x2) (nI j) 0 t = k31 (nI x1) (nI (x2 + 1)) t2 ∧ zPp σ τ s2 t2 m2 ∧ m2 ≤ m + 7 := by
  have hI := hg.2.2
  have b0 := hI.1
  have hc := hR.2.2.2.2.2
  have hk5 := in_kind hI (show j < 8 by omega)
  have hsl := slen_le (show G (2 + 7 * j) < 6 by omega)
  have sc : zScene s.1 1 G := hg.1.fr (fun k hk => h.1.1 _ (by omega) (by omega))
  unfold fX2_spellSheet
  rw [hasSheet_t sc hI hj, zb_mk, if_neg i0, zin_t (by omega) (by omega), zg_tr, nI_cl (by omega), sc_kind sc (by omega), word_eq (by omega), zb_mk]
  unfold fX2_spellSheet_22 fX2_spellSheet_22n fX7_spell_60 fX7_spell_60n
  refine zloop2 (fun i st st' => ∃ s1 t1, st = (nI j, G (2 + 7 * j), nI i, s1) ∧ st' = (nI x1, nI x2, nI j, nI i, t1) ∧ i ≤ zSlen.getD (G (2 + 7 * j)) 0 ∧ zPp σ τ s1 t1 (m + i)) 6 (fun o o' => ∃ s2 t2 m2, o = some ((), s2) ∧ o' = k31 (nI x1) (nI (x2 + 1)) t2 ∧ zPp σ τ s2 t2 m2 ∧ m2 ≤ m + 7) (fun i s s' h => by obtain ⟨_, _, _, _, h, _⟩ := h; omega) ?_ zN 0 _ _ ⟨s, t, rfl, rfl, Nat.zero_le _, h⟩ (by unfold zN; omega)
  rintro f g i st st' ⟨s1, t1, rfl, rfl, hi, hp⟩
  unfold fX2_spellSheet_22b fX7_spell_60b
  dsimp only
  have sc1 : zScene s1.1 1 G := hg.1.fr (fun k hk => hp.1.1 _ (by omega) (by omega))
  have rw1 : zRow (t1.1 1) G := by rw [hp.1.2.1 1 (by decide) (by decide)]; exact hg.2.1
  rw [jlen_eq (by omega), zb_mk, kindOf_eq rw1 (by omega), zb_mk, zin_t (show G (2 + 7 * j) < 2147483648 by omega) (show G (2 + 7 * j) < 6 by omega), zg_tr, nI_cl (show G (2 + 7 * j) < 2147483648 by omega), hp.1.2.1 10 (by decide) (by decide), hc.2 _ (by omega)]
  by_cases e : i = zSlen.getD (G (2 + 7 * j)) 0
  · rw [if_pos (show nI (zSlen.getD (G (2 + 7 * j)) 0) ≤ nI i by rw [e]; exact Int32.le_refl _), if_pos (show nI (zSlen.getD (G (2 + 7 * j)) 0) ≤ nI i by rw [e]; exact Int32.le_refl _), zin_t (show j < 2147483648 by omega) (show j < 8 by omega), zg_tr, nI_cl (show j < 2147483648 by omega), sc_fig sc1 (by omega), figureOf_eq rw1 (by omega), zb_mk]
    obtain ⟨s2, t2, w1, w2, w3⟩ := write_both hp (by omega) ((48 : Int32) + nI (G (3 + 7 * j)))
    rw [w1, w2, zb_mk, zb_mk, show nI x2 + 1 = nI (x2 + 1) from nI_add x2 1]
    exact Or.inr ⟨s2, t2, _, rfl, rfl, w3, by omega⟩
  · rw [if_neg (show ¬ nI (zSlen.getD (G (2 + 7 * j)) 0) ≤ nI i from nI_ge (by omega) (by omega)), if_neg (show ¬ nI (zSlen.getD (G (2 + 7 * j)) 0) ≤ nI i from nI_ge (by omega) (by omega)), jcat_eq (by omega) (by omega), zb_mk, kindOf_eq rw1 (by omega), zb_mk, show (6 : Int32) = nI 6 from rfl, nI_mul, nI_add, zin_t (by omega) (show 6 * G (2 + 7 * j) + i < 36 by omega), zg_tr, nI_cl (by omega), hp.1.2.1 9 (by decide) (by decide), hc.1 _ (show 6 * G (2 + 7 * j) + i < 36 by omega)]
    obtain ⟨s2, t2, w1, w2, w3⟩ := write_both hp (by omega) (nI (zWords.getD (6 * G (2 + 7 * j) + i) 0))
    rw [w1, w2, zb_mk, zb_mk, show nI i + 1 = nI (i + 1) from nI_add i 1]
    exact Or.inl ⟨_, _, rfl, rfl, s2, t2, rfl, rfl, by omega, w3⟩
set_option maxHeartbeats 1000000 in
theorem spell_both {σ τ s t : ZS} {G : Nat → Nat} (hR : zR σ τ) (hg : zRg σ τ G) {x1 m : Nat} (hx : x1 < G 1) (h : zPp σ τ s t m) (hm : m ≤ 1) (hm0 : G (58 + 7 * x1) ≠ 0 → m = 0) : ∃ s2 t2 m2, fX2_spellStack_31 (nI x1) 0 s = some ((), s2) ∧ fX7_spell_31 (nI x1) 0 t = some (nI m2, t2) ∧ zPp σ τ s2 t2 m2 ∧ m2 ≤ 47 := by
  have hI := hg.2.2
  have b1 := hI.2.1
  have h6 := in_hgt hI (show x1 < 6 by omega)
  unfold fX2_spellStack_31 fX2_spellStack_31n fX7_spell_31 fX7_spell_31n
  refine zloop2 (fun i st st' => ∃ s1 t1 m1, st = (nI x1, nI i, s1) ∧ st' = (nI x1, nI i, t1) ∧ i ≤ G (58 + 7 * x1) ∧ zPp σ τ s1 t1 m1 ∧ (0 < i → m1 ≤ 8 * i - 1) ∧ (i = 0 → m1 = m)) 6 (fun o o' => ∃ s2 t2 m2, o = some ((), s2) ∧ o' = some (nI m2, t2) ∧ zPp σ τ s2 t2 m2 ∧ m2 ≤ 47) (fun i s s' h => by obtain ⟨_, _, _, _, _, h, _⟩ := h; omega) ?_ zN 0 _ _ ⟨s, t, m, rfl, rfl, Nat.zero_le _, h, fun h => absurd h (Nat.lt_irrefl _), fun _ => rfl⟩ (by unfold zN; omega)
  rintro f g i st st' ⟨s1, t1, m1, rfl, rfl, hi, hp, hq, hq0⟩
  unfold fX2_spellStack_31b fX7_spell_31b
  dsimp only
  have sc1 : zScene s1.1 1 G := hg.1.fr (fun k hk => hp.1.1 _ (by omega) (by omega))
  have rw1 : zRow (t1.1 1) G := by rw [hp.1.2.1 1 (by decide) (by decide)]; exact hg.2.1
  rw [zin_t (show x1 < 2147483648 by omega) (show x1 < 6 by omega), zg_tr, nI_cl (show x1 < 2147483648 by omega), sc_hgt sc1 (show x1 < 6 by omega), size_eq rw1 (show x1 < 6 by omega), zb_mk]
  by_cases e : i = G (58 + 7 * x1)
  · rw [if_pos (show nI (G (58 + 7 * x1)) ≤ nI i by rw [e]; exact Int32.le_refl _), if_pos (show nI (G (58 + 7 * x1)) ≤ nI i by rw [e]; exact Int32.le_refl _), hp.2.2.1]
    refine Or.inr ⟨s1, t1, m1, rfl, rfl, hp, ?_⟩
    rcases (show i = 0 ∨ 0 < i by omega) with h0 | h0
    · have := hq0 h0; omega
    · have := hq h0; omega
  · rw [if_neg (show ¬ nI (G (58 + 7 * x1)) ≤ nI i from nI_ge (by omega) (by omega)), if_neg (show ¬ nI (G (58 + 7 * x1)) ≤ nI i from nI_ge (by omega) (by omega))]
    have hj : G (59 + 7 * x1 + i) < G 0 := hI.2.2.2 x1 i hx (by omega)
    have key : ∀ (s3 t3 : ZS) (m3 : Nat), zPp σ τ s3 t3 m3 → m3 ≤ 8 * i → ∃ s4 t4 m4, fX2_spellStack_51 (fun x2 x3 s => f (x2, x3, s)) (nI x1) (nI i) s3 = f (nI x1, nI (i + 1), s4) ∧ fX7_spell_50 (fun x1 x2 s => g (x1, x2, s)) (nI x1) (nI i) t3 = g (nI x1, nI (i + 1), t4) ∧ zPp σ τ s4 t4 m4 ∧ m4 ≤ 8 * (i + 1) - 1 := by
      intro s3 t3 m3 p3 q3
      have sc3 : zScene s3.1 1 G := hg.1.fr (fun k hk => p3.1.1 _ (by omega) (by omega))
      have rw3 : zRow (t3.1 1) G := by rw [p3.1.2.1 1 (by decide) (by decide)]; exact hg.2.1
      obtain ⟨s4, t4, m4, w1, w2, w3, w4⟩ := sheet_both hR hg (x1 := x1) (x2 := i) p3 (by omega) hj (fun x1 x2 s => g (x1, x2, s))
      unfold fX2_spellStack_51 fX7_spell_50
      rw [sheetAt_eq sc3 hI hx (by omega), zb_mk, w1, zb_mk, laid_eq rw3 (by omega) (by omega), zb_mk, w2, show nI i + 1 = nI (i + 1) from nI_add i 1]
      exact ⟨s4, t4, m4, rfl, rfl, w3, by omega⟩
    by_cases h0 : i = 0
    · subst h0
      obtain ⟨s4, t4, m4, w1, w2, w3, w4⟩ := key s1 t1 m1 hp (by have := hq0 rfl; have := hm0 (by omega); omega)
      rw [if_pos (show nI 0 ≤ (0 : Int32) from Int32.le_refl _), if_pos (show nI 0 ≤ (0 : Int32) from Int32.le_refl _), w1, w2]
      exact Or.inl ⟨_, _, rfl, rfl, s4, t4, m4, rfl, rfl, by omega, w3, fun _ => w4, fun h => absurd h (by omega)⟩
    · have hq1 := hq (by omega)
      obtain ⟨s3, t3, v1, v2, v3⟩ := write_both hp (by omega) (47 : Int32)
      obtain ⟨s4, t4, m4, w1, w2, w3, w4⟩ := key s3 t3 _ v3 (by omega)
      have hn : ¬ nI i ≤ (0 : Int32) := nI_ge (b := i) (a := 0) (by omega) (by omega)
      rw [if_neg hn, if_neg hn, v1, v2, zb_mk, zb_mk, w1, w2]
      exact Or.inl ⟨_, _, rfl, rfl, s4, t4, m4, rfl, rfl, by omega, w3, fun _ => w4, fun h => absurd h (by omega)⟩
set_option maxHeartbeats 1000000 in
theorem step25 : zStep25 zR := fun σ τ y1 hR => by
  obtain ⟨⟨G, hg⟩, -⟩ := id hR
  have hS := hg.1
  have hI := hg.2.2
  have b1 := hI.2.1
  unfold fX6_spell fX7_spell
  rcases zin_or y1 (G 1) (by omega) with ⟨t, ht, rfl⟩ | ⟨hz, hx⟩
  · rw [hasStack_t hS hI ht, isStack_t hg.2.1 hI ht]
    simp only [zb_mk, if_neg i0]
    have h6 := in_hgt hI (show t < 6 by omega)
    have hp : zPp σ τ (zI σ 32 1 0) (zI τ 0 23 0) 0 := ⟨⟨fun c h1 h2 => zI_ne _ _ _ h1, fun c h1 h2 => zI_ne _ _ _ h1, fun k hk => by rw [zI_at, upd_ne _ _ hk]⟩, by rw [zI_at, upd_at]; rfl, by rw [zI_at, upd_at]; rfl, fun i hi => absurd hi (Nat.not_lt_zero i)⟩
    have sc1 : zScene (zI σ 32 1 0).1 1 G := hS.fr (fun k hk => zI_ne _ _ _ (by omega))
    have rw1 : zRow ((zI τ 0 23 0).1 1) G := by rw [zI_ne _ _ _ (show 1 ≠ 0 by decide)]; exact hg.2.1
    unfold fX2_spellStack fX2_spellStack_29 fX7_spell_29
    rw [hasStack_t sc1 hI ht, zb_mk, if_neg i0, zin_t (show t < 2147483648 by omega) (show t < 6 by omega), zg_tr, nI_cl (show t < 2147483648 by omega), sc_hgt sc1 (show t < 6 by omega), size_eq rw1 (show t < 6 by omega), zb_mk]
    by_cases h0 : G (58 + 7 * t) = 0
    · obtain ⟨s3, t3, v1, v2, v3⟩ := write_both hp (by omega) (45 : Int32)
      obtain ⟨s4, t4, m4, w1, w2, w3, w4⟩ := spell_both hR hg ht v3 (by omega) (fun h => absurd h0 h)
      rw [if_pos (show nI (G (58 + 7 * t)) = 0 by rw [h0]; rfl), if_pos (show nI (G (58 + 7 * t)) = 0 by rw [h0]; rfl), v1, v2, zb_mk, zb_mk, w1, w2, zb_mk, w3.2.1]
      exact ⟨_, _, _, rfl, rfl, hR.paper w3 w4⟩
    · have hne : ¬ nI (G (58 + 7 * t)) = (0 : Int32) := fun e => h0 ((nI_eq_iff (b := 0) (by omega) (by omega)).mp e)
      obtain ⟨s4, t4, m4, w1, w2, w3, w4⟩ := spell_both hR hg ht hp (by omega) (fun _ => rfl)
      rw [if_neg hne, if_neg hne, w1, w2, zb_mk, w3.2.1]
      exact ⟨_, _, _, rfl, rfl, hR.paper w3 w4⟩
  · rw [hasStack_f hS hx, isStack_f hg.2.1 hI hz]
    exact sameR hR rfl rfl
