theorem word_both {s t : ZS} {n p : Nat} {T : Nat → Nat} (h : zIn s t n T p) : (∃ k en, k < 6 ∧ p + 4 ≤ en ∧ en ≤ n ∧ fX4_readWord s = some (nI k, zI s 26 8 (nI en)) ∧ fX7_word t = some (1, zI (zI t 0 9 (nI en)) 0 10 (nI k))) ∨ (∃ en, fX4_readWord s = some (-1, s) ∧ fX7_word t = some (0, zI (zI t 0 9 (nI en)) 0 9 (nI p))) := by
  obtain ⟨en, h1, h2, e1, e2⟩ := end_both h
  rw [e1, e2]
  have hp : zIn s (zI t 0 9 (nI p)) n T p := h.mv (fS.rf h) (fT.at t p) h.1
  unfold fX4_readWord_35 fX4_readWord_37 fX4_readWord_37n fX7_word_31 fX7_word_31n
  refine zloop2 (fun k st st' => st = (nI en, nI k, s) ∧ st' = (nI p, nI k, zI t 0 9 (nI en)) ∧ k ≤ 6) 6 (fun o o' => (∃ k en, k < 6 ∧ p + 4 ≤ en ∧ en ≤ n ∧ o = some (nI k, zI s 26 8 (nI en)) ∧ o' = some (1, zI (zI t 0 9 (nI en)) 0 10 (nI k))) ∨ (∃ en, o = some (-1, s) ∧ o' = some (0, zI (zI t 0 9 (nI en)) 0 9 (nI p)))) (fun i s s' h => h.2.2) ?_ zN 0 _ _ ⟨rfl, rfl, Nat.zero_le _⟩ (by unfold zN; omega)
  rintro f g k st st' ⟨rfl, rfl, hk⟩
  unfold fX4_readWord_37b fX7_word_31b
  dsimp only
  by_cases e : k = 6
  · rw [e, if_pos (show (6 : Int32) ≤ nI 6 from Int32.le_refl _), if_pos (show (6 : Int32) ≤ nI 6 from Int32.le_refl _)]
    exact Or.inr (Or.inr ⟨en, rfl, rfl⟩)
  · have hn : ¬ (6 : Int32) ≤ nI k := nI_ge (b := 6) (by omega) (by omega)
    rw [if_neg hn, if_neg hn, word_eq (show k < 6 by omega), zb_mk]
    rcases spells_C h h1 h2 (show k < 6 by omega) with ⟨a1, a2⟩ | ⟨a1, a2⟩
    · rcases spells_M hp h1 h2 (show k < 6 by omega) (fun x1 x2 s => g (x1, x2, s)) with ⟨b1, b2⟩ | ⟨b1, b2⟩
      · rw [a2, zb_mk, if_neg i0, b2]
        have := a1.1
        have := slen_ge (show k < 6 by omega)
        exact Or.inr (Or.inl ⟨k, en, by omega, by omega, h2, rfl, rfl⟩)
      · exact absurd a1 b1
    · rcases spells_M hp h1 h2 (show k < 6 by omega) (fun x1 x2 s => g (x1, x2, s)) with ⟨b1, b2⟩ | ⟨b1, b2⟩
      · exact absurd b1 a1
      · rw [a2, zb_mk, if_pos rfl, b2, show nI k + 1 = nI (k + 1) from nI_add k 1]
        exact Or.inl ⟨_, _, rfl, rfl, rfl, rfl, by omega⟩
/-- what a clause leaves -/
def cFr (s t s' t' : ZS) : Prop := (∀ c, c ≠ 26 → c ≠ 28 → c ≠ 29 → c ≠ 30 → s'.1 c = s.1 c) ∧ (∀ c, c ≠ 0 → c ≠ 7 → t'.1 c = t.1 c) ∧ ∀ k, k ≠ 9 → k ≠ 10 → k ≠ 11 → t'.1 0 k = t.1 0 k
theorem cFr.of {s t s' t' : ZS} {q r : Nat} (a : fS s s' q) (b : fT t t' r) : cFr s t s' t' := ⟨fun c hc _ _ _ => a.1 c hc, fun c hc _ => b.1 c hc, b.2.1⟩
theorem cFr.tr {s t s1 t1 s2 t2 : ZS} (h : cFr s t s1 t1) (h2 : cFr s1 t1 s2 t2) : cFr s t s2 t2 := ⟨fun c a b d e => (h2.1 c a b d e).trans (h.1 c a b d e), fun c a b => (h2.2.1 c a b).trans (h.2.1 c a b), fun k a b d => (h2.2.2 k a b d).trans (h.2.2 k a b d)⟩
theorem zIn.fr {s t s' t' : ZS} {n p : Nat} {T : Nat → Nat} (h : zIn s t n T p) (a1 : s'.1 26 1 = s.1 26 1) (a8 : s'.1 26 8 = s.1 26 8) (a27 : s'.1 27 = s.1 27) (b8 : t'.1 0 8 = t.1 0 8) (b9 : t'.1 0 9 = t.1 0 9) (b6 : t'.1 6 = t.1 6) (bc : t'.1 9 = t.1 9 ∧ t'.1 10 = t.1 10) : zIn s' t' n T p := by
  obtain ⟨h1, h2, h3, h4, h5, h6, h7, h8⟩ := h
  refine ⟨h1, h2.fr a1 a27, by rw [a8]; exact h3, h4, by rw [b8]; exact h5, by rw [b9]; exact h6, fun i hi => by rw [b6]; exact h7 i hi, ?_⟩
  unfold zRc at h8 ⊢
  rw [bc.1, bc.2]; exact h8
def cOk (s t s' t' : ZS) (n : Nat) (T : Nat → Nat) (p m : Nat) : Prop := ∃ (kd fg q : Nat) (v : Nat → Nat), kd ≤ 5 ∧ fg ≤ 9 ∧ (∀ b, b < 5 → v b ≤ 10) ∧ p + 16 ≤ q ∧ zIn s' t' n T q ∧ s'.1 26 2 = nI (m + 1) ∧ s'.1 28 = upd (s.1 28) m (nI kd) ∧ s'.1 29 = upd (s.1 29) m (nI fg) ∧ (∀ b, b < 5 → s'.1 30 (5 * m + b) = nI (v b)) ∧ (∀ k, k < 5 * m → s'.1 30 k = s.1 30 k) ∧ t'.1 0 10 = nI kd ∧ t'.1 0 11 = nI fg ∧ ∀ b, b < 5 → t'.1 7 b = nI (v b)
def cQ (s t : ZS) (n : Nat) (T : Nat → Nat) (p m : Nat) (o o' : Option (Int32 × ZS)) : Prop := ∃ (s' t' : ZS), cFr s t s' t' ∧ ((o = some (1, s') ∧ o' = some (1, t') ∧ cOk s t s' t' n T p m) ∨ (o = some (0, s') ∧ o' = some (0, t') ∧ ∃ q, zIn s' t' n T q))
set_option maxHeartbeats 2000000 in
theorem nums_both {s0 t0 s t : ZS} {n p p0 m kd fg : Nat} {T : Nat → Nat} (h : zIn s t n T p) (hp : p0 + 7 ≤ p) (hm : m < 8) (hkd : kd ≤ 5) (hfg : fg ≤ 9) (a : ∀ c, c ≠ 26 → s.1 c = s0.1 c) (a2 : s.1 26 2 = nI m) (b : fT t0 t p) (b10 : t.1 0 10 = nI kd) : cQ s0 t0 n T p0 m (fX4_readClause_53 (nI kd) (nI fg) 0 s) (fX7_clause_41 (nI fg) 0 t) := by
  unfold fX4_readClause_53 fX4_readClause_53n fX7_clause_41 fX7_clause_41n
  refine zloop2 (fun k st st' => ∃ (s1 t1 : ZS) (q : Nat) (v : Nat → Nat), st = (nI kd, nI fg, nI k, s1) ∧ st' = (nI fg, nI k, t1) ∧ k ≤ 5 ∧ zIn s1 t1 n T q ∧ p0 + 7 + (2 * k - 1) ≤ q ∧ (∀ c, c ≠ 26 → c ≠ 30 → s1.1 c = s0.1 c) ∧ s1.1 26 2 = nI m ∧ (∀ j, j < k → v j ≤ 10 ∧ s1.1 30 (5 * m + j) = nI (v j) ∧ t1.1 7 j = nI (v j)) ∧ (∀ j, j < 5 * m → s1.1 30 j = s0.1 30 j) ∧ (∀ c, c ≠ 0 → c ≠ 7 → t1.1 c = t0.1 c) ∧ (∀ k, k ≠ 9 → k ≠ 10 → k ≠ 11 → t1.1 0 k = t0.1 0 k) ∧ t1.1 0 10 = nI kd) 5 (cQ s0 t0 n T p0 m) (fun i s s' h => by obtain ⟨_, _, _, _, _, _, h, _⟩ := h; exact h) ?_ zN 0 _ _ ⟨s, t, p, fun _ => 0, rfl, rfl, Nat.zero_le _, h, by omega, fun c hc _ => a c hc, a2, fun j hj => absurd hj (Nat.not_lt_zero j), fun j _ => by rw [a 30 (by decide)], fun c hc _ => b.1 c hc, b.2.1, b10⟩ (by unfold zN; omega)
  rintro f g k st st' ⟨s1, t1, q, v, rfl, rfl, hk, hz, hq, c1, c2, c3, c4, d1, d2, d3⟩
  have h80 := hz.2.1.1
  unfold fX4_readClause_53b fX7_clause_41b
  dsimp only
  by_cases e : k = 5
  · subst e
    rw [if_pos (show (5 : Int32) ≤ nI 5 from Int32.le_refl _), if_pos (show (5 : Int32) ≤ nI 5 from Int32.le_refl _), c2, zI_ne _ _ _ (show 26 ≠ 28 by decide), c2, zin_t (by omega) hm, zg_tr, zg_tr, nI_cl (by omega), zI_ne _ _ _ (show 26 ≠ 29 by decide), zI_ne _ _ _ (show 26 ≠ 28 by decide), c2, show (1 : Int32) = nI 1 from rfl, nI_add]
    refine Or.inr ⟨_, _, ⟨fun c q1 q2 q3 q4 => ?_, fun c q1 q2 => ?_, fun j q1 q2 q3 => ?_⟩, Or.inl ⟨rfl, rfl, kd, fg, q, v, hkd, hfg, fun b hb => (c3 b hb).1, by omega, hz.fr ?_ ?_ ?_ ?_ ?_ ?_ ⟨?_, ?_⟩, ?_, ?_, ?_, fun b hb => ?_, fun j hj => ?_, ?_, ?_, fun b hb => ?_⟩⟩
    · rw [zI_ne _ _ _ q1, zI_ne _ _ _ q3, zI_ne _ _ _ q2]; exact c1 c q1 q4
    · rw [zI_ne _ _ _ q1]; exact d1 c q1 q2
    · rw [zI_at, upd_ne _ _ q3]; exact d2 j q1 q2 q3
    · rw [zI_at, upd_ne _ _ (by decide), zI_ne _ _ _ (by decide), zI_ne _ _ _ (by decide)]
    · rw [zI_at, upd_ne _ _ (by decide), zI_ne _ _ _ (by decide), zI_ne _ _ _ (by decide)]
    · rw [zI_ne _ _ _ (by decide), zI_ne _ _ _ (by decide), zI_ne _ _ _ (by decide)]
    · rw [zI_at, upd_ne _ _ (by decide)]
    · rw [zI_at, upd_ne _ _ (by decide)]
    · rw [zI_ne _ _ _ (by decide)]
    · rw [zI_ne _ _ _ (by decide)]
    · rw [zI_ne _ _ _ (by decide)]
    · rw [zI_at, upd_at]
    · rw [zI_ne _ _ _ (show 28 ≠ 26 by decide), zI_ne _ _ _ (show 28 ≠ 29 by decide), zI_at, c1 28 (by decide) (by decide)]
    · rw [zI_ne _ _ _ (show 29 ≠ 26 by decide), zI_at, zI_ne _ _ _ (show 29 ≠ 28 by decide), c1 29 (by decide) (by decide)]
    · rw [zI_ne _ _ _ (show 30 ≠ 26 by decide), zI_ne _ _ _ (show 30 ≠ 29 by decide), zI_ne _ _ _ (show 30 ≠ 28 by decide)]; exact (c3 b hb).2.1
    · rw [zI_ne _ _ _ (show 30 ≠ 26 by decide), zI_ne _ _ _ (show 30 ≠ 29 by decide), zI_ne _ _ _ (show 30 ≠ 28 by decide)]; exact c4 j hj
    · rw [zI_at, upd_ne _ _ (by decide)]; exact d3
    · rw [zI_at, upd_at]
    · rw [zI_ne _ _ _ (by decide)]; exact (c3 b hb).2.2
  · have h5 : ¬ (5 : Int32) ≤ nI k := nI_ge (b := 5) (by omega) (by omega)
    rw [if_neg h5, if_neg h5]
    have key : ∀ (s3 t3 : ZS) (q3 : Nat), zIn s3 t3 n T q3 → fS s1 s3 q3 → fT t1 t3 q3 → t3.1 0 10 = nI kd → p0 + 7 + 2 * k ≤ q3 → (∃ (s' : Int32 × Int32 × Int32 × ZS) (t' : Int32 × Int32 × ZS), fX4_readClause_73 (fun x1 x2 x3 s => f (x1, x2, x3, s)) (nI kd) (nI fg) (nI k) s3 = f s' ∧ fX7_clause_59 (fun x1 x2 s => g (x1, x2, s)) (nI fg) (nI k) t3 = g t' ∧ ∃ (s1 t1 : ZS) (q : Nat) (v : Nat → Nat), s' = (nI kd, nI fg, nI (k + 1), s1) ∧ t' = (nI fg, nI (k + 1), t1) ∧ k + 1 ≤ 5 ∧ zIn s1 t1 n T q ∧ p0 + 7 + (2 * (k + 1) - 1) ≤ q ∧ (∀ c, c ≠ 26 → c ≠ 30 → s1.1 c = s0.1 c) ∧ s1.1 26 2 = nI m ∧ (∀ j, j < k + 1 → v j ≤ 10 ∧ s1.1 30 (5 * m + j) = nI (v j) ∧ t1.1 7 j = nI (v j)) ∧ (∀ j, j < 5 * m → s1.1 30 j = s0.1 30 j) ∧ (∀ c, c ≠ 0 → c ≠ 7 → t1.1 c = t0.1 c) ∧ (∀ k, k ≠ 9 → k ≠ 10 → k ≠ 11 → t1.1 0 k = t0.1 0 k) ∧ t1.1 0 10 = nI kd) ∨ cQ s0 t0 n T p0 m (fX4_readClause_73 (fun x1 x2 x3 s => f (x1, x2, x3, s)) (nI kd) (nI fg) (nI k) s3) (fX7_clause_59 (fun x1 x2 s => g (x1, x2, s)) (nI fg) (nI k) t3) := by
      intro s3 t3 q3 z3 w1 w2 w3 w4
      unfold fX4_readClause_73
      rcases num_both z3 (show k < 5 by omega) (fun x1 x2 s => g (x1, x2, s)) (nI fg) with ⟨u, q4, s4, t4, u1, u2, u3, u4, u5, u6, u7, u8⟩ | ⟨u4, u5⟩
      · have z4 := z3.mv u6 u7 u3
        have x1 := w1.tr u6
        have x2 := w2.tr u7
        rw [u4, zb_mk, if_pos (show (0 : Int32) ≤ nI u from nI_le (a := 0) (Nat.zero_le _) (by omega)), x1.2.1 2 (by decide), c2, show (5 : Int32) = nI 5 from rfl, nI_mul, nI_add, zin_t (show m * 5 + k < 2147483648 by omega) (show m * 5 + k < 40 by omega), zg_tr, nI_cl (show m * 5 + k < 2147483648 by omega), show nI k + 1 = nI (k + 1) from nI_add k 1, u5]
        refine Or.inl ⟨_, _, rfl, rfl, _, _, q4, fun j => if j = k then u else v j, rfl, rfl, by omega, z4.fr ?_ ?_ ?_ ?_ ?_ ?_ ⟨?_, ?_⟩, by omega, fun c q1 q2 => ?_, ?_, fun j hj => ⟨?_, ?_, ?_⟩, fun j hj => ?_, fun c q1 q2 => ?_, fun j q1 q2 q3 => ?_, ?_⟩
        · rw [zI_ne _ _ _ (by decide)]
        · rw [zI_ne _ _ _ (by decide)]
        · rw [zI_ne _ _ _ (by decide)]
        · rw [zI_ne _ _ _ (by decide)]
        · rw [zI_ne _ _ _ (by decide)]
        · rw [zI_ne _ _ _ (by decide)]
        · rw [zI_ne _ _ _ (by decide)]
        · rw [zI_ne _ _ _ (by decide)]
        · rw [zI_ne _ _ _ q2, x1.1 c q1]; exact c1 c q1 q2
        · rw [zI_ne _ _ _ (by decide), x1.2.1 2 (by decide)]; exact c2
        · dsimp only
          by_cases ej : j = k
          · rw [if_pos ej]; exact u1
          · rw [if_neg ej]; exact (c3 j (by omega)).1
        · dsimp only
          rw [zI_at]
          by_cases ej : j = k
          · subst ej; rw [if_pos rfl, show 5 * m + j = m * 5 + j by omega, upd_at]
          · rw [if_neg ej, upd_ne _ _ (by omega), x1.1 30 (by decide)]; exact (c3 j (by omega)).2.1
        · dsimp only
          rw [zI_at]
          by_cases ej : j = k
          · subst ej; rw [if_pos rfl, upd_at]
          · rw [if_neg ej, upd_ne _ _ ej, x2.1 7 (by decide)]; exact (c3 j (by omega)).2.2
        · rw [zI_at, upd_ne _ _ (by omega), x1.1 30 (by decide)]; exact c4 j hj
        · rw [zI_ne _ _ _ q2, x2.1 c q1]; exact d1 c q1 q2
        · rw [zI_ne _ _ _ (by decide), x2.2.1 j q1 q2 q3]; exact d2 j q1 q2 q3
        · rw [zI_ne _ _ _ (by decide), u8]; exact w3
      · rw [u4, zb_mk, if_neg m1_neg, u5]
        exact Or.inr ⟨s3, t3, ⟨fun c q1 q2 q3 q4 => by rw [w1.1 c q1]; exact c1 c q1 q4, fun c q1 q2 => by rw [w2.1 c q1]; exact d1 c q1 q2, fun j q1 q2 q3 => by rw [w2.2.1 j q1 q2 q3]; exact d2 j q1 q2 q3⟩, Or.inr ⟨rfl, rfl, q3, z3⟩⟩
    by_cases k0 : k = 0
    · subst k0
      rw [if_pos (show nI 0 ≤ (0 : Int32) from Int32.le_refl _), if_pos (show nI 0 ≤ (0 : Int32) from Int32.le_refl _)]
      exact key s1 t1 q hz (fS.rf hz) (fT.rf hz) d3 (by omega)
    · have hn : ¬ nI k ≤ (0 : Int32) := nI_ge (b := k) (a := 0) (by omega) (by omega)
      rw [if_neg hn, if_neg hn, show (44 : Int32) = nI 44 from rfl]
      rcases pass_both hz (c := 44) (by omega) with ⟨r1, r2, r3⟩ | ⟨r2, r3⟩
      · rw [r2, r3, zb_mk, zb_mk, if_neg i0, if_neg i0]
        exact key _ _ (q + 1) (hz.mv (fS.at _ _) (fT.at _ _) (by omega)) (fS.at _ _) (fT.at _ _) (by rw [zI_at, upd_ne _ _ (by decide)]; exact d3) (by omega)
      · rw [r2, r3, zb_mk, zb_mk, if_pos rfl, if_pos rfl]
        exact Or.inr ⟨s1, t1, ⟨fun c q1 q2 q3 q4 => c1 c q1 q4, fun c q1 q2 => d1 c q1 q2, fun j q1 q2 q3 => d2 j q1 q2 q3⟩, Or.inr ⟨rfl, rfl, q, hz⟩⟩
set_option maxHeartbeats 2000000 in
theorem clause_both {s t : ZS} {n p m : Nat} {T : Nat → Nat} (h : zIn s t n T p) (hm : m < 8) (a2 : s.1 26 2 = nI m) : cQ s t n T p m (fX4_readClause s) (fX7_clause t) := by
  unfold fX4_readClause fX7_clause
  rw [a2, if_pos (show nI m < (8 : Int32) from (nI_lt_iff (b := 8) (by omega) (by omega)).mpr hm), show (32 : Int32) = nI 32 from rfl]
  rcases word_both h with ⟨k, en, hk, h4, hn, e1, e2⟩ | ⟨en, e1, e2⟩
  · have a1 := fS.at s en
    have b1 : fT t (zI (zI t 0 9 (nI en)) 0 10 (nI k)) en := ⟨fun c hc => by rw [zI_ne _ _ _ hc, zI_ne _ _ _ hc], fun j q1 q2 q3 => by rw [zI_at, upd_ne _ _ q2, zI_at, upd_ne _ _ q1], by rw [zI_at, upd_ne _ _ (by decide), zI_at, upd_at]⟩
    have z1 := h.mv a1 b1 hn
    rw [e1, zb_mk, if_neg (show ¬ nI k < (0 : Int32) from nI_pos (by omega)), e2, zb_mk, if_neg i0]
    rcases pass_both z1 (c := 32) (by omega) with ⟨r1, r2, r3⟩ | ⟨r2, r3⟩
    · have a3 := a1.tr (fS.at (zI s 26 8 (nI en)) (en + 1))
      have b3 := b1.tr (fT.at (zI (zI t 0 9 (nI en)) 0 10 (nI k)) (en + 1))
      have z2 := h.mv a3 b3 (by omega)
      rw [r2, r3, zb_mk, zb_mk, if_neg i0, if_neg i0]
      rcases fig_both z2 with ⟨r4, v, hv, r5, r6⟩ | ⟨r5, r6⟩
      · have a4 := a3.tr (fS.at (zI (zI s 26 8 (nI en)) 26 8 (nI (en + 1))) (en + 1 + 1))
        have b4 := b3.tr (fT.fig (zI (zI (zI t 0 9 (nI en)) 0 10 (nI k)) 0 9 (nI (en + 1))) (nI v) (en + 1 + 1))
        have z3 := h.mv a4 b4 (by omega)
        rw [r5, r6, zb_mk, zb_mk, if_neg (show ¬ nI v < (0 : Int32) from nI_pos (by omega)), if_neg i0]
        rcases pass_both z3 (c := 32) (by omega) with ⟨r7, r8, r9⟩ | ⟨r8, r9⟩
        · have a5 := a4.tr (fS.at _ (en + 1 + 1 + 1))
          have b5 := b4.tr (fT.at _ (en + 1 + 1 + 1))
          have z4 := h.mv a5 b5 (by omega)
          rw [r8, r9, zb_mk, zb_mk, if_neg i0, if_neg i0]
          have e11 : (zI (zI (zI (zI (zI (zI t 0 9 (nI en)) 0 10 (nI k)) 0 9 (nI (en + 1))) 0 11 (nI v)) 0 9 (nI (en + 1 + 1))) 0 9 (nI (en + 1 + 1 + 1))).1 0 11 = nI v := by
            rw [zI_at, upd_ne _ _ (by decide), zI_at, upd_ne _ _ (by decide), zI_at, upd_at]
          have e10 : (zI (zI (zI (zI (zI (zI t 0 9 (nI en)) 0 10 (nI k)) 0 9 (nI (en + 1))) 0 11 (nI v)) 0 9 (nI (en + 1 + 1))) 0 9 (nI (en + 1 + 1 + 1))).1 0 10 = nI k := by
            rw [zI_at, upd_ne _ _ (by decide), zI_at, upd_ne _ _ (by decide), zI_at, upd_ne _ _ (by decide), zI_at, upd_ne _ _ (by decide), zI_at, upd_at]
          rw [e11]
          exact nums_both z4 (by omega) hm (by omega) hv a5.1 (by rw [a5.2.1 2 (by decide)]; exact a2) b5 e10
        · rw [r8, r9, zb_mk, zb_mk, if_pos rfl, if_pos rfl]
          exact ⟨_, _, cFr.of a4 b4, Or.inr ⟨rfl, rfl, _, z3⟩⟩
      · rw [r5, r6, zb_mk, zb_mk, if_pos (show (-1 : Int32) < 0 by decide), if_pos rfl]
        exact ⟨_, _, cFr.of a3 b3, Or.inr ⟨rfl, rfl, _, z2⟩⟩
    · rw [r2, r3, zb_mk, zb_mk, if_pos rfl, if_pos rfl]
      exact ⟨_, _, cFr.of a1 b1, Or.inr ⟨rfl, rfl, _, z1⟩⟩
  · have b1 := (fT.at t en).tr (fT.at (zI t 0 9 (nI en)) p)
    rw [e1, zb_mk, if_pos (show (-1 : Int32) < 0 by decide), e2, zb_mk, if_pos rfl]
    exact ⟨_, _, cFr.of (fS.rf h) b1, Or.inr ⟨rfl, rfl, p, h.mv (fS.rf h) b1 h.1⟩⟩
