/-- both read the tape, at place p -/
def zIn (s t : ZS) (n : Nat) (T : Nat → Nat) (p : Nat) : Prop := p ≤ n ∧ zTp s n T ∧ s.1 26 8 = nI p ∧ (∀ i, i < n → 1 ≤ T i ∧ T i ≤ 127) ∧ t.1 0 8 = nI n ∧ t.1 0 9 = nI p ∧ (∀ i, i < n → t.1 6 i = nI (T i)) ∧ zRc t
def fS (s s' : ZS) (q : Nat) : Prop := (∀ c, c ≠ 26 → s'.1 c = s.1 c) ∧ (∀ k, k ≠ 8 → s'.1 26 k = s.1 26 k) ∧ s'.1 26 8 = nI q
def fT (t t' : ZS) (q : Nat) : Prop := (∀ c, c ≠ 0 → t'.1 c = t.1 c) ∧ (∀ k, k ≠ 9 → k ≠ 10 → k ≠ 11 → t'.1 0 k = t.1 0 k) ∧ t'.1 0 9 = nI q
theorem zIn.mv {s t s' t' : ZS} {n p q : Nat} {T : Nat → Nat} (h : zIn s t n T p) (a : fS s s' q) (b : fT t t' q) (hq : q ≤ n) : zIn s' t' n T q := by
  obtain ⟨h1, h2, h3, h4, h5, h6, h7, h8⟩ := h
  refine ⟨hq, h2.fr (a.2.1 1 (by decide)) (a.1 27 (by decide)), a.2.2, h4, by rw [b.2.1 8 (by decide) (by decide) (by decide)]; exact h5, b.2.2, fun i hi => by rw [b.1 6 (by decide)]; exact h7 i hi, ?_⟩
  unfold zRc at h8 ⊢
  rw [b.1 9 (by decide), b.1 10 (by decide)]; exact h8
theorem fS.rf {s t : ZS} {n p : Nat} {T : Nat → Nat} (h : zIn s t n T p) : fS s s p := ⟨fun _ _ => rfl, fun _ _ => rfl, h.2.2.1⟩
theorem fT.rf {s t : ZS} {n p : Nat} {T : Nat → Nat} (h : zIn s t n T p) : fT t t p := ⟨fun _ _ => rfl, fun _ _ _ _ => rfl, h.2.2.2.2.2.1⟩
theorem fS.tr {a b c : ZS} {p q : Nat} (h : fS a b p) (h2 : fS b c q) : fS a c q := ⟨fun k hk => (h2.1 k hk).trans (h.1 k hk), fun k hk => (h2.2.1 k hk).trans (h.2.1 k hk), h2.2.2⟩
theorem fT.tr {a b c : ZS} {p q : Nat} (h : fT a b p) (h2 : fT b c q) : fT a c q := ⟨fun k hk => (h2.1 k hk).trans (h.1 k hk), fun k hk h9 h10 => (h2.2.1 k hk h9 h10).trans (h.2.1 k hk h9 h10), h2.2.2⟩
theorem fS.at (s : ZS) (q : Nat) : fS s (zI s 26 8 (nI q)) q := ⟨fun c hc => zI_ne _ _ _ hc, fun k hk => by rw [zI_at, upd_ne _ _ hk], by rw [zI_at, upd_at]⟩
theorem fT.at (t : ZS) (q : Nat) : fT t (zI t 0 9 (nI q)) q := ⟨fun c hc => zI_ne _ _ _ hc, fun k hk _ _ => by rw [zI_at, upd_ne _ _ hk], by rw [zI_at, upd_at]⟩
/-- a byte between two -/
theorem isAt_t {s t : ZS} {n p lo hi : Nat} {T : Nat → Nat} (h : zIn s t n T p) (hp : p < n) (h1 : lo ≤ T p) (h2 : T p ≤ hi) (hh : hi ≤ 1000) : fX7_isAt (nI lo) (nI hi) t = some (1, t) := by
  obtain ⟨-, ⟨h80, -⟩, -, -, e8, e9, e6, -⟩ := h
  unfold fX7_isAt
  rw [e8, e9, if_neg (show ¬ nI n ≤ nI p from nI_ge (by omega) (by omega)), zin_t (by omega) (by omega), zg_tr, nI_cl (by omega), e6 p hp, nI_l (n := lo) (by omega), nI_l (n := hi) (by omega), isIn_t h1 h2 (by omega), zb_mk, if_neg i0]
theorem isAt_f {s t : ZS} {n p lo hi : Nat} {T : Nat → Nat} (h : zIn s t n T p) (hp : n ≤ p ∨ T p < lo ∨ hi < T p) (hh : hi ≤ 1000) (hl : lo ≤ 1000) : fX7_isAt (nI lo) (nI hi) t = some (0, t) := by
  obtain ⟨hpn, ⟨h80, -⟩, -, hb, e8, e9, e6, -⟩ := h
  unfold fX7_isAt
  by_cases e : p < n
  · have := hb p e
    rw [e8, e9, if_neg (show ¬ nI n ≤ nI p from nI_ge (by omega) (by omega)), zin_t (by omega) (by omega), zg_tr, nI_cl (by omega), e6 p e, nI_l (n := lo) (by omega), nI_l (n := hi) (by omega), isInL_f (by omega) (by omega) (by rw [nI_toInt (by omega)]; omega), zb_mk, if_pos rfl]
  · rw [e8, e9, if_pos (show nI n ≤ nI p from nI_le (by omega) (by omega))]
theorem byteC_e {s t : ZS} {n p : Nat} {T : Nat → Nat} (h : zIn s t n T p) (hp : n ≤ p) : fX4_byteAt (s.1 26 8) s = some (-1, s) := by
  rw [h.2.2.1]
  exact byte_e h.2.1 hp (by have := h.1; have := h.2.1.1; omega)
theorem byteC_t {s t : ZS} {n p : Nat} {T : Nat → Nat} (h : zIn s t n T p) (hp : p < n) : fX4_byteAt (s.1 26 8) s = some (nI (T p), s) := by
  rw [h.2.2.1]
  exact byte_t h.2.1 hp
theorem pass_both {s t : ZS} {n p c : Nat} {T : Nat → Nat} (h : zIn s t n T p) (hc : c ≤ 127) : (p < n ∧ fX4_pass (nI c) s = some (1, zI s 26 8 (nI (p + 1))) ∧ fX7_takes (nI c) t = some (1, zI t 0 9 (nI (p + 1)))) ∨ (fX4_pass (nI c) s = some (0, s) ∧ fX7_takes (nI c) t = some (0, t)) := by
  unfold fX4_pass fX7_takes
  by_cases e : p < n
  · have hb := h.2.2.2.1 p e
    by_cases e2 : T p = c
    · refine Or.inl ⟨e, ?_, ?_⟩
      · rw [byteC_t h e, zb_mk, if_pos (by rw [e2]), h.2.2.1, show (1 : Int32) = nI 1 from rfl, nI_add]
      · rw [isAt_t h e (by omega) (by omega) (by omega), zb_mk, if_neg i0, h.2.2.2.2.2.1, show (1 : Int32) = nI 1 from rfl, nI_add]
    · refine Or.inr ⟨?_, ?_⟩
      · rw [byteC_t h e, zb_mk, if_neg (fun q => e2 ((nI_eq_iff (by omega) (by omega)).mp q))]
      · rw [isAt_f h (by omega) (by omega) (by omega), zb_mk, if_pos rfl]
  · refine Or.inr ⟨?_, ?_⟩
    · rw [byteC_e h (by omega), zb_mk, if_neg (fun q => by have := congrArg Int32.toInt q; rw [nI_toInt (by omega)] at this; exact absurd this (by show ¬ ((-1 : Int) = c); omega))]
    · rw [isAt_f h (by omega) (by omega) (by omega), zb_mk, if_pos rfl]
theorem m1_sub {b : Nat} (hb : 0 < b) (h : b ≤ 1000) {n : Nat} (hn : n ≤ 1000) : (-1 : Int32) - nI b < 0 ∨ (¬ (-1 : Int32) - nI b < 0 ∧ nI n ≤ (-1 : Int32) - nI b) := by
  refine Or.inl (Int32.lt_iff_toInt_lt.mpr ?_)
  have e : ((-1 : Int32) - nI b).toInt = -1 - (b : Int) := by
    rw [Int32.toInt_sub, nI_toInt (by omega), show (-1 : Int32).toInt = -1 from rfl]
    exact Int.bmod_eq_of_le (by omega) (by omega)
  rw [e]
  show -1 - (b : Int) < 0
  omega
theorem sub_out {a b n : Nat} (ha : a ≤ 1000) (hb : b ≤ 1000) (hn : n ≤ 1000) (h : a < b ∨ b + n ≤ a) : nI a - nI b < 0 ∨ (¬ nI a - nI b < 0 ∧ nI n ≤ nI a - nI b) := by
  rcases zin_or (nI a - nI b) n (by omega) with ⟨j, hj, ej⟩ | ⟨-, hx⟩
  · have := minus_eq (by omega) (by omega) (by omega) ej
    omega
  · exact hx
theorem fig_both {s t : ZS} {n p : Nat} {T : Nat → Nat} (h : zIn s t n T p) : (p < n ∧ ∃ v, v ≤ 9 ∧ fX4_readFigure s = some (nI v, zI s 26 8 (nI (p + 1))) ∧ fX7_aFigure t = some (1, zI (zI t 0 11 (nI v)) 0 9 (nI (p + 1)))) ∨ (fX4_readFigure s = some (-1, s) ∧ fX7_aFigure t = some (0, t)) := by
  unfold fX4_readFigure fX7_aFigure
  rw [show (48 : Int32) = nI 48 from rfl, show (57 : Int32) = nI 57 from rfl, show (10 : Int32) = nI 10 from rfl]
  have h80 := h.2.1.1
  by_cases e : p < n
  · have hb := h.2.2.2.1 p e
    by_cases e2 : 48 ≤ T p ∧ T p ≤ 57
    · refine Or.inl ⟨e, T p - 48, by omega, ?_, ?_⟩
      · rw [byteC_t h e, zb_mk, nI_sub e2.1, within_t (by omega) (by omega), zb_mk, if_neg i0, h.2.2.1, show (1 : Int32) = nI 1 from rfl, nI_add]
      · rw [isAt_t h e (by omega) (by omega) (by omega), zb_mk, if_neg i0, h.2.2.2.2.2.1, zin_t (by omega) (by omega), zg_tr, nI_cl (by omega), h.2.2.2.2.2.2.1 p e, nI_sub e2.1, zI_at, upd_ne _ _ (show 9 ≠ 11 by decide), h.2.2.2.2.2.1, show (1 : Int32) = nI 1 from rfl, nI_add]
    · refine Or.inr ⟨?_, ?_⟩
      · rw [byteC_t h e, zb_mk, within_f (sub_out (by omega) (by omega) (by omega) (by omega)), zb_mk, if_pos rfl]
      · rw [isAt_f h (by omega) (by omega) (by omega), zb_mk, if_pos rfl]
  · refine Or.inr ⟨?_, ?_⟩
    · rw [byteC_e h (by omega), zb_mk, within_f (m1_sub (by omega) (by omega) (by omega)), zb_mk, if_pos rfl]
    · rw [isAt_f h (by omega) (by omega) (by omega), zb_mk, if_pos rfl]
theorem fT.fig (t : ZS) (v : Int32) (q : Nat) : fT t (zI (zI t 0 11 v) 0 9 (nI q)) q := ⟨fun c hc => by rw [zI_ne _ _ _ hc, zI_ne _ _ _ hc], fun k h9 h10 h11 => by rw [zI_at, upd_ne _ _ h9, zI_at, upd_ne _ _ h11], by rw [zI_at, upd_at]⟩
/-- a number; the model keeps it -/
theorem num_both {s t : ZS} {n p : Nat} {T : Nat → Nat} (h : zIn s t n T p) {b : Nat} (hb : b < 5) (k41 : Int32 → Int32 → ZS → Option (Int32 × ZS)) (x1 : Int32) : (∃ (v q : Nat) (s' t' : ZS), v ≤ 10 ∧ p + 1 ≤ q ∧ q ≤ n ∧ fX4_readNumber s = some (nI v, s') ∧ fX7_clause_59 k41 x1 (nI b) t = k41 x1 (nI (b + 1)) (zI t' 7 b (nI v)) ∧ fS s s' q ∧ fT t t' q ∧ t'.1 0 10 = t.1 0 10) ∨ (fX4_readNumber s = some (-1, s) ∧ fX7_clause_59 k41 x1 (nI b) t = some (0, t)) := by
  unfold fX4_readNumber fX7_clause_59
  rcases fig_both h with ⟨hp, v, hv, e1, e2⟩ | ⟨e1, e2⟩
  · refine Or.inl ?_
    have a1 := fS.at s (p + 1)
    have b1 := fT.fig t (nI v) (p + 1)
    have h2 := h.mv a1 b1 (by omega)
    have e11 : (zI (zI t 0 11 (nI v)) 0 9 (nI (p + 1))).1 0 11 = nI v := by rw [zI_at, upd_ne _ _ (show 11 ≠ 9 by decide), zI_at, upd_at]
    have e10 : (zI (zI t 0 11 (nI v)) 0 9 (nI (p + 1))).1 0 10 = t.1 0 10 := by rw [zI_at, upd_ne _ _ (show 10 ≠ 9 by decide), zI_at, upd_ne _ _ (show 10 ≠ 11 by decide)]
    rw [e1, zb_mk, e2, zb_mk, if_neg i0, e11]
    unfold fX7_clause_95 fX7_clause_99
    rw [zin_t (by omega) hb, show nI b + 1 = nI (b + 1) from nI_add b 1, nI_cl (by omega)]
    by_cases hv1 : v = 1
    · rw [if_pos (show nI v = (1 : Int32) by rw [hv1]; rfl), if_pos (show nI v = (1 : Int32) by rw [hv1]; rfl)]
      rw [show (48 : Int32) = nI 48 from rfl]
      rcases pass_both h2 (c := 48) (by omega) with ⟨hp2, e3, e4⟩ | ⟨e3, e4⟩
      · rw [e3, zb_mk, if_neg i0, e4, zb_mk, if_neg i0, zg_tr]
        exact ⟨10, p + 1 + 1, _, _, by omega, by omega, by omega, rfl, rfl, a1.tr (fS.at _ _), b1.tr (fT.at _ _), by rw [zI_at, upd_ne _ _ (show 10 ≠ 9 by decide)]; exact e10⟩
      · rw [e3, zb_mk, if_pos rfl, e4, zb_mk, if_pos rfl, e11, zg_tr]
        exact ⟨v, p + 1, _, _, by omega, by omega, by omega, rfl, rfl, a1, b1, e10⟩
    · have hn : ¬ nI v = (1 : Int32) := fun q => hv1 ((nI_eq_iff (b := 1) (by omega) (by omega)).mp q)
      rw [if_neg hn, if_neg hn, e11, zg_tr]
      exact ⟨v, p + 1, _, _, by omega, by omega, by omega, rfl, rfl, a1, b1, e10⟩
  · refine Or.inr ?_
    rw [e1, zb_mk, if_neg (show ¬ (-1 : Int32) = 1 by decide), e2, zb_mk, if_pos rfl]
    exact ⟨rfl, rfl⟩
/-- the end of the letters -/
theorem end_both {s t : ZS} {n p : Nat} {T : Nat → Nat} (h : zIn s t n T p) : ∃ en, p ≤ en ∧ en ≤ n ∧ fX4_readWord s = fX4_readWord_35 (nI en) s ∧ fX7_word t = fX7_word_31 (nI p) 0 (zI t 0 9 (nI en)) := by
  have h80 := h.2.1.1
  unfold fX4_readWord fX7_word fX4_readWord_5 fX4_readWord_5n fX7_word_5 fX7_word_5n
  rw [h.2.2.1, h.2.2.2.2.2.1]
  have hself : zI t 0 9 (nI p) = t := by
    have e := h.2.2.2.2.2.1
    unfold zI
    refine Prod.ext ?_ rfl
    funext c
    by_cases hc : c = 0
    · subst hc
      show (if 0 = 0 then upd (t.1 0) 9 (nI p) else t.1 0) = t.1 0
      rw [if_pos rfl]
      funext k
      by_cases hk : k = 9
      · subst hk; rw [upd_at, e]
      · rw [upd_ne _ _ hk]
    · show (if c = 0 then upd (t.1 0) 9 (nI p) else t.1 c) = t.1 c
      rw [if_neg hc]
  refine zloop2 (fun k st st' => st = (nI k, s) ∧ st' = (nI p, zI t 0 9 (nI k)) ∧ p ≤ k ∧ k ≤ n) 80 (fun o o' => ∃ en, p ≤ en ∧ en ≤ n ∧ o = fX4_readWord_35 (nI en) s ∧ o' = fX7_word_31 (nI p) 0 (zI t 0 9 (nI en))) (fun i s s' h => by have := h.2.2.2; omega) ?_ zN p _ _ ⟨rfl, by rw [hself], Nat.le_refl _, h.1⟩ (by unfold zN; omega)
  rintro f g k st st' ⟨rfl, rfl, hk1, hk⟩
  have h2 : zIn (zI s 26 8 (nI k)) (zI t 0 9 (nI k)) n T k := h.mv (fS.at s k) (fT.at t k) hk
  unfold fX4_readWord_5b fX7_word_5b
  dsimp only
  rw [h.2.1.2.1, show (97 : Int32) = nI 97 from rfl, show (122 : Int32) = nI 122 from rfl, show (26 : Int32) = nI 26 from rfl]
  by_cases e : k < n
  · have hb := h.2.2.2.1 k e
    rw [if_neg (show ¬ nI n ≤ nI k from nI_ge (by omega) (by omega)), byte_t h.2.1 e, zb_mk]
    by_cases e2 : 97 ≤ T k ∧ T k ≤ 122
    · have hz : zI (zI t 0 9 (nI k)) 0 9 (nI (k + 1)) = zI t 0 9 (nI (k + 1)) := by
        unfold zI
        refine Prod.ext ?_ rfl
        funext c
        by_cases hc : c = 0
        · subst hc
          show upd (upd (t.1 0) 9 (nI k)) 9 (nI (k + 1)) = upd (t.1 0) 9 (nI (k + 1))
          funext j
          by_cases hj : j = 9
          · subst hj; rw [upd_at, upd_at]
          · rw [upd_ne _ _ hj, upd_ne _ _ hj, upd_ne _ _ hj]
        · show (if c = 0 then _ else (if c = 0 then _ else _)) = (if c = 0 then _ else _)
          rw [if_neg hc, if_neg hc, if_neg hc]
      rw [nI_sub e2.1, within_t (by omega) (by omega), zb_mk, if_neg i0, isAt_t h2 e e2.1 e2.2 (by omega), zb_mk, if_neg i0, h2.2.2.2.2.2.1, show (1 : Int32) = nI 1 from rfl, nI_add, hz]
      exact Or.inl ⟨_, _, rfl, rfl, rfl, rfl, by omega, by omega⟩
    · rw [within_f (sub_out (by omega) (by omega) (by omega) (by omega)), zb_mk, if_pos rfl, isAt_f h2 (by omega) (by omega) (by omega), zb_mk, if_pos rfl]
      exact Or.inr ⟨k, hk1, hk, rfl, rfl⟩
  · rw [if_pos (show nI n ≤ nI k from nI_le (by omega) (by omega)), isAt_f h2 (by omega) (by omega) (by omega), zb_mk, if_pos rfl]
    exact Or.inr ⟨k, hk1, hk, rfl, rfl⟩
/-- a word spelled -/
def spl (T : Nat → Nat) (p en k : Nat) : Prop := en = p + zSlen.getD k 0 ∧ ∀ x, x < zSlen.getD k 0 → T (p + x) = zWords.getD (6 * k + x) 0
theorem words_le {k : Nat} (h : k < 36) : zWords.getD k 0 ≤ 127 := (show ∀ k, k < 36 → zWords.getD k 0 ≤ 127 by decide) k h
theorem slen_ge {k : Nat} (h : k < 6) : 4 ≤ zSlen.getD k 0 := (show ∀ k, k < 6 → 4 ≤ zSlen.getD k 0 by decide) k h
theorem spells_C {s t : ZS} {n p en k : Nat} {T : Nat → Nat} (h : zIn s t n T p) (hp : p ≤ en) (hn : en ≤ n) (hk : k < 6) : (spl T p en k ∧ fX4_spells k (nI en) s = some (1, s)) ∨ (¬ spl T p en k ∧ fX4_spells k (nI en) s = some (0, s)) := by
  have h80 := h.2.1.1
  have hs := slen_le hk
  unfold fX4_spells
  rw [jlen_eq hk, zb_mk, h.2.2.1, nI_sub hp]
  by_cases e : en = p + zSlen.getD k 0
  · rw [if_pos (show nI (zSlen.getD k 0) = nI (en - p) by rw [e, Nat.add_sub_cancel_left])]
    unfold fX4_spells_17 fX4_spells_17n
    refine zloop_rule (fun i st => st = (k, nI i, s) ∧ i ≤ zSlen.getD k 0 ∧ ∀ x, x < i → T (p + x) = zWords.getD (6 * k + x) 0) 6 (fun o => (spl T p en k ∧ o = some (1, s)) ∨ (¬ spl T p en k ∧ o = some (0, s))) (fun i s h => by have := h.2.1; omega) ?_ zN 0 _ ⟨rfl, Nat.zero_le _, fun x hx => absurd hx (Nat.not_lt_zero x)⟩ (by unfold zN; omega)
    rintro f i st ⟨rfl, hi, hx⟩
    unfold fX4_spells_17b
    dsimp only
    rw [jlen_eq hk, zb_mk]
    by_cases ei : i = zSlen.getD k 0
    · rw [if_pos (show nI (zSlen.getD k 0) ≤ nI i by rw [ei]; exact Int32.le_refl _)]
      exact Or.inr (Or.inl ⟨⟨e, by rw [← ei]; exact hx⟩, rfl⟩)
    · have hb := h.2.2.2.1 (p + i) (by omega)
      have hw := words_le (show 6 * k + i < 36 by omega)
      rw [if_neg (show ¬ nI (zSlen.getD k 0) ≤ nI i from nI_ge (by omega) (by omega)), h.2.2.1, nI_add, byte_t h.2.1 (by omega), zb_mk, jcat_eq hk (by omega), zb_mk]
      by_cases ec : T (p + i) = zWords.getD (6 * k + i) 0
      · rw [if_pos (by rw [ec]), show nI i + 1 = nI (i + 1) from nI_add i 1]
        refine Or.inl ⟨_, rfl, rfl, by omega, fun x hx2 => ?_⟩
        by_cases ex : x = i
        · subst ex; exact ec
        · exact hx x (by omega)
      · rw [if_neg (fun q => ec ((nI_eq_iff (by omega) (by omega)).mp q))]
        exact Or.inr (Or.inr ⟨fun q => ec (q.2 i (by omega)), rfl⟩)
  · rw [if_neg (show ¬ nI (zSlen.getD k 0) = nI (en - p) from fun q => e (by have := (nI_eq_iff (by omega) (by omega)).mp q; omega))]
    exact Or.inr ⟨fun q => e q.1, rfl⟩
theorem spells_M {s t : ZS} {n p en k : Nat} {T : Nat → Nat} (h : zIn s (zI t 0 9 (nI p)) n T p) (hp : p ≤ en) (hn : en ≤ n) (hk : k < 6) (k31 : Int32 → Int32 → ZS → Option (Int32 × ZS)) : (spl T p en k ∧ fX7_word_39 k31 (nI p) (nI k) 0 (zI t 0 9 (nI en)) = some (1, zI (zI t 0 9 (nI en)) 0 10 (nI k))) ∨ (¬ spl T p en k ∧ fX7_word_39 k31 (nI p) (nI k) 0 (zI t 0 9 (nI en)) = k31 (nI p) (nI (k + 1)) (zI t 0 9 (nI en))) := by
  have h80 := h.2.1.1
  have hs := slen_le hk
  have hs4 := slen_ge hk
  have e10 : ∀ j, j < 6 → (zI t 0 9 (nI en)).1 10 j = nI (zSlen.getD j 0) := fun j hj => by
    have := h.2.2.2.2.2.2.2.2 j hj
    rw [zI_ne _ _ _ (show 10 ≠ 0 by decide)] at this ⊢
    exact this
  have e9 : ∀ j, j < 36 → (zI t 0 9 (nI en)).1 9 j = nI (zWords.getD j 0) := fun j hj => by
    have := h.2.2.2.2.2.2.2.1 j hj
    rw [zI_ne _ _ _ (show 9 ≠ 0 by decide)] at this ⊢
    exact this
  have e6 : ∀ j, j < n → (zI t 0 9 (nI en)).1 6 j = nI (T j) := fun j hj => by
    have := h.2.2.2.2.2.2.1 j hj
    rw [zI_ne _ _ _ (show 6 ≠ 0 by decide)] at this ⊢
    exact this
  have e09 : (zI t 0 9 (nI en)).1 0 9 = nI en := by rw [zI_at, upd_at]
  unfold fX7_word_39 fX7_word_39n
  refine zloop_rule (fun i st => st = (nI p, nI k, nI i, zI t 0 9 (nI en)) ∧ i ≤ zSlen.getD k 0 ∧ (0 < i → en = p + zSlen.getD k 0) ∧ ∀ x, x < i → T (p + x) = zWords.getD (6 * k + x) 0) 6 (fun o => (spl T p en k ∧ o = some (1, zI (zI t 0 9 (nI en)) 0 10 (nI k))) ∨ (¬ spl T p en k ∧ o = k31 (nI p) (nI (k + 1)) (zI t 0 9 (nI en)))) (fun i s h => by have := h.2.1; omega) ?_ zN 0 _ ⟨rfl, Nat.zero_le _, fun h => absurd h (Nat.lt_irrefl _), fun x hx => absurd hx (Nat.not_lt_zero x)⟩ (by unfold zN; omega)
  rintro f i st ⟨rfl, hi, h0, hx⟩
  unfold fX7_word_39b fX7_word_92
  dsimp only
  rw [zin_t (show k < 2147483648 by omega) hk, zg_tr, zg_tr, zg_tr, nI_cl (show k < 2147483648 by omega), e10 k hk, e09, nI_sub hp, show nI k + 1 = nI (k + 1) from nI_add k 1]
  by_cases ei : i = zSlen.getD k 0
  · rw [if_pos (show nI (zSlen.getD k 0) ≤ nI i by rw [ei]; exact Int32.le_refl _), if_pos (show nI i = nI (zSlen.getD k 0) by rw [ei])]
    exact Or.inr (Or.inl ⟨⟨h0 (by omega), by rw [← ei]; exact hx⟩, rfl⟩)
  · have hni : ¬ nI i = nI (zSlen.getD k 0) := fun q => ei ((nI_eq_iff (by omega) (by omega)).mp q)
    rw [if_neg (show ¬ nI (zSlen.getD k 0) ≤ nI i from nI_ge (by omega) (by omega))]
    by_cases e : en = p + zSlen.getD k 0
    · have hb := h.2.2.2.1 (p + i) (by omega)
      have hw := words_le (show 6 * k + i < 36 by omega)
      rw [if_pos (show nI (en - p) = nI (zSlen.getD k 0) by rw [e, Nat.add_sub_cancel_left]), nI_add, zin_t (show p + i < 2147483648 by omega) (show p + i < 80 by omega), zg_tr, show (6 : Int32) = nI 6 from rfl, nI_mul, nI_add, zin_t (show 6 * k + i < 2147483648 by omega) (show 6 * k + i < 36 by omega), zg_tr, nI_cl (show p + i < 2147483648 by omega), nI_cl (show 6 * k + i < 2147483648 by omega), e6 _ (by omega), e9 _ (by omega)]
      by_cases ec : T (p + i) = zWords.getD (6 * k + i) 0
      · rw [if_pos (by rw [ec]), show nI i + 1 = nI (i + 1) from nI_add i 1]
        refine Or.inl ⟨_, rfl, rfl, by omega, fun _ => e, fun x hx2 => ?_⟩
        by_cases ex : x = i
        · subst ex; exact ec
        · exact hx x (by omega)
      · rw [if_neg (fun q => ec ((nI_eq_iff (by omega) (by omega)).mp q)), if_neg hni]
        exact Or.inr (Or.inr ⟨fun q => ec (q.2 i (by omega)), rfl⟩)
    · rw [if_neg (show ¬ nI (en - p) = nI (zSlen.getD k 0) from fun q => e (by have := (nI_eq_iff (by omega) (by omega)).mp q; omega)), if_neg hni]
      exact Or.inr (Or.inr ⟨fun q => e q.1, rfl⟩)
