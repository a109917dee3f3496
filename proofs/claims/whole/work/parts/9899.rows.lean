/-- rows that never fall, of four places at most -/
def at4 (r : Nat × Nat × Nat × Nat) (i : Nat) : Nat := if i = 0 then r.1 else if i = 1 then r.2.1 else if i = 2 then r.2.2.1 else r.2.2.2
def q4 (f : Nat → Nat) : Nat × Nat × Nat × Nat := (f 0, f 1, f 2, f 3)
theorem at4_q4 (f : Nat → Nat) {i : Nat} (h : i < 4) : at4 (q4 f) i = f i := by
  rcases (show i = 0 ∨ i = 1 ∨ i = 2 ∨ i = 3 by omega) with rfl | rfl | rfl | rfl <;> rfl
def pS (m : Nat) (r : Nat × Nat × Nat × Nat) : Nat → Nat
  | 0 => 0
  | k + 1 => if at4 r k + 1 < m then k + 1 else pS m r k
def nx (m sz : Nat) (r : Nat × Nat × Nat × Nat) : Nat × Nat × Nat × Nat := q4 (fun i => if i < pS m r sz - 1 then at4 r i else at4 r (pS m r sz - 1) + 1)
def en (m sz : Nat) : Nat → Nat × Nat × Nat × Nat → Bool
  | 0, _ => false
  | n + 1, r => if pS m r sz = 0 then true else en m sz n (nx m sz r)
theorem pS_le (m : Nat) (r : Nat × Nat × Nat × Nat) : ∀ k, pS m r k ≤ k := by
  intro k
  induction k with
  | zero => exact Nat.le_refl _
  | succ k ih =>
    show (if at4 r k + 1 < m then k + 1 else pS m r k) ≤ k + 1
    split
    · exact Nat.le_refl _
    · exact Nat.le_succ_of_le ih
theorem pS_pos {m : Nat} {r : Nat × Nat × Nat × Nat} : ∀ k, pS m r k ≠ 0 → at4 r (pS m r k - 1) + 1 < m := by
  intro k
  induction k with
  | zero => exact fun h => absurd rfl h
  | succ k ih =>
    intro h
    have e : pS m r (k + 1) = if at4 r k + 1 < m then k + 1 else pS m r k := rfl
    by_cases hc : at4 r k + 1 < m
    · rw [if_pos hc] at e; rw [e]; exact hc
    · rw [if_neg hc] at e; rw [e] at h ⊢; exact ih h
theorem nx_lt {m sz : Nat} {r : Nat × Nat × Nat × Nat} (h4 : sz ≤ 4) (hr : ∀ i, i < sz → at4 r i < m) (hp : pS m r sz ≠ 0) : ∀ i, i < sz → at4 (nx m sz r) i < m := by
  intro i hi
  unfold nx
  rw [at4_q4 _ (by omega)]
  split
  · exact hr i hi
  · exact pS_pos sz hp
def rL (r : Nat × Nat × Nat × Nat) : Nat → List Nat
  | 0 => []
  | k + 1 => at4 r k :: rL r k
theorem rL_len (r : Nat × Nat × Nat × Nat) : ∀ k, (rL r k).length = k := by
  intro k
  induction k with
  | zero => rfl
  | succ k ih => show (rL r k).length + 1 = _; rw [ih]
theorem rL_mem {r : Nat × Nat × Nat × Nat} {m : Nat} : ∀ k, (∀ i, i < k → at4 r i < m) → ∀ s ∈ rL r k, s < m := by
  intro k
  induction k with
  | zero => intro _ s hs; exact absurd hs List.not_mem_nil
  | succ k ih =>
    intro h s hs
    rcases List.mem_cons.mp hs with rfl | hs
    · exact h k (by omega)
    · exact ih (fun i hi => h i (by omega)) s hs
/-- the class goes on -/
def rwC (s : ZS) (sz : Nat) (r : Nat × Nat × Nat × Nat) : Prop := ∀ i, i < sz → s.1 23 i = nI (at4 r i)
def rwM (t : ZS) (sz : Nat) (r : Nat × Nat × Nat × Nat) : Prop := ∀ i, i < sz → t.1 12 i = nI (at4 r i)
theorem goOn_C {s : ZS} {m sz : Nat} {r : Nat × Nat × Nat × Nat} (hm : s.1 1 0 = nI m) (hm8 : m ≤ 8) (h4 : sz ≤ 4) (hr : ∀ i, i < sz → at4 r i < m) (h : rwC s sz r) : (pS m r sz = 0 ∧ fX5_goOn (nI sz) s = some (0, s)) ∨ (pS m r sz ≠ 0 ∧ ∃ s2, fX5_goOn (nI sz) s = some (1, s2) ∧ (∀ c, c ≠ 23 → s2.1 c = s.1 c) ∧ s2.2 = s.2 ∧ rwC s2 sz (nx m sz r)) := by
  unfold fX5_goOn
  rw [if_neg (show ¬ (4 : Int32) < nI sz from fun q => absurd ((nI_lt_iff (a := 4) (by omega) (by omega)).mp q) (by omega))]
  unfold fX5_goOn_12 fX5_goOn_12n
  refine zloop_rule (fun j st => st = (nI sz, nI (sz - j) - nI 1, s) ∧ j ≤ sz ∧ pS m r sz = pS m r (sz - j)) 4 (fun o => (pS m r sz = 0 ∧ o = some (0, s)) ∨ (pS m r sz ≠ 0 ∧ ∃ s2, o = some (1, s2) ∧ (∀ c, c ≠ 23 → s2.1 c = s.1 c) ∧ s2.2 = s.2 ∧ rwC s2 sz (nx m sz r))) (fun i s h => by have := h.2.1; omega) ?_ zN 0 _ ⟨rfl, Nat.zero_le _, rfl⟩ (by unfold zN; omega)
  rintro f j st ⟨rfl, hj, hp⟩
  unfold fX5_goOn_12b fX5_goOn_40
  dsimp only
  by_cases e : j = sz
  · rw [show sz - j = 0 by omega] at hp ⊢
    rw [if_pos (show nI 0 - nI 1 < (0 : Int32) by decide), if_neg (show ¬ (0 : Int32) ≤ nI 0 - nI 1 by decide)]
    exact Or.inr (Or.inl ⟨hp, rfl⟩)
  · obtain ⟨k, hk⟩ : ∃ k, sz - j = k + 1 := ⟨sz - j - 1, by omega⟩
    have hrk := hr k (by omega)
    rw [hk] at hp ⊢
    have ep : pS m r (k + 1) = if at4 r k + 1 < m then k + 1 else pS m r k := rfl
    rw [nI_sub (by omega), Nat.add_sub_cancel, if_neg (show ¬ nI k < (0 : Int32) from nI_pos (by omega)), zin_t (show k < 2147483648 by omega) (show k < 4 by omega), zg_tr, nI_cl (show k < 2147483648 by omega), h k (by omega)]
    rw [hm, show (1 : Int32) = nI 1 from rfl, nI_sub (show 1 ≤ m by omega)]
    by_cases hc : at4 r k + 1 < m
    · rw [if_pos (show nI (at4 r k) < nI (m - 1) from (nI_lt_iff (by omega) (by omega)).mpr (by omega)), if_pos (show (0 : Int32) ≤ nI k from nI_le (a := 0) (Nat.zero_le _) (by omega)), zg_tr, nI_add]
      rw [if_pos hc] at ep
      rw [ep] at hp
      refine Or.inr (Or.inr ⟨by omega, ?_⟩)
      unfold fX5_goOn_58 fX5_goOn_58n
      refine zloop_rule (fun i st => ∃ s1 : ZS, st = (nI sz, nI (at4 r k + 1), nI i, s1) ∧ k ≤ i ∧ i ≤ sz ∧ (∀ c, c ≠ 23 → s1.1 c = s.1 c) ∧ s1.2 = s.2 ∧ (∀ x, x < k → s1.1 23 x = nI (at4 r x)) ∧ ∀ x, k ≤ x → x < i → s1.1 23 x = nI (at4 r k + 1)) 4 (fun o => ∃ s2 : ZS, o = some (1, s2) ∧ (∀ c, c ≠ 23 → s2.1 c = s.1 c) ∧ s2.2 = s.2 ∧ rwC s2 sz (nx m sz r)) (fun i s h => by obtain ⟨_, _, _, h, _⟩ := h; omega) ?_ zN k _ ⟨s, rfl, Nat.le_refl _, by omega, fun _ _ => rfl, rfl, fun x hx => h x (by omega), fun x h1 h2 => absurd h1 (by omega)⟩ (by unfold zN; omega)
      rintro f i st ⟨s1, rfl, hki, hi, c1, c2, c3, c4⟩
      unfold fX5_goOn_58b
      dsimp only
      by_cases ei : i = sz
      · rw [if_pos (show nI sz ≤ nI i by rw [ei]; exact Int32.le_refl _)]
        refine Or.inr ⟨s1, rfl, c1, c2, fun x hx => ?_⟩
        unfold nx
        rw [at4_q4 _ (by omega), hp, Nat.add_sub_cancel]
        by_cases hxk : x < k
        · rw [if_pos hxk]; exact c3 x hxk
        · rw [if_neg hxk]; exact c4 x (by omega) (by omega)
      · rw [if_neg (show ¬ nI sz ≤ nI i from nI_ge (by omega) (by omega)), if_neg (show ¬ (4 : Int32) ≤ nI i from nI_ge (b := 4) (by omega) (by omega)), zin_t (show i < 2147483648 by omega) (show i < 4 by omega), zg_tr, nI_cl (show i < 2147483648 by omega), show nI i + 1 = nI (i + 1) from nI_add i 1]
        refine Or.inl ⟨_, rfl, _, rfl, by omega, by omega, fun c hc => by rw [zI_ne _ _ _ hc]; exact c1 c hc, c2, fun x hx => by rw [zI_at, upd_ne _ _ (by omega)]; exact c3 x hx, fun x h1 h2 => ?_⟩
        rw [zI_at]
        by_cases ex : x = i
        · subst ex; rw [upd_at]
        · rw [upd_ne _ _ ex]; exact c4 x h1 (by omega)
    · rw [if_neg (show ¬ nI (at4 r k) < nI (m - 1) from fun q => by have := (nI_lt_iff (by omega) (by omega)).mp q; omega)]
      rw [if_neg hc] at ep
      refine Or.inl ⟨_, rfl, ?_, by omega, by rw [hp, ep]; congr 1; omega⟩
      rw [show sz - (j + 1) = k by omega, Int32.sub_eq_add_neg]
theorem next_M {s : ZS} {m sz : Nat} {r : Nat × Nat × Nat × Nat} (hm : s.1 1 0 = nI m) (hm8 : m ≤ 8) (h4 : sz ≤ 4) (hr : ∀ i, i < sz → at4 r i < m) (h : rwM s sz r) : (pS m r sz = 0 ∧ fX7_next (nI sz) s = some (0, s)) ∨ (pS m r sz ≠ 0 ∧ ∃ s2, fX7_next (nI sz) s = some (1, s2) ∧ (∀ c, c ≠ 12 → s2.1 c = s.1 c) ∧ s2.2 = s.2 ∧ rwM s2 sz (nx m sz r)) := by
  unfold fX7_next
  unfold fX7_next_4 fX7_next_4n
  refine zloop_rule (fun j st => st = (nI sz, nI (sz - j) - nI 1, s) ∧ j ≤ sz ∧ pS m r sz = pS m r (sz - j)) 4 (fun o => (pS m r sz = 0 ∧ o = some (0, s)) ∨ (pS m r sz ≠ 0 ∧ ∃ s2, o = some (1, s2) ∧ (∀ c, c ≠ 12 → s2.1 c = s.1 c) ∧ s2.2 = s.2 ∧ rwM s2 sz (nx m sz r))) (fun i s h => by have := h.2.1; omega) ?_ zN 0 _ ⟨rfl, Nat.zero_le _, rfl⟩ (by unfold zN; omega)
  rintro f j st ⟨rfl, hj, hp⟩
  unfold fX7_next_4b fX7_next_31
  dsimp only
  by_cases e : j = sz
  · rw [show sz - j = 0 by omega] at hp ⊢
    rw [if_pos (show nI 0 - nI 1 < (0 : Int32) by decide), if_neg (show ¬ (0 : Int32) ≤ nI 0 - nI 1 by decide)]
    exact Or.inr (Or.inl ⟨hp, rfl⟩)
  · obtain ⟨k, hk⟩ : ∃ k, sz - j = k + 1 := ⟨sz - j - 1, by omega⟩
    have hrk := hr k (by omega)
    rw [hk] at hp ⊢
    have ep : pS m r (k + 1) = if at4 r k + 1 < m then k + 1 else pS m r k := rfl
    rw [nI_sub (by omega), Nat.add_sub_cancel, if_neg (show ¬ nI k < (0 : Int32) from nI_pos (by omega)), zin_t (show k < 2147483648 by omega) (show k < 4 by omega), zg_tr, nI_cl (show k < 2147483648 by omega), h k (by omega)]
    rw [show zin (0 : Int32) 133 = true from rfl, zg_tr, show ((0 : Int32)).toNatClampNeg = 0 from rfl, hm, show (1 : Int32) = nI 1 from rfl, nI_sub (show 1 ≤ m by omega)]
    by_cases hc : at4 r k + 1 < m
    · rw [if_neg (show ¬ nI (at4 r k) = nI (m - 1) from fun q => by have := (nI_eq_iff (by omega) (by omega)).mp q; omega), if_pos (show (0 : Int32) ≤ nI k from nI_le (a := 0) (Nat.zero_le _) (by omega)), zg_tr, nI_add]
      rw [if_pos hc] at ep
      rw [ep] at hp
      refine Or.inr (Or.inr ⟨by omega, ?_⟩)
      unfold fX7_next_49 fX7_next_49n
      refine zloop_rule (fun i st => ∃ s1 : ZS, st = (nI sz, nI (at4 r k + 1), nI i, s1) ∧ k ≤ i ∧ i ≤ sz ∧ (∀ c, c ≠ 12 → s1.1 c = s.1 c) ∧ s1.2 = s.2 ∧ (∀ x, x < k → s1.1 12 x = nI (at4 r x)) ∧ ∀ x, k ≤ x → x < i → s1.1 12 x = nI (at4 r k + 1)) 4 (fun o => ∃ s2 : ZS, o = some (1, s2) ∧ (∀ c, c ≠ 12 → s2.1 c = s.1 c) ∧ s2.2 = s.2 ∧ rwM s2 sz (nx m sz r)) (fun i s h => by obtain ⟨_, _, _, h, _⟩ := h; omega) ?_ zN k _ ⟨s, rfl, Nat.le_refl _, by omega, fun _ _ => rfl, rfl, fun x hx => h x (by omega), fun x h1 h2 => absurd h1 (by omega)⟩ (by unfold zN; omega)
      rintro f i st ⟨s1, rfl, hki, hi, c1, c2, c3, c4⟩
      unfold fX7_next_49b
      dsimp only
      by_cases ei : i = sz
      · rw [if_pos (show nI sz ≤ nI i by rw [ei]; exact Int32.le_refl _)]
        refine Or.inr ⟨s1, rfl, c1, c2, fun x hx => ?_⟩
        unfold nx
        rw [at4_q4 _ (by omega), hp, Nat.add_sub_cancel]
        by_cases hxk : x < k
        · rw [if_pos hxk]; exact c3 x hxk
        · rw [if_neg hxk]; exact c4 x (by omega) (by omega)
      · rw [if_neg (show ¬ nI sz ≤ nI i from nI_ge (by omega) (by omega)), zin_t (show i < 2147483648 by omega) (show i < 4 by omega), zg_tr, nI_cl (show i < 2147483648 by omega), show nI i + 1 = nI (i + 1) from nI_add i 1]
        refine Or.inl ⟨_, rfl, _, rfl, by omega, by omega, fun c hc => by rw [zI_ne _ _ _ hc]; exact c1 c hc, c2, fun x hx => by rw [zI_at, upd_ne _ _ (by omega)]; exact c3 x hx, fun x h1 h2 => ?_⟩
        rw [zI_at]
        by_cases ex : x = i
        · subst ex; rw [upd_at]
        · rw [upd_ne _ _ ex]; exact c4 x h1 (by omega)
    · rw [if_pos (show nI (at4 r k) = nI (m - 1) by rw [show at4 r k = m - 1 by omega])]
      rw [if_neg hc] at ep
      refine Or.inl ⟨_, rfl, ?_, by omega, by rw [hp, ep]; congr 1; omega⟩
      rw [show sz - (j + 1) = k by omega, Int32.sub_eq_add_neg]
/-- what is tried, and by how much it misses -/
def nM (G : Nat → Nat) (la sz : Nat) (r : Nat × Nat × Nat × Nat) : Nat := nDf (nS G (gLt G) (rL r sz) la 0) (fun e => G (130 + e)) 3
theorem tried_C {σ s : ZS} {G : Nat → Nat} (hI : zInv G) (c : zCs σ s G) {sz : Nat} {r : Nat × Nat × Nat × Nat} (h4 : sz ≤ 4) (hr : ∀ i, i < sz → at4 r i < G 0) (h : rwC s sz r) : ∃ s2, fX5_pileTried (nI sz) s = some ((), s2) ∧ zPl s2 (gLt G) (rL r sz) ∧ fP s s2 := by
  have b0 := hI.1
  obtain ⟨s0, e0, f0, p0⟩ := clear_eq s (gLt G)
  unfold fX5_pileTried
  rw [e0, zb_mk]
  unfold fX5_pileTried_9 fX5_pileTried_9n
  refine zloop_rule (fun i st => ∃ s1 : ZS, st = (nI sz, nI i, s1) ∧ i ≤ sz ∧ zPl s1 (gLt G) (rL r i) ∧ fP s s1) 4 (fun o => ∃ s2 : ZS, o = some ((), s2) ∧ zPl s2 (gLt G) (rL r sz) ∧ fP s s2) (fun i s h => by have := h.choose_spec.2.1; omega) ?_ zN 0 _ ⟨s0, rfl, Nat.zero_le _, p0, f0⟩ (by unfold zN; omega)
  rintro f i st ⟨s1, rfl, hi, ps, fs⟩
  unfold fX5_pileTried_9b
  dsimp only
  by_cases e : i = sz
  · subst e
    rw [if_pos (Int32.le_refl _)]
    exact Or.inr ⟨s1, rfl, ps, fs⟩
  · have hl := rL_len r i
    have c1 := c.fp fs
    rw [if_neg (show ¬ nI sz ≤ nI i from nI_ge (by omega) (by omega)), if_neg (show ¬ (4 : Int32) ≤ nI i from nI_ge (b := 4) (by omega) (by omega)), zin_t (show i < 2147483648 by omega) (show i < 4 by omega), zg_tr, nI_cl (show i < 2147483648 by omega), fs.1 23 (by decide), h i (by omega)]
    obtain ⟨s2, e5, f5, p5⟩ := add_eq b0 (hr i (by omega)) c1.2.2 ps (by omega) (fun b hb => gLt_le hI (hr i (by omega)) hb)
    rw [e5, zb_mk, show nI i + 1 = nI (i + 1) from nI_add i 1]
    exact Or.inl ⟨_, rfl, s2, rfl, by omega, p5, fs.tr f5⟩
theorem wished_C {s : ZS} {G : Nat → Nat} (hS : zScene s.1 1 G) (hI : zInv G) {la sz : Nat} {r : Nat × Nat × Nat × Nat} (hl : la < 3) (h4 : sz ≤ 4) (hr : ∀ i, i < sz → at4 r i < G 0) (hp : zPl s (gLt G) (rL r sz)) : fX5_isWished (nI la) s = some (if nM G la sz r = 0 then 1 else 0, s) := by
  have hlt : ∀ x ∈ rL r sz, ∀ b, b < 5 → gLt G x b ≤ 100 := fun x hx b hb => gLt_le hI (rL_mem sz hr x hx) hb
  have hlen : (rL r sz).length ≤ 8 := by rw [rL_len]; omega
  unfold fX5_isWished fX5_isWished_2 fX5_isWished_2n
  refine zloop_rule (fun i st => st = (nI la, nI i, s) ∧ i ≤ 3 ∧ ∀ e, e < i → nS G (gLt G) (rL r sz) la 0 e = G (130 + e)) 3 (fun o => o = some (if nM G la sz r = 0 then 1 else 0, s)) (fun i s h => h.2.1) ?_ zN 0 _ ⟨rfl, Nat.zero_le _, fun k h => absurd h (Nat.not_lt_zero k)⟩ (by unfold zN; omega)
  rintro f i st ⟨rfl, hi, hk⟩
  unfold fX5_isWished_2b
  dsimp only
  by_cases e : i = 3
  · subst e
    rw [if_pos (show (3 : Int32) ≤ nI 3 from Int32.le_refl _), if_pos (show nM G la sz r = 0 from (nDf_zero 3).mpr hk)]
    exact Or.inr rfl
  · have hle := nS_le hI hlt hl (show i < 3 by omega) (show 0 ≤ 10 by decide) hlen (Or.inl rfl)
    have hw := in_wish hI (show i < 3 by omega)
    rw [if_neg (show ¬ (3 : Int32) ≤ nI i from nI_ge (b := 3) (by omega) (by omega)), show fX0_shadeOf (nI la) 0 (nI i) s = fX0_shadeOf (nI la) (nI 0) (nI i) s from rfl, shade_C hS hI hp hlt hl (show i < 3 by omega) (show 0 ≤ 10 by decide) hlen (Or.inl rfl), zb_mk, zin_t (by omega) (by omega), zg_tr, nI_cl (by omega), sc_wish hS (show i < 3 by omega)]
    show (∃ s', (if nI (nS G (gLt G) (rL r sz) la 0 i) = nI (G (130 + i)) then _ else _) = f s' ∧ _) ∨ (if nI (nS G (gLt G) (rL r sz) la 0 i) = nI (G (130 + i)) then _ else _) = _
    by_cases h0 : nS G (gLt G) (rL r sz) la 0 i = G (130 + i)
    · rw [if_pos (congrArg nI h0), show nI i + 1 = nI (i + 1) from nI_add i 1]
      refine Or.inl ⟨_, rfl, rfl, by omega, fun k hk2 => ?_⟩
      by_cases ek : k = i
      · subst ek; exact h0
      · exact hk k (by omega)
    · rw [if_neg (fun q => h0 ((nI_eq_iff (by omega) (by omega)).mp q)), if_neg (show ¬ nM G la sz r = 0 from fun q => h0 ((nDf_zero 3).mp q i (by omega)))]
      exact Or.inr rfl
theorem miss_C {s : ZS} {G : Nat → Nat} (hS : zScene s.1 1 G) (hI : zInv G) {la sz : Nat} {r : Nat × Nat × Nat × Nat} (hl : la < 3) (h4 : sz ≤ 4) (hr : ∀ i, i < sz → at4 r i < G 0) (hp : zPl s (gLt G) (rL r sz)) : ∃ s2, fX5_missOf (nI la) s = some (nI (nM G la sz r), s2) ∧ s2.2 = s.2 ∧ ∀ c, c ≠ 25 → s2.1 c = s.1 c := by
  have hlt : ∀ x ∈ rL r sz, ∀ b, b < 5 → gLt G x b ≤ 100 := fun x hx b hb => gLt_le hI (rL_mem sz hr x hx) hb
  have hlen : (rL r sz).length ≤ 8 := by rw [rL_len]; omega
  obtain ⟨s2, e2, f1, f2, v2⟩ := shades_25 hS hI hp hlt hl (show 0 ≤ 10 by decide) hlen (Or.inl rfl)
  have hS2 : zScene s2.1 1 G := hS.fr (fun k hk => f2 _ (by omega))
  refine ⟨s2, ?_, f1, f2⟩
  unfold fX5_missOf
  rw [show fX0_shadesInto_19_25 (nI la) 0 s = fX0_shadesInto_19_25 (nI la) (nI 0) s from rfl, e2, zb_mk, diff_25 (a := nS G (gLt G) (rL r sz) la 0) (b := fun e => G (130 + e)) (fun e he => ⟨v2 e he, by have := nS_le hI hlt hl he (show 0 ≤ 10 by decide) hlen (Or.inl rfl); omega⟩) (fun e he => ⟨sc_wish hS2 he, by have := in_wish hI he; omega⟩), zb_mk]
  rfl
theorem nM_le {G : Nat → Nat} (hI : zInv G) {la sz : Nat} {r : Nat × Nat × Nat × Nat} (hl : la < 3) (h4 : sz ≤ 4) (hr : ∀ i, i < sz → at4 r i < G 0) : nM G la sz r ≤ 30000 := by
  have hlt : ∀ x ∈ rL r sz, ∀ b, b < 5 → gLt G x b ≤ 100 := fun x hx b hb => gLt_le hI (rL_mem sz hr x hx) hb
  have hlen : (rL r sz).length ≤ 8 := by rw [rL_len]; omega
  have := nDf_le (a := nS G (gLt G) (rL r sz) la 0) (b := fun e => G (130 + e)) (m := 10000) 3 (fun e he => ⟨by have := nS_le hI hlt hl he (show 0 ≤ 10 by decide) hlen (Or.inl rfl); omega, by have := in_wish hI he; omega⟩)
  exact this
set_option maxHeartbeats 1000000 in
theorem apart_M {τ t : ZS} {G : Nat → Nat} (hI : zInv G) (c : zMs τ t G) {la sz : Nat} {r : Nat × Nat × Nat × Nat} (hl : la < 3) (h4 : sz ≤ 4) (hr : ∀ i, i < sz → at4 r i < G 0) (h : rwM t sz r) : ∃ t2, fX7_apart (nI sz) (nI la) t = some (nI (nM G la sz r), t2) ∧ ∀ c, c ≠ 4 → t2.1 c = t.1 c := by
  have b0 := hI.1
  have hlt : ∀ x ∈ rL r sz, ∀ b, b < 5 → gLt G x b ≤ 100 := fun x hx b hb => gLt_le hI (rL_mem sz hr x hx) hb
  have hlen : (rL r sz).length ≤ 8 := by rw [rL_len]; omega
  obtain ⟨t0, e0, f0, p0⟩ := begins_eq t (gLt G)
  unfold fX7_apart
  rw [e0, zb_mk]
  unfold fX7_apart_6 fX7_apart_6n
  refine zloop_rule (fun i st => ∃ s1 : ZS, st = (nI sz, nI la, nI i, s1) ∧ i ≤ sz ∧ zPM s1 (gLt G) (rL r i) ∧ fPM t s1) 4 (fun o => ∃ t2 : ZS, o = some (nI (nM G la sz r), t2) ∧ ∀ c, c ≠ 4 → t2.1 c = t.1 c) (fun i s h => by have := h.choose_spec.2.1; omega) ?_ zN 0 _ ⟨t0, rfl, Nat.zero_le _, p0, f0⟩ (by unfold zN; omega)
  rintro f i st ⟨s1, rfl, hi, ps, fs⟩
  unfold fX7_apart_6b
  dsimp only
  have hr1 : zRow (s1.1 1) G := by rw [fs.1]; exact c.2
  by_cases e : i = sz
  · subst e
    obtain ⟨s2, e2, f1, f2, v2⟩ := shades_M hr1 hI ps hlt hl (show 0 ≤ 10 by decide) hlen (Or.inl rfl) rfl
    have hw : ∀ e, e < 3 → s2.1 1 (130 + e) = nI (G (130 + e)) := fun e he => by rw [f2 1 (by decide)]; exact hr1 _ (by omega)
    have b2 : ∀ e, e < 3 → nS G (gLt G) (rL r i) la 0 e ≤ 100000 := fun e he => by have := nS_le hI hlt hl he (show 0 ≤ 10 by decide) hlen (Or.inl rfl); omega
    have b3 : ∀ e, e < 3 → G (130 + e) ≤ 100000 := fun e he => by have := in_wish hI he; omega
    rw [if_pos (Int32.le_refl _), e2, zb_mk, show zin (0 : Int32) 3 = true from rfl, zg_tr, show zin (130 : Int32) 133 = true from rfl, zg_tr, show ((0 : Int32)).toNatClampNeg = 0 from rfl, show ((130 : Int32)).toNatClampNeg = 130 + 0 from rfl, v2 0 (by decide), hw 0 (by decide), apart_eq (b2 0 (by decide)) (b3 0 (by decide)), zb_mk, show zin (1 : Int32) 3 = true from rfl, zg_tr, show zin (131 : Int32) 133 = true from rfl, zg_tr, show ((1 : Int32)).toNatClampNeg = 1 from rfl, show ((131 : Int32)).toNatClampNeg = 130 + 1 from rfl, v2 1 (by decide), hw 1 (by decide), apart_eq (b2 1 (by decide)) (b3 1 (by decide)), zb_mk, show zin (2 : Int32) 3 = true from rfl, zg_tr, show zin (132 : Int32) 133 = true from rfl, zg_tr, show ((2 : Int32)).toNatClampNeg = 2 from rfl, show ((132 : Int32)).toNatClampNeg = 130 + 2 from rfl, v2 2 (by decide), hw 2 (by decide), apart_eq (b2 2 (by decide)) (b3 2 (by decide)), zb_mk, nI_add, nI_add]
    refine Or.inr ⟨s2, ?_, fun c hc => by rw [f2 c hc, fs.1]⟩
    show _ = some (nI (0 + _ + _ + _), s2)
    rw [Nat.zero_add]
  · rw [if_neg (show ¬ nI sz ≤ nI i from nI_ge (by omega) (by omega)), zin_t (show i < 2147483648 by omega) (show i < 4 by omega), zg_tr, nI_cl (show i < 2147483648 by omega), fs.1, h i (by omega)]
    obtain ⟨s2, e5, f5, p5⟩ := lays_eq hr1 hI (show at4 r i < 8 by have := hr i (by omega); omega) ps
    rw [e5, zb_mk, show nI i + 1 = nI (i + 1) from nI_add i 1]
    exact Or.inl ⟨_, rfl, s2, rfl, by omega, p5, fs.tr f5⟩
theorem en_ok : ∀ m, m < 9 → ∀ sz, sz < 5 → (m = 0 → sz = 0) → en m sz 330 (0, 0, 0, 0) = true := by decide +kernel
