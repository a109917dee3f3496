/-- what does not hang on one place -/
theorem mx5_cg {G G' : Nat → Nat} {x : Nat} (h : ∀ k, k < 5 → G' (4 + 7 * x + k) = G (4 + 7 * x + k)) : ∀ k, k ≤ 5 → mx5 G' x k = mx5 G x k := by
  intro k
  induction k with
  | zero => exact fun _ => rfl
  | succ k ih =>
    intro hk
    show (if mx5 G' x k < G' (4 + 7 * x + k) then G' (4 + 7 * x + k) else mx5 G' x k) = (if mx5 G x k < G (4 + 7 * x + k) then G (4 + 7 * x + k) else mx5 G x k)
    rw [ih (by omega), h k (by omega)]
theorem nLet_cg {G G' : Nat → Nat} {x : Nat} (h : ∀ k, k < 5 → G' (4 + 7 * x + k) = G (4 + 7 * x + k)) {kd fg b : Nat} (hb : b < 5) : nLet G' x kd fg b = nLet G x kd fg b := by
  unfold nLet
  rw [h b hb, mx5_cg h 5 (Nat.le_refl _)]
theorem nPile_cg {G G' : Nat → Nat} (h : ∀ i, 58 ≤ i → G' i = G i) (t sk : Nat) : ∀ k, nPile G' t sk k = nPile G t sk k := by
  intro k
  induction k with
  | zero => rfl
  | succ k ih =>
    show (if k = sk then nPile G' t sk k else G' (59 + 7 * t + k) :: nPile G' t sk k) = (if k = sk then nPile G t sk k else G (59 + 7 * t + k) :: nPile G t sk k)
    rw [ih, h (59 + 7 * t + k) (by omega)]
theorem nCo_cg {lt lt' : Nat → Nat → Nat} {b : Nat} : ∀ {l : List Nat}, (∀ s ∈ l, lt' s b = lt s b) → nCo lt' l b = nCo lt l b := by
  intro l
  induction l with
  | nil => exact fun _ => rfl
  | cons s l ih =>
    intro h
    show nCo lt' l b * lt' s b = nCo lt l b * lt s b
    rw [ih (fun x hx => h x (List.mem_cons_of_mem _ hx)), h s List.mem_cons_self]
theorem nSe_cg {G G' : Nat → Nat} {co co' : Nat → Nat} (h : ∀ i, 100 ≤ i → G' i = G i) (hc : ∀ b, b < 5 → co' b = co b) (la n e : Nat) : ∀ b, b ≤ 5 → nSe G' co' la n e b = nSe G co la n e b := by
  intro b
  induction b with
  | zero => exact fun _ => rfl
  | succ b ih =>
    intro hb
    show nSe G' co' la n e b + co' b * (G' (100 + (5 * la + b)) * G' (115 + (5 * e + b)) * nBy n b) = nSe G co la n e b + co b * (G (100 + (5 * la + b)) * G (115 + (5 * e + b)) * nBy n b)
    rw [ih (by omega), hc b (by omega), h _ (by omega), h _ (by omega)]
theorem nS_cg {G G' : Nat → Nat} {lt lt' : Nat → Nat → Nat} {l : List Nat} (h : ∀ i, 100 ≤ i → G' i = G i) (hlt : ∀ s ∈ l, ∀ b, b < 5 → lt' s b = lt s b) (la n e : Nat) : nS G' lt' l la n e = nS G lt l la n e := by
  unfold nS nSh
  rw [nSe_cg h (fun b hb => nCo_cg (fun s hs => hlt s hs b hb)) la n e 5 (Nat.le_refl _)]
/-- a row of three is another -/
def nEq (v w : Nat → Int32) : Int32 := if v 0 = w 0 then (if v 1 = w 1 then (if v 2 = w 2 then 1 else 0) else 0) else 0
theorem nEq_t {a b : Nat → Int32} (h : ∀ e, e < 3 → a e = b e) : nEq a b = 1 := by
  unfold nEq
  rw [if_pos (h 0 (by decide)), if_pos (h 1 (by decide)), if_pos (h 2 (by decide))]
theorem nEq_f {a b : Nat → Int32} {e : Nat} (he : e < 3) (h : ¬ a e = b e) : nEq a b = 0 := by
  unfold nEq
  rcases (show e = 0 ∨ e = 1 ∨ e = 2 by omega) with rfl | rfl | rfl
  · rw [if_neg h]
  · by_cases g0 : a 0 = b 0
    · rw [if_pos g0, if_neg h]
    · rw [if_neg g0]
  · by_cases g0 : a 0 = b 0
    · rw [if_pos g0]
      by_cases g1 : a 1 = b 1
      · rw [if_pos g1, if_neg h]
      · rw [if_neg g1]
    · rw [if_neg g0]
theorem nEq_cg {a b b' : Nat → Int32} (h : ∀ e, e < 3 → b e = b' e) : nEq a b = nEq a b' := by
  unfold nEq
  simp only [h 0 (by decide), h 1 (by decide), h 2 (by decide)]
theorem tells_C {s1 : ZS} {G : Nat → Nat} {lt : Nat → Nat → Nat} {pi : List Nat} (h : zScene s1.1 1 G) (hI : zInv G) (hp : zPl s1 lt pi) (hlt : ∀ s ∈ pi, ∀ b, b < 5 → lt s b ≤ 100) (hlen : pi.length ≤ 8) {la l n : Nat} (hl : la < 3) (h4 : l < 4) (hn : n ≤ 18) (h3 : 3 ≤ n) (e1 : s1.1 36 l = nI n) : fX6_listTellsShades (nI l) (nI la) s1 = some (nEq (fun e => nI (nS G lt pi la 0 e)) (fun e => s1.1 35 (18 * l + e)), s1) := by
  unfold fX6_listTellsShades fX6_listTellsShades_2 fX6_listTellsShades_2n
  refine zloop_rule (fun i st => st = (nI l, nI la, nI i, s1) ∧ i ≤ 3 ∧ ∀ e, e < i → nI (nS G lt pi la 0 e) = s1.1 35 (18 * l + e)) 3 (fun o => o = some (nEq (fun e => nI (nS G lt pi la 0 e)) (fun e => s1.1 35 (18 * l + e)), s1)) (fun i s h => h.2.1) ?_ zN 0 _ ⟨rfl, Nat.zero_le _, fun k h => absurd h (Nat.not_lt_zero k)⟩ (by unfold zN; omega)
  rintro f i st ⟨rfl, hi, hk⟩
  unfold fX6_listTellsShades_2b
  dsimp only
  by_cases e : i = 3
  · subst e
    rw [if_pos (show (3 : Int32) ≤ nI 3 from Int32.le_refl _), nEq_t hk]
    exact Or.inr rfl
  · rw [if_neg (show ¬ (3 : Int32) ≤ nI i from nI_ge (b := 3) (by omega) (by omega)), show fX0_shadeOf (nI la) 0 (nI i) s1 = fX0_shadeOf (nI la) (nI 0) (nI i) s1 from rfl, shade_C h hI hp hlt hl (show i < 3 by omega) (show 0 ≤ 10 by decide) hlen (Or.inl rfl), zb_mk, value_n h4 hn e1 (by omega), zb_mk]
    show (∃ s', (if nI (nS G lt pi la 0 i) = s1.1 35 (18 * l + i) then _ else _) = f s' ∧ _) ∨ (if nI (nS G lt pi la 0 i) = s1.1 35 (18 * l + i) then _ else _) = _
    by_cases h0 : nI (nS G lt pi la 0 i) = s1.1 35 (18 * l + i)
    · rw [if_pos h0, show nI i + 1 = nI (i + 1) from nI_add i 1]
      refine Or.inl ⟨_, rfl, rfl, by omega, fun k hk2 => ?_⟩
      by_cases ek : k = i
      · subst ek; exact h0
      · exact hk k (by omega)
    · rw [if_neg h0, nEq_f (a := fun e => nI (nS G lt pi la 0 e)) (b := fun e => s1.1 35 (18 * l + e)) (show i < 3 by omega) h0]
      exact Or.inr rfl
theorem told_M {t1 : ZS} {G : Nat → Nat} (h : zRow (t1.1 1) G) (hI : zInv G) {t la l : Nat} (ht : t < G 1) (hl : la < 3) (h4 : l < 4) : ∃ t2, fX7_isTold (nI t) (nI la) (nI l) t1 = some (nEq (fun e => nI (nS G (gLt G) (sPl G t) la 0 e)) (fun e => t1.1 15 (18 * l + e)), t2) ∧ ∀ c, c ≠ 4 → t2.1 c = t1.1 c := by
  have hlen : (sPl G t).length ≤ 6 := pile_len hI ht 99
  have hlt := pile_lt hI ht 99
  obtain ⟨τ2, e, f, p⟩ := shines_eq h hI ht
  obtain ⟨τ3, e5, g1, g2, w2⟩ := shades_M (l := sPl G t) (by rw [f.1]; exact h) hI p hlt hl (show 0 ≤ 10 by decide) (by omega) (Or.inl rfl) rfl
  have hc : ∀ c, c ≠ 4 → τ3.1 c = t1.1 c := fun c hc => by rw [g2 c hc, f.1]
  refine ⟨τ3, ?_, hc⟩
  unfold fX7_isTold
  rw [e, zb_mk, e5, zb_mk]
  unfold fX7_isTold_13 fX7_isTold_13n
  refine zloop_rule (fun i st => st = (nI l, nI i, τ3) ∧ i ≤ 3 ∧ ∀ e, e < i → nI (nS G (gLt G) (sPl G t) la 0 e) = t1.1 15 (18 * l + e)) 3 (fun o => o = some (nEq (fun e => nI (nS G (gLt G) (sPl G t) la 0 e)) (fun e => t1.1 15 (18 * l + e)), τ3)) (fun i s h => h.2.1) ?_ zN 0 _ ⟨rfl, Nat.zero_le _, fun k h => absurd h (Nat.not_lt_zero k)⟩ (by unfold zN; omega)
  rintro f i st ⟨rfl, hi, hk⟩
  unfold fX7_isTold_13b
  dsimp only
  by_cases e : i = 3
  · subst e
    rw [if_pos (show (3 : Int32) ≤ nI 3 from Int32.le_refl _), nEq_t hk]
    exact Or.inr rfl
  · rw [if_neg (show ¬ (3 : Int32) ≤ nI i from nI_ge (b := 3) (by omega) (by omega)), zin_t (by omega) (by omega), zg_tr, show (18 : Int32) = nI 18 from rfl, nI_mul, nI_add, zin_t (by omega) (by omega), zg_tr, nI_cl (by omega), nI_cl (by omega), w2 i (by omega), hc 15 (by decide)]
    by_cases h0 : nI (nS G (gLt G) (sPl G t) la 0 i) = t1.1 15 (18 * l + i)
    · rw [if_pos h0, show nI i + 1 = nI (i + 1) from nI_add i 1]
      refine Or.inl ⟨_, rfl, rfl, by omega, fun k hk2 => ?_⟩
      by_cases ek : k = i
      · subst ek; exact h0
      · exact hk k (by omega)
    · rw [if_neg h0, nEq_f (a := fun e => nI (nS G (gLt G) (sPl G t) la 0 e)) (b := fun e => t1.1 15 (18 * l + e)) (show i < 3 by omega) h0]
      exact Or.inr rfl
/-- what a sheet was -/
def wLt (G : Nat → Nat) (s kd fg x b : Nat) : Nat := if x = s then nLet G s kd fg b else gLt G x b
theorem wLt_le {G : Nat → Nat} (hI : zInv G) {s kd fg : Nat} (hs : s < G 0) (hf : fg ≤ 9) : ∀ x b, x < G 0 → b < 5 → wLt G s kd fg x b ≤ 100 := by
  intro x b hx hb
  unfold wLt
  split
  · exact nLet_le hI (by have := hI.1; omega) hf hb
  · exact gLt_le hI hx hb
/-- the class while it asks what a sheet was -/
def zWs (σ s1 : ZS) (G : Nat → Nat) (s : Nat) : Prop := zFC σ s1 ∧ zScene s1.1 1 G ∧ ∀ x b, x < G 0 → x ≠ s → b < 5 → s1.1 20 (5 * x + b) = nI (gLt G x b)
def zWm (τ t1 : ZS) (Q : Nat) : Prop := (∀ c, c = 2 ∨ c = 6 ∨ c = 9 ∨ c = 10 ∨ c = 14 ∨ c = 15 ∨ c = 16 → t1.1 c = τ.1 c) ∧ (t1.1 0 2 = τ.1 0 2 ∧ t1.1 0 8 = τ.1 0 8 ∧ t1.1 0 23 = τ.1 0 23) ∧ ∀ k, k ≠ Q → t1.1 1 k = τ.1 1 k
def wR (G : Nat → Nat) (τ : ZS) (s t la l kd fg : Nat) : Int32 := nEq (fun e => nI (nS G (wLt G s kd fg) (sPl G t) la 0 e)) (fun e => τ.1 15 (18 * l + e))
theorem was158 {σ τ s1 : ZS} {G : Nat → Nat} (hI : zInv G) {s t la l n kd fg : Nat} (c : zWs σ s1 G s) (hs : s < G 0) (ht : t < G 1) (hl : la < 3) (h4 : l < 4) (hn : n ≤ 18) (h3 : 3 ≤ n) (e1 : σ.1 36 l = nI n) (ev : ∀ i, i < n → σ.1 35 (18 * l + i) = τ.1 15 (18 * l + i)) (hk : kd ≤ 5) (hf : fg ≤ 9) (k111 : Int32 → Int32 → Int32 → Int32 → Int32 → Int32 → Int32 → Int32 → ZS → Option (Int32 × ZS)) (x5 x6 x7 x8 : Int32) : ∃ s2, fX6_was_158 k111 (nI s) (nI t) (nI la) (nI l) x5 x6 x7 x8 (nI kd) (nI fg) s1 = k111 (nI s) (nI t) (nI la) (nI l) x5 (if wR G τ s t la l kd fg = 0 then x6 else x6 ||| ((1 : Int32) <<< (x8 &&& 31))) x7 (x8 + 1) s2 ∧ zWs σ s2 G s := by
  obtain ⟨a, b, d⟩ := c
  have hlen : (sPl G t).length ≤ 6 := pile_len hI ht 99
  obtain ⟨s2, e2, f2, g2, v2, w2⟩ := lookAs_eq b hI hs hk hf
  have b2 : zScene s2.1 1 G := b.fr (fun k hk => f2 _ (by omega))
  have k2 : zLk s2 (G 0) (wLt G s kd fg) := by
    intro x y hx hy
    unfold wLt
    by_cases e : x = s
    · subst e; rw [if_pos rfl]; exact v2 y hy
    · rw [if_neg e, w2 (5 * x + y) (by omega)]; exact d x y hx e hy
  obtain ⟨s3, e3, f3, p3⟩ := pile_eq b2 hI k2 (wLt_le hI hs hf) ht
  have b3 : zScene s3.1 1 G := b2.fr (fun k hk => f3.1 _ (by omega))
  have hlt : ∀ x ∈ sPl G t, ∀ b, b < 5 → wLt G s kd fg x b ≤ 100 := fun x hx b hb => wLt_le hI hs hf x b (nPile_mem hI ht 99 _ (Nat.le_refl _) x hx) hb
  have fc : zFC σ s3 := fun k hk => by rw [f3.1 k (by omega), f2 k (by omega)]; exact a k hk
  have et := tells_C (pi := sPl G t) b3 hI p3 hlt (show (sPl G t).length ≤ 8 by omega) hl h4 hn h3 (by rw [fc 36 (by omega)]; exact e1)
  have eR : nEq (fun e => nI (nS G (wLt G s kd fg) (sPl G t) la 0 e)) (fun e => s3.1 35 (18 * l + e)) = wR G τ s t la l kd fg := by
    unfold wR
    exact nEq_cg (fun e he => by rw [fc 35 (by omega)]; exact ev e (by omega))
  refine ⟨s3, ?_, fc, b3, fun x y hx hxs hy => by rw [f3.1 20 (by decide), w2 (5 * x + y) (by omega)]; exact d x y hx hxs hy⟩
  unfold fX6_was_158 fX6_was_199
  rw [e2, zb_mk, e3, zb_mk, show fX6_listTellsShades (nI l) (nI la) s3 = _ from et, zb_mk, eR]
  by_cases h0 : wR G τ s t la l kd fg = 0
  · rw [if_pos h0, if_pos h0]
  · rw [if_neg h0, if_neg h0]
theorem was111 {σ τ t1 : ZS} {G : Nat → Nat} (hg : zRg σ τ G) {s t la l v w : Nat} (hs : s < G 0) (ht : t < G 1) (hl : la < 3) (h4 : l < 4) (hw : w < 2) (hv : v ≤ bd w) (c : zWm τ t1 (2 + 7 * s + w)) : ∃ t2, fX7_isTold (nI t) (nI la) (nI l) (zI t1 1 (2 + 7 * s + w) (nI v)) = some (wR G τ s t la l (if w = 0 then v else G (2 + 7 * s)) (if w = 0 then G (3 + 7 * s) else v), t2) ∧ zWm τ t2 (2 + 7 * s + w) := by
  have hI := hg.2.2
  have b0 := hI.1
  have b1 := hI.2.1
  have eP : pl w s = 2 + 7 * s + w := by
    rcases (show w = 0 ∨ w = 1 by omega) with rfl | rfl
    · rfl
    · show 3 + 7 * s = _; omega
  have hn := zRg_put hg (q := w) (a := s) (v := v) (by omega) (by omega) (by omega) (show s < ln w by rcases (show w = 0 ∨ w = 1 by omega) with rfl | rfl <;> exact Nat.lt_of_lt_of_le hs b0) hv
  rw [eP] at hn
  have hI2 := hn.2.2
  have hrow : zRow ((zI t1 1 (2 + 7 * s + w) (nI v)).1 1) (zG G (2 + 7 * s + w) v) := by
    intro i hi
    rw [zI_at]
    by_cases e : i = 2 + 7 * s + w
    · subst e; rw [upd_at, zG_at]
    · rw [upd_ne _ _ e, zG_ne _ _ e, c.2.2 i e]; exact hg.2.1 i hi
  have ht2 : t < zG G (2 + 7 * s + w) v 1 := by rw [zG_ne _ _ (by omega)]; exact ht
  obtain ⟨t2, e2, f2⟩ := told_M hrow hI2 ht2 hl h4
  refine ⟨t2, ?_, fun k hk => by rw [f2 k (by omega), zI_ne _ _ _ (by omega)]; exact c.1 k hk, ?_, fun k hk => ?_⟩
  · rw [e2]
    have hp : sPl (zG G (2 + 7 * s + w) v) t = sPl G t := by
      unfold sPl
      rw [zG_ne G (i := 58 + 7 * t) v (by omega)]
      exact nPile_cg (fun i hi => zG_ne G v (by omega)) t 99 _
    have hq : ∀ e, nS (zG G (2 + 7 * s + w) v) (gLt (zG G (2 + 7 * s + w) v)) (sPl G t) la 0 e = nS G (wLt G s (if w = 0 then v else G (2 + 7 * s)) (if w = 0 then G (3 + 7 * s) else v)) (sPl G t) la 0 e := by
      intro e
      refine nS_cg (fun i hi => zG_ne G v (by omega)) (fun x hx b hb => ?_) la 0 e
      have hx8 : x < G 0 := nPile_mem hI ht 99 _ (Nat.le_refl _) x hx
      have hnum : ∀ k, k < 5 → zG G (2 + 7 * s + w) v (4 + 7 * x + k) = G (4 + 7 * x + k) := fun k hk => zG_ne G v (by omega)
      unfold wLt gLt
      rw [nLet_cg hnum hb]
      by_cases exs : x = s
      · subst exs
        rw [if_pos rfl]
        rcases (show w = 0 ∨ w = 1 by omega) with rfl | rfl
        · rw [if_pos rfl, if_pos rfl, show zG G (2 + 7 * x + 0) v (2 + 7 * x) = v from zG_at _ _ _, zG_ne G (i := 3 + 7 * x) v (by omega)]
        · rw [if_neg (by decide), if_neg (by decide), zG_ne G (i := 2 + 7 * x) v (by omega), show 3 + 7 * x = 2 + 7 * x + 1 by omega, zG_at]
      · rw [if_neg exs, zG_ne G (i := 2 + 7 * x) v (by omega), zG_ne G (i := 3 + 7 * x) v (by omega)]
    unfold wR
    rw [hp]
    congr 2
    congr 1
    · funext e; rw [hq e]
    · funext e; rw [zI_ne _ _ _ (show 15 ≠ 1 by decide), c.1 15 (by omega)]
  · rw [f2 0 (by decide), zI_ne _ _ _ (show 0 ≠ 1 by decide)]; exact c.2.1
  · rw [f2 1 (by decide), zI_at, upd_ne _ _ hk]; exact c.2.2 k hk
set_option maxHeartbeats 1000000 in
theorem was_both {σ τ σ1 : ZS} {G : Nat → Nat} (hg : zRg σ τ G) (c : zCs σ σ1 G) {s t la l n w N : Nat} (hs : s < G 0) (ht : t < G 1) (hl : la < 3) (h4 : l < 4) (hn : n ≤ 18) (h3 : 3 ≤ n) (e1 : σ.1 36 l = nI n) (ev : ∀ i, i < n → σ.1 35 (18 * l + i) = τ.1 15 (18 * l + i)) (hw : w < 2) (hN : N = if w = 0 then 6 else 10) : ∃ (r : Int32) (σ2 τ2 : ZS), fX6_was_111 (nI s) (nI t) (nI la) (nI l) (nI w) 0 (nI N) 0 σ1 = some (r, σ2) ∧ fX7_was_97 (nI t) (nI la) (nI l) (nI w) (nI (2 + 7 * s + w)) (nI (G (2 + 7 * s + w))) 0 0 τ = some (r, τ2) ∧ zFC σ σ2 ∧ zFM τ τ2 := by
  have hI := hg.2.2
  have b0 := hI.1
  have b1 := hI.2.1
  have hN2 : N ≤ 10 := by rw [hN]; split <;> omega
  unfold fX6_was_111 fX6_was_111n fX7_was_97 fX7_was_97n
  refine zloop2 (fun k st st' => ∃ (bits : Int32) (s1 t1 : ZS), st = (nI s, nI t, nI la, nI l, nI w, bits, nI N, nI k, s1) ∧ st' = (nI t, nI la, nI l, nI w, nI (2 + 7 * s + w), nI (G (2 + 7 * s + w)), bits, nI k, t1) ∧ k ≤ N ∧ zWs σ s1 G s ∧ zWm τ t1 (2 + 7 * s + w)) 10 (fun o o' => ∃ (r : Int32) (σ2 τ2 : ZS), o = some (r, σ2) ∧ o' = some (r, τ2) ∧ zFC σ σ2 ∧ zFM τ τ2) (fun i s s' h => by obtain ⟨_, _, _, _, _, h, _⟩ := h; omega) ?_ zN 0 _ _ ⟨0, σ1, τ, rfl, rfl, Nat.zero_le _, ⟨c.1, c.2.1, fun x b hx _ hb => c.2.2 x b hx hb⟩, fun _ _ => rfl, ⟨rfl, rfl, rfl⟩, fun _ _ => rfl⟩ (by unfold zN; omega)
  rintro f g k st st' ⟨bits, s1, t1, rfl, rfl, hk, cs, ms⟩
  unfold fX6_was_111b fX7_was_97b
  dsimp only
  have hM : (if nI w = (0 : Int32) then fX7_was_111 (fun x2 x3 x4 x5 x6 x7 x8 x9 s => g (x2, x3, x4, x5, x6, x7, x8, x9, s)) (nI t) (nI la) (nI l) (nI w) (nI (2 + 7 * s + w)) (nI (G (2 + 7 * s + w))) bits (nI k) (nI k) 6 t1 else fX7_was_111 (fun x2 x3 x4 x5 x6 x7 x8 x9 s => g (x2, x3, x4, x5, x6, x7, x8, x9, s)) (nI t) (nI la) (nI l) (nI w) (nI (2 + 7 * s + w)) (nI (G (2 + 7 * s + w))) bits (nI k) (nI k) 10 t1) = fX7_was_111 (fun x2 x3 x4 x5 x6 x7 x8 x9 s => g (x2, x3, x4, x5, x6, x7, x8, x9, s)) (nI t) (nI la) (nI l) (nI w) (nI (2 + 7 * s + w)) (nI (G (2 + 7 * s + w))) bits (nI k) (nI k) (nI N) t1 := by
    rcases (show w = 0 ∨ w = 1 by omega) with rfl | rfl
    · rw [if_pos (show nI 0 = (0 : Int32) from rfl), hN, if_pos rfl]; rfl
    · rw [if_neg (show ¬ nI 1 = (0 : Int32) by decide), hN, if_neg (by decide)]; rfl
  rw [hM]
  unfold fX7_was_111
  rw [zin_t (show 2 + 7 * s + w < 2147483648 by omega) (show 2 + 7 * s + w < 133 by omega), zg_tr, zg_tr, nI_cl (show 2 + 7 * s + w < 2147483648 by omega)]
  by_cases e : k = N
  · rw [if_pos (show nI N ≤ nI k by rw [e]; exact Int32.le_refl _), if_pos (show nI N ≤ nI k by rw [e]; exact Int32.le_refl _)]
    refine Or.inr ⟨bits, s1, _, rfl, rfl, cs.1, fun q hq => ?_, by rw [zI_ne _ _ _ (show 0 ≠ 1 by decide)]; exact ms.2.1.1, by rw [zI_ne _ _ _ (show 0 ≠ 1 by decide)]; exact ms.2.1.2.1, by rw [zI_ne _ _ _ (show 0 ≠ 1 by decide)]; exact ms.2.1.2.2⟩
    by_cases q1 : q = 1
    · subst q1
      rw [zI_at]
      funext j
      by_cases ej : j = 2 + 7 * s + w
      · subst ej; rw [upd_at, hg.2.1 _ (by omega)]
      · rw [upd_ne _ _ ej]; exact ms.2.2 j ej
    · rw [zI_ne _ _ _ q1]; exact ms.1 q (by omega)
  · rw [if_neg (show ¬ nI N ≤ nI k from nI_ge (by omega) (by omega)), if_neg (show ¬ nI N ≤ nI k from nI_ge (by omega) (by omega))]
    have hb : k ≤ bd w := by
      rcases (show w = 0 ∨ w = 1 by omega) with rfl | rfl
      · rw [if_pos rfl] at hN; show k ≤ 5; omega
      · rw [if_neg (by decide)] at hN; show k ≤ 9; omega
    obtain ⟨t2, e2, m2⟩ := was111 hg hs ht hl h4 hw hb ms
    have hC : ∃ s2, (if nI w = (0 : Int32) then fX6_was_137 (fun x1 x2 x3 x4 x5 x6 x7 x8 s => f (x1, x2, x3, x4, x5, x6, x7, x8, s)) (nI s) (nI t) (nI la) (nI l) (nI w) bits (nI N) (nI k) (nI k) s1 else zg (zin (nI s) 8) (fX6_was_137 (fun x1 x2 x3 x4 x5 x6 x7 x8 s => f (x1, x2, x3, x4, x5, x6, x7, x8, s)) (nI s) (nI t) (nI la) (nI l) (nI w) bits (nI N) (nI k) (s1.1 2 (nI s).toNatClampNeg) s1)) = f (nI s, nI t, nI la, nI l, nI w, (if wR G τ s t la l (if w = 0 then k else G (2 + 7 * s)) (if w = 0 then G (3 + 7 * s) else k) = 0 then bits else bits ||| ((1 : Int32) <<< (nI k &&& 31))), nI N, nI k + 1, s2) ∧ zWs σ s2 G s := by
      have z8 : zin (nI s) 8 = true := zin_t (by omega) (by omega)
      unfold fX6_was_137
      rcases (show w = 0 ∨ w = 1 by omega) with rfl | rfl
      · rw [if_pos (show nI 0 = (0 : Int32) from rfl), if_pos (show nI 0 = (0 : Int32) from rfl), z8, zg_tr, nI_cl (by omega), sc_fig cs.2.1 (by omega), if_pos rfl, if_pos rfl]
        exact was158 hI cs hs ht hl h4 hn h3 e1 ev hb (in_fig hI (by omega)) (fun x1 x2 x3 x4 x5 x6 x7 x8 s => f (x1, x2, x3, x4, x5, x6, x7, x8, s)) _ _ _ _
      · rw [if_neg (show ¬ nI 1 = (0 : Int32) by decide), if_neg (show ¬ nI 1 = (0 : Int32) by decide), z8, zg_tr, nI_cl (by omega), sc_kind cs.2.1 (by omega), if_neg (show ¬ 1 = 0 by decide), if_neg (show ¬ 1 = 0 by decide)]
        exact was158 hI cs hs ht hl h4 hn h3 e1 ev (in_kind hI (by omega)) hb (fun x1 x2 x3 x4 x5 x6 x7 x8 s => f (x1, x2, x3, x4, x5, x6, x7, x8, s)) _ _ _ _
    obtain ⟨s2, e5, c5⟩ := hC
    rw [e5, e2, zb_mk]
    unfold fX7_was_144
    rw [show nI k + 1 = nI (k + 1) from nI_add k 1]
    by_cases h0 : wR G τ s t la l (if w = 0 then k else G (2 + 7 * s)) (if w = 0 then G (3 + 7 * s) else k) = 0
    · rw [if_pos h0, if_pos h0, Int32.or_zero]
      exact Or.inl ⟨_, _, rfl, rfl, bits, s2, t2, rfl, rfl, by omega, c5, m2⟩
    · rw [if_neg h0, if_neg h0]
      exact Or.inl ⟨_, _, rfl, rfl, _, s2, t2, rfl, rfl, by omega, c5, m2⟩
set_option maxHeartbeats 1000000 in
theorem step23 : zStep23 zR := fun σ τ y1 y2 y3 y4 y5 hR => by
  obtain ⟨⟨G, hg⟩, -⟩ := id hR
  have hS := hg.1
  have hI := hg.2.2
  have b0 := hI.1
  have b1 := hI.2.1
  have hL := hR.2.2.2.2.1
  unfold fX6_was fX7_was
  rcases zin_or y1 (G 0) (by omega) with ⟨s, hs, rfl⟩ | ⟨hz, hx⟩
  · rw [hasSheet_t hS hI hs, isSheet_t hg.2.1 hI hs]
    simp only [zb_mk, if_neg i0]
    rcases zin_or y2 (G 1) (by omega) with ⟨t, ht, rfl⟩ | ⟨hz, hx⟩
    · rw [hasStack_t hS hI ht, isStack_t hg.2.1 hI ht]
      simp only [zb_mk, if_neg i0]
      rw [show (3 : Int32) = nI 3 from rfl]
      rcases zin_or y3 3 (by omega) with ⟨la, hla, rfl⟩ | ⟨hz, hx⟩
      · rw [within_t hla (by omega), isLamp_t hla]
        simp only [zb_mk, if_neg i0]
        rw [show (4 : Int32) = nI 4 from rfl]
        rcases zin_or y4 4 (by omega) with ⟨l, hl4, rfl⟩ | ⟨hz, hx⟩
        · rw [within_t hl4 (by omega), isList_t hl4]
          simp only [zb_mk, if_neg i0]
          have w2 : ∀ (x : Int32) (s : ZS), fX6_within x 2 s = fX6_within x (nI 2) s := fun _ _ => rfl
          have w1 : ∀ (x : Int64) (s : ZS), fX7_isIn x 0 1 s = fX7_isIn x 0 (lN 1) s := fun _ _ => rfl
          rw [w2, w1]
          rcases zin_or y5 2 (by omega) with ⟨w, hw, rfl⟩ | ⟨hz, hx⟩
          · rw [within_t hw (by omega), isInN_t hw (by omega)]
            simp only [zb_mk, if_neg i0]
            rw [zin_t (show l < 2147483648 by omega) (show l < 4 by omega), zg_tr, nI_cl (show l < 2147483648 by omega)]
            simp only [zg_tr]
            rcases held_t hL hl4 with ⟨e1, e2, e3⟩ | ⟨n, hn, e1, e2, e3, ev⟩
            · rw [e3, zb_mk, if_pos rfl, e2, if_neg m1_neg]
              exact sameR hR rfl rfl
            · rw [e3, zb_mk, if_neg i0, e2, if_pos (show (0 : Int32) ≤ nI n from nI_le (a := 0) (Nat.zero_le _) (by omega)), e1]
              by_cases h3 : 3 ≤ n
              · rw [if_pos (show nI 3 ≤ nI n from nI_le h3 (by omega)), if_pos (show nI 3 ≤ nI n from nI_le h3 (by omega))]
                obtain ⟨σ1, e5, c1⟩ := look3 hS hI
                rw [e5, zb_mk, show (2 : Int32) = nI 2 from rfl, show (7 : Int32) = nI 7 from rfl, nI_mul, nI_add, nI_add, zin_t (show 2 + 7 * s + w < 2147483648 by omega) (show 2 + 7 * s + w < 133 by omega), zg_tr, nI_cl (show 2 + 7 * s + w < 2147483648 by omega), hg.2.1 _ (show 2 + 7 * s + w < 133 by omega)]
                unfold fX6_was_106
                obtain ⟨r, σ4, τ4, e6, e7, c4, m4⟩ := was_both hg c1 hs ht hla hl4 hn h3 e1 ev hw rfl
                rw [e7]
                have e8 : (if nI w = (0 : Int32) then fX6_was_111 (nI s) (nI t) (nI la) (nI l) (nI w) 0 6 0 σ1 else fX6_was_111 (nI s) (nI t) (nI la) (nI l) (nI w) 0 10 0 σ1) = some (r, σ4) := by
                  rcases (show w = 0 ∨ w = 1 by omega) with rfl | rfl
                  · rw [if_pos (show nI 0 = (0 : Int32) from rfl)]; exact e6
                  · rw [if_neg (show ¬ nI 1 = (0 : Int32) by decide)]; exact e6
                rw [e8]
                exact zAsk.R ⟨r, σ4, τ4, rfl, rfl, c4, m4⟩ hR
              · rw [if_neg (show ¬ nI 3 ≤ nI n from nI_ge (by omega) (by omega)), if_neg (show ¬ nI 3 ≤ nI n from nI_ge (by omega) (by omega))]
                exact sameR hR rfl rfl
          · rw [within_f hx, isInN_f (by omega) hz]
            exact sameR hR rfl rfl
        · rw [within_f hx, isList_f hz]
          exact sameR hR rfl rfl
      · rw [within_f hx, isLamp_f hz]
        exact sameR hR rfl rfl
    · rw [hasStack_f hS hx, isStack_f hg.2.1 hI hz]
      exact sameR hR rfl rfl
  · rw [hasSheet_f hS hx, isSheet_f hg.2.1 hI hz]
    exact sameR hR rfl rfl
