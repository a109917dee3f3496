theorem ex_of {q : Nat} {σ : ZS} {a n : Nat} {x : Int32} {w : Int32 → Nat → Nat → Prop} (h : w x a n) : w x a n := h
theorem exch4 {a : Nat} (h : a < 40) (x : Int32) (σ : ZS) : fX6_exchange_4 (nI a) x σ = some (σ.1 4 a, zI σ 4 a x) := by
  unfold fX6_exchange_4
  rw [show (40 : Int32) = nI 40 from rfl, within_t h (by omega), zb_mk, if_neg i0, zin_t (by omega) h, zg_tr, zg_tr, nI_cl (by omega)]
theorem exch2 {a : Nat} (h : a < 8) (x : Int32) (σ : ZS) : fX6_exchange_2 (nI a) x σ = some (σ.1 2 a, zI σ 2 a x) := by
  unfold fX6_exchange_2
  rw [show (8 : Int32) = nI 8 from rfl, within_t h (by omega), zb_mk, if_neg i0, zin_t (by omega) h, zg_tr, zg_tr, nI_cl (by omega)]
theorem exch3 {a : Nat} (h : a < 8) (x : Int32) (σ : ZS) : fX6_exchange_3 (nI a) x σ = some (σ.1 3 a, zI σ 3 a x) := by
  unfold fX6_exchange_3
  rw [show (8 : Int32) = nI 8 from rfl, within_t h (by omega), zb_mk, if_neg i0, zin_t (by omega) h, zg_tr, zg_tr, nI_cl (by omega)]
theorem exch7 {a : Nat} (h : a < 15) (x : Int32) (σ : ZS) : fX6_exchange_7 (nI a) x σ = some (σ.1 7 a, zI σ 7 a x) := by
  unfold fX6_exchange_7
  rw [show (15 : Int32) = nI 15 from rfl, within_t h (by omega), zb_mk, if_neg i0, zin_t (by omega) h, zg_tr, zg_tr, nI_cl (by omega)]
theorem exch8 {a : Nat} (h : a < 15) (x : Int32) (σ : ZS) : fX6_exchange_8 (nI a) x σ = some (σ.1 8 a, zI σ 8 a x) := by
  unfold fX6_exchange_8
  rw [show (15 : Int32) = nI 15 from rfl, within_t h (by omega), zb_mk, if_neg i0, zin_t (by omega) h, zg_tr, zg_tr, nI_cl (by omega)]
/-- one place of G becomes v -/
def zG (G : Nat → Nat) (k v : Nat) : Nat → Nat := fun i => if i = k then v else G i
theorem zG_at (G : Nat → Nat) (k v : Nat) : zG G k v k = v := if_pos rfl
theorem zG_ne (G : Nat → Nat) {k i : Nat} (v : Nat) (h : i ≠ k) : zG G k v i = G i := if_neg h
theorem zRow_put {f : Nat → Int32} {G : Nat → Nat} (h : zRow f G) (k v : Nat) : zRow (upd f k (nI v)) (zG G k v) := by
  intro i hi
  by_cases e : i = k
  · subst e; rw [upd_at, zG_at]
  · rw [upd_ne _ _ e, zG_ne _ _ e]; exact h i hi
/-- what lies beside the scenes stays, where only cells of the scene change -/
def zFS (σ σ1 : ZS) : Prop := ∀ c, c = 0 ∨ (10 ≤ c ∧ c < 19) ∨ c = 26 ∨ c = 27 ∨ c = 32 ∨ c = 33 ∨ c = 35 ∨ c = 36 → σ1.1 c = σ.1 c
def zFT (τ τ1 : ZS) : Prop := (∀ c, c = 2 ∨ c = 6 ∨ c = 9 ∨ c = 10 ∨ c = 14 ∨ c = 15 ∨ c = 16 → τ1.1 c = τ.1 c) ∧ τ1.1 0 2 = τ.1 0 2 ∧ τ1.1 0 8 = τ.1 0 8 ∧ τ1.1 0 23 = τ.1 0 23
theorem zR.scene {σ τ σ1 τ1 : ZS} {G : Nat → Nat} (hR : zR σ τ) (a : zFS σ σ1) (b : zFT τ τ1) (hG : zRg σ1 τ1 G) : zR σ1 τ1 := by
  obtain ⟨-, h2, h3, h4, h5, h6⟩ := hR
  refine ⟨⟨G, hG⟩, ?_, ?_, ?_, ?_, ?_⟩
  · obtain ⟨h1, h2⟩ := h2
    refine ⟨by rw [a 0 (by omega), b.2.1]; exact h1, ?_⟩
    rw [b.2.1]
    refine h2.imp id (fun h => ⟨h.1, ?_⟩)
    obtain ⟨K, k1, k2, k3⟩ := h.2
    exact ⟨K, k1.fr (fun k hk => a _ (by omega)), by unfold zRow; rw [b.1 2 (by omega)]; exact k2, k3⟩
  · unfold zRt at h3 ⊢
    rw [a 26 (by omega), a 27 (by omega), b.2.2.1, b.1 6 (by omega)]
    exact h3
  · unfold zRp at h4 ⊢
    rw [a 32 (by omega), a 33 (by omega), b.2.2.2, b.1 14 (by omega)]
    exact h4
  · unfold zRl at h5 ⊢
    rw [a 35 (by omega), a 36 (by omega), b.1 15 (by omega), b.1 16 (by omega)]
    exact h5
  · unfold zRc at h6 ⊢
    rw [b.1 9 (by omega), b.1 10 (by omega)]
    exact h6
theorem zFS_I {σ : ZS} {q k : Nat} {x : Int32} (h : 1 ≤ q ∧ q ≤ 9) : zFS σ (zI σ q k x) := fun c hc => zI_ne σ k x (by omega)
theorem zFT_I {τ : ZS} {k : Nat} {x : Int32} : zFT τ (zI τ 1 k x) := ⟨fun c hc => zI_ne τ k x (by omega), by rw [zI_ne τ k x (by decide)], by rw [zI_ne τ k x (by decide)], by rw [zI_ne τ k x (by decide)]⟩
theorem zFS.tr {a b c : ZS} (h : zFS a b) (h2 : zFS b c) : zFS a c := fun k hk => (h2 k hk).trans (h k hk)
theorem zFT.tr {a b c : ZS} (h : zFT a b) (h2 : zFT b c) : zFT a c := ⟨fun k hk => (h2.1 k hk).trans (h.1 k hk), h2.2.1.trans h.2.1, h2.2.2.1.trans h.2.2.1, h2.2.2.2.trans h.2.2.2⟩
/-- a place of the scene becomes another, where stacks stay -/
theorem zRg_putS {σ τ : ZS} {G : Nat → Nat} (h : zRg σ τ G) {q a v : Nat} (hq : q < 8) (ha : a < ln q) (hv : v ≤ bd q) (hst : ∀ t k, t < zG G (pl q a) v 1 → k < zG G (pl q a) v (58 + 7 * t) → zG G (pl q a) v (59 + 7 * t + k) < zG G (pl q a) v 0) : zRg (zI σ (2 + q) a (nI v)) (zI τ 1 (pl q a) (nI v)) (zG G (pl q a) v) := by
  obtain ⟨⟨a0, a1, a2⟩, b, c0, c1, c2, c3⟩ := h
  obtain ⟨r1, r2⟩ := pl_rng hq ha
  have g0 : zG G (pl q a) v 0 = G 0 := zG_ne _ _ (by omega)
  have g1 : zG G (pl q a) v 1 = G 1 := zG_ne _ _ (by omega)
  refine ⟨⟨?_, ?_, ?_⟩, ?_, ?_, ?_, ?_, hst⟩
  · rw [zI_ne σ _ _ (by omega), g0]; exact a0
  · rw [zI_ne σ _ _ (by omega), g1]; exact a1
  · intro q' a' hq' ha'
    by_cases e : q' = q
    · subst e
      rw [show 1 + 1 + q' = 2 + q' by omega, zI_at]
      by_cases e2 : a' = a
      · subst e2; rw [upd_at, zG_at]
      · rw [upd_ne _ _ e2, zG_ne _ _ (fun e3 => e2 (pl_inj hq ha' hq ha e3).2)]
        have := a2 q' a' hq' ha'
        rw [show 1 + 1 + q' = 2 + q' by omega] at this
        exact this
    · rw [zI_ne σ _ _ (by omega), zG_ne _ _ (fun e3 => e (pl_inj hq' ha' hq ha e3).1)]
      exact a2 q' a' hq' ha'
  · rw [zI_at]; exact zRow_put b _ _
  · rw [g0]; exact c0
  · rw [g1]; exact c1
  · intro q' a' hq' ha'
    by_cases e : pl q' a' = pl q a
    · obtain ⟨rfl, rfl⟩ := pl_inj hq' ha' hq ha e
      rw [zG_at]; exact hv
    · rw [zG_ne _ _ e]; exact c2 q' a' hq' ha'
theorem zRg_put {σ τ : ZS} {G : Nat → Nat} (h : zRg σ τ G) {q a v : Nat} (hq : q < 8) (h3 : q ≠ 3) (h4 : q ≠ 4) (ha : a < ln q) (hv : v ≤ bd q) : zRg (zI σ (2 + q) a (nI v)) (zI τ 1 (pl q a) (nI v)) (zG G (pl q a) v) := by
  refine zRg_putS h hq ha hv (fun t k ht hk => ?_)
  obtain ⟨r1, r2⟩ := pl_rng hq ha
  have hI := h.2.2
  rw [zG_ne _ _ (by omega)] at ht
  have t6 : t < 6 := by have := hI.2.1; omega
  rw [zG_ne G (i := 58 + 7 * t) v (fun e => h3 (pl_inj (q := 3) (a := t) (by decide) t6 hq ha e).1.symm)] at hk
  have k6 : k < 6 := by have := in_hgt hI t6; omega
  rw [zG_ne G (i := 0) v (by omega), zG_ne G (i := 59 + 7 * t + k) v (fun e => h4 (pl_inj (q := 4) (a := 6 * t + k) (by decide) (show 6 * t + k < 36 by omega) hq ha (by rw [pl4 k6]; exact e)).1.symm)]
  exact hI.2.2.2 t k ht hk
set_option maxHeartbeats 1000000 in
theorem number_both {σ τ : ZS} (hR : zR σ τ) (y1 y2 y3 : Int32) : ∃ (r : Int32) (σ1 τ1 : ZS), fX6_number y1 y2 y3 σ = some (r, σ1) ∧ fX7_number y1 y2 y3 τ = some (r, τ1) ∧ zR σ1 τ1 ∧ (∀ c, c ≠ 4 → σ1.1 c = σ.1 c) ∧ (∀ c, c ≠ 1 → τ1.1 c = τ.1 c) := by
  obtain ⟨⟨G, hg⟩, -⟩ := id hR
  have hS := hg.1
  have hI := hg.2.2
  have b0 := hI.1
  unfold fX6_number fX7_number
  rcases zin_or y1 (G 0) (by omega) with ⟨j, hj, rfl⟩ | ⟨hz, hx⟩
  · rw [hasSheet_t hS hI hj, isSheet_t hg.2.1 hI hj]
    simp only [zb_mk, if_neg i0]
    rw [show (5 : Int32) = nI 5 from rfl]
    rcases zin_or y2 5 (by omega) with ⟨k, hk, rfl⟩ | ⟨hz, hx⟩
    · rw [within_t hk (by omega), isBand_t hk]
      simp only [zb_mk, if_neg i0]
      rw [show (11 : Int32) = nI 11 from rfl, show (0 : Int64) = 0 from rfl, show (10 : Int64) = lN 10 from rfl]
      rcases zin_or y3 11 (by omega) with ⟨v, hv, rfl⟩ | ⟨hz, hx⟩
      · rw [within_t hv (by omega), isInN_t hv (by omega)]
        simp only [zb_mk, if_neg i0]
        rw [nI_mul, nI_add, exch4 (by omega)]
        simp only [zb_mk]
        unfold fX7_numberOf
        simp only [li, nI_mul, nI_add]
        rw [zin_t (by omega) (by omega), zg_tr, zb_mk, zg_tr, nI_cl (by omega)]
        have e1 : j * 5 + k = 5 * j + k := by omega
        have e2 : 2 + 7 * j + 2 + k = 4 + 7 * j + k := by omega
        rw [e1, e2, sc_num hS (by omega) hk, hg.2.1 (4 + 7 * j + k) (by omega)]
        have hn := zRg_put hg (q := 2) (a := 5 * j + k) (v := v) (by decide) (by decide) (by decide) (show 5 * j + k < 40 by omega) (show v ≤ 10 by omega)
        rw [pl2 hk] at hn
        exact ⟨_, _, _, rfl, rfl, hR.scene (zFS_I (by omega)) zFT_I hn, fun c hc => zI_ne σ _ _ hc, fun c hc => zI_ne τ _ _ hc⟩
      · rw [within_f hx, isInN_f (by omega) hz]
        exact ⟨_, _, _, rfl, rfl, hR, fun _ _ => rfl, fun _ _ => rfl⟩
    · rw [within_f hx, isBand_f hz]
      exact ⟨_, _, _, rfl, rfl, hR, fun _ _ => rfl, fun _ _ => rfl⟩
  · rw [hasSheet_f hS hx, isSheet_f hg.2.1 hI hz]
    exact ⟨_, _, _, rfl, rfl, hR, fun _ _ => rfl, fun _ _ => rfl⟩
theorem step2 : zStep2 zR := fun σ τ y1 y2 y3 hR => by
  obtain ⟨r, σ1, τ1, h1, h2, h3, -⟩ := number_both hR y1 y2 y3
  exact ⟨r, σ1, τ1, h1, h2, h3⟩
