/-! ===== the relation between the two flat states ===== -/
def pl (q a : Nat) : Nat := if q = 0 then 2 + 7 * a else if q = 1 then 3 + 7 * a else if q = 2 then 4 + 7 * (a / 5) + a % 5 else if q = 3 then 58 + 7 * a else if q = 4 then 59 + 7 * (a / 6) + a % 6 else if q = 5 then 100 + a else if q = 6 then 115 + a else 130 + a
def ln (q : Nat) : Nat := if q = 0 then 8 else if q = 1 then 8 else if q = 2 then 40 else if q = 3 then 6 else if q = 4 then 36 else if q = 5 then 15 else if q = 6 then 15 else 3
def bd (q : Nat) : Nat := if q = 0 then 5 else if q = 1 then 9 else if q = 2 then 10 else if q = 3 then 6 else if q = 4 then 7 else if q = 5 then 9 else if q = 6 then 9 else 9999
theorem pl_rng {q a : Nat} (hq : q < 8) (ha : a < ln q) : 2 ≤ pl q a ∧ pl q a < 133 := by
  rcases (show q = 0 ∨ q = 1 ∨ q = 2 ∨ q = 3 ∨ q = 4 ∨ q = 5 ∨ q = 6 ∨ q = 7 by omega) with rfl | rfl | rfl | rfl | rfl | rfl | rfl | rfl <;> simp [pl, ln] at ha ⊢ <;> omega
theorem pl_inj {q a q' a' : Nat} (hq : q < 8) (ha : a < ln q) (hq' : q' < 8) (ha' : a' < ln q') (e : pl q a = pl q' a') : q = q' ∧ a = a' := by
  rcases (show q = 0 ∨ q = 1 ∨ q = 2 ∨ q = 3 ∨ q = 4 ∨ q = 5 ∨ q = 6 ∨ q = 7 by omega) with rfl | rfl | rfl | rfl | rfl | rfl | rfl | rfl <;> rcases (show q' = 0 ∨ q' = 1 ∨ q' = 2 ∨ q' = 3 ∨ q' = 4 ∨ q' = 5 ∨ q' = 6 ∨ q' = 7 by omega) with rfl | rfl | rfl | rfl | rfl | rfl | rfl | rfl <;> simp [pl, ln] at ha ha' e ⊢ <;> omega
/-- a class's scene at cell c holds G -/
def zScene (f : Nat → Nat → Int32) (c : Nat) (G : Nat → Nat) : Prop := f c 0 = nI (G 0) ∧ f c 4 = nI (G 1) ∧ ∀ q a, q < 8 → a < ln q → f (c + 1 + q) a = nI (G (pl q a))
def zInv (G : Nat → Nat) : Prop := G 0 ≤ 8 ∧ G 1 ≤ 6 ∧ (∀ q a, q < 8 → a < ln q → G (pl q a) ≤ bd q) ∧ ∀ t k, t < G 1 → k < G (58 + 7 * t) → G (59 + 7 * t + k) < G 0
theorem pl0 (s : Nat) : pl 0 s = 2 + 7 * s := rfl
theorem pl1 (s : Nat) : pl 1 s = 3 + 7 * s := rfl
theorem pl2 {s k : Nat} (hk : k < 5) : pl 2 (5 * s + k) = 4 + 7 * s + k := by simp [pl]; omega
theorem pl3 (t : Nat) : pl 3 t = 58 + 7 * t := rfl
theorem pl4 {t k : Nat} (hk : k < 6) : pl 4 (6 * t + k) = 59 + 7 * t + k := by simp [pl]; omega
theorem pl5 (i : Nat) : pl 5 i = 100 + i := rfl
theorem pl6 (i : Nat) : pl 6 i = 115 + i := rfl
theorem pl7 (i : Nat) : pl 7 i = 130 + i := rfl
section SCN
variable {f : Nat → Nat → Int32} {c : Nat} {G : Nat → Nat}
theorem sc_kind (h : zScene f c G) {s : Nat} (hs : s < 8) : f (c + 1) s = nI (G (2 + 7 * s)) := h.2.2 0 s (by decide) hs
theorem sc_fig (h : zScene f c G) {s : Nat} (hs : s < 8) : f (c + 2) s = nI (G (3 + 7 * s)) := h.2.2 1 s (by decide) hs
theorem sc_num (h : zScene f c G) {s k : Nat} (hs : s < 8) (hk : k < 5) : f (c + 3) (5 * s + k) = nI (G (4 + 7 * s + k)) := by rw [← pl2 hk]; exact h.2.2 2 (5 * s + k) (by decide) (show 5 * s + k < 40 by omega)
theorem sc_hgt (h : zScene f c G) {t : Nat} (ht : t < 6) : f (c + 4) t = nI (G (58 + 7 * t)) := h.2.2 3 t (by decide) ht
theorem sc_laid (h : zScene f c G) {t k : Nat} (ht : t < 6) (hk : k < 6) : f (c + 5) (6 * t + k) = nI (G (59 + 7 * t + k)) := by rw [← pl4 hk]; exact h.2.2 4 (6 * t + k) (by decide) (show 6 * t + k < 36 by omega)
theorem sc_pow (h : zScene f c G) {i : Nat} (hi : i < 15) : f (c + 6) i = nI (G (100 + i)) := h.2.2 5 i (by decide) hi
theorem sc_wei (h : zScene f c G) {i : Nat} (hi : i < 15) : f (c + 7) i = nI (G (115 + i)) := h.2.2 6 i (by decide) hi
theorem sc_wish (h : zScene f c G) {i : Nat} (hi : i < 3) : f (c + 8) i = nI (G (130 + i)) := h.2.2 7 i (by decide) hi
theorem in_kind (h : zInv G) {s : Nat} (hs : s < 8) : G (2 + 7 * s) ≤ 5 := h.2.2.1 0 s (by decide) hs
theorem in_fig (h : zInv G) {s : Nat} (hs : s < 8) : G (3 + 7 * s) ≤ 9 := h.2.2.1 1 s (by decide) hs
theorem in_num (h : zInv G) {s k : Nat} (hs : s < 8) (hk : k < 5) : G (4 + 7 * s + k) ≤ 10 := by rw [← pl2 hk]; exact h.2.2.1 2 (5 * s + k) (by decide) (show 5 * s + k < 40 by omega)
theorem in_hgt (h : zInv G) {t : Nat} (ht : t < 6) : G (58 + 7 * t) ≤ 6 := h.2.2.1 3 t (by decide) ht
theorem in_laid (h : zInv G) {t k : Nat} (ht : t < 6) (hk : k < 6) : G (59 + 7 * t + k) ≤ 7 := by rw [← pl4 hk]; exact h.2.2.1 4 (6 * t + k) (by decide) (show 6 * t + k < 36 by omega)
theorem in_pow (h : zInv G) {i : Nat} (hi : i < 15) : G (100 + i) ≤ 9 := h.2.2.1 5 i (by decide) hi
theorem in_wei (h : zInv G) {i : Nat} (hi : i < 15) : G (115 + i) ≤ 9 := h.2.2.1 6 i (by decide) hi
theorem in_wish (h : zInv G) {i : Nat} (hi : i < 3) : G (130 + i) ≤ 9999 := h.2.2.1 7 i (by decide) hi
end SCN
def zRow (f : Nat → Int32) (G : Nat → Nat) : Prop := ∀ i, i < 133 → f i = nI (G i)
/-- sheets, stacks, lamps, weights, the wish -/
def zRg (σ τ : ZS) (G : Nat → Nat) : Prop := zScene σ.1 1 G ∧ zRow (τ.1 1) G ∧ zInv G
/-- the image -/
def zRk (σ τ : ZS) : Prop := σ.1 0 2 = τ.1 0 2 ∧ (τ.1 0 2 = 0 ∨ (τ.1 0 2 = 1 ∧ ∃ K : Nat → Nat, zScene σ.1 10 K ∧ zRow (τ.1 2) K ∧ zInv K))
/-- the tape -/
def zRt (σ τ : ZS) : Prop := ∃ (n : Nat) (T : Nat → Nat), n ≤ 80 ∧ σ.1 26 1 = nI n ∧ τ.1 0 8 = nI n ∧ ∀ i, i < n → 1 ≤ T i ∧ T i ≤ 127 ∧ σ.1 27 i = nI (T i) ∧ τ.1 6 i = nI (T i)
/-- the paper -/
def zRp (σ τ : ZS) : Prop := ∃ n : Nat, n ≤ 47 ∧ σ.1 32 1 = nI n ∧ τ.1 0 23 = nI n ∧ ∀ i, i < n → σ.1 33 i = τ.1 14 i
/-- lists -/
def zRl (σ τ : ZS) : Prop := ∀ l, l < 4 → (σ.1 36 l = -1 ∧ τ.1 16 l = -1) ∨ ∃ n : Nat, n ≤ 18 ∧ σ.1 36 l = nI n ∧ τ.1 16 l = nI n ∧ ∀ i, i < n → σ.1 35 (18 * l + i) = τ.1 15 (18 * l + i)
/-- the model's words -/
def zWords : List Nat := [103, 108, 97, 115, 115, 32, 116, 104, 105, 99, 107, 32, 115, 109, 111, 107, 101, 100, 109, 105, 114, 114, 111, 114, 100, 121, 101, 100, 32, 32, 99, 108, 101, 97, 114, 32]
def zRc (τ : ZS) : Prop := (∀ k, k < 36 → τ.1 9 k = nI (zWords.getD k 0)) ∧ (∀ k, k < 6 → τ.1 10 k = nI (zSlen.getD k 0))
def zR (σ τ : ZS) : Prop := (∃ G : Nat → Nat, zRg σ τ G) ∧ zRk σ τ ∧ zRt σ τ ∧ zRp σ τ ∧ zRl σ τ ∧ zRc τ
/-- what an asking call may change -/
def zFC (σ σ1 : ZS) : Prop := ∀ c, c < 19 ∨ c = 26 ∨ c = 27 ∨ c = 32 ∨ c = 33 ∨ c = 35 ∨ c = 36 → σ1.1 c = σ.1 c
def zFM (τ τ1 : ZS) : Prop := (∀ c, c = 1 ∨ c = 2 ∨ c = 6 ∨ c = 9 ∨ c = 10 ∨ c = 14 ∨ c = 15 ∨ c = 16 → τ1.1 c = τ.1 c) ∧ τ1.1 0 2 = τ.1 0 2 ∧ τ1.1 0 8 = τ.1 0 8 ∧ τ1.1 0 23 = τ.1 0 23
theorem zFC.rf {σ : ZS} : zFC σ σ := fun _ _ => rfl
theorem zFM.rf {τ : ZS} : zFM τ τ := ⟨fun _ _ => rfl, rfl, rfl, rfl⟩
theorem zFC.tr {a b c : ZS} (h : zFC a b) (h2 : zFC b c) : zFC a c := fun k hk => (h2 k hk).trans (h k hk)
theorem zFM.tr {a b c : ZS} (h : zFM a b) (h2 : zFM b c) : zFM a c := ⟨fun k hk => (h2.1 k hk).trans (h.1 k hk), h2.2.1.trans h.2.1, h2.2.2.1.trans h.2.2.1, h2.2.2.2.trans h.2.2.2⟩
theorem zScene.fr {f g : Nat → Nat → Int32} {c : Nat} {G : Nat → Nat} (h : zScene f c G) (e : ∀ k, k < 9 → g (c + k) = f (c + k)) : zScene g c G :=
  ⟨by rw [show g c = f c from e 0 (by decide)]; exact h.1, by rw [show g c = f c from e 0 (by decide)]; exact h.2.1, fun q a hq ha => by rw [show c + 1 + q = c + (1 + q) by omega, e (1 + q) (by omega), show c + (1 + q) = c + 1 + q by omega]; exact h.2.2 q a hq ha⟩
theorem zRg.fr {σ τ σ1 τ1 : ZS} {G : Nat → Nat} (h : zRg σ τ G) (a : zFC σ σ1) (b : zFM τ τ1) : zRg σ1 τ1 G :=
  ⟨h.1.fr (fun k hk => a _ (by omega)), by unfold zRow; rw [b.1 1 (by omega)]; exact h.2.1, h.2.2⟩
theorem zRk.fr {σ τ σ1 τ1 : ZS} (h : zRk σ τ) (a : zFC σ σ1) (b : zFM τ τ1) : zRk σ1 τ1 := by
  obtain ⟨h1, h2⟩ := h
  refine ⟨by rw [a 0 (by omega), b.2.1]; exact h1, ?_⟩
  rw [b.2.1]
  refine h2.imp id (fun h => ⟨h.1, ?_⟩)
  obtain ⟨K, k1, k2, k3⟩ := h.2
  exact ⟨K, k1.fr (fun k hk => a _ (by omega)), by unfold zRow; rw [b.1 2 (by omega)]; exact k2, k3⟩
theorem zRt.fr {σ τ σ1 τ1 : ZS} (h : zRt σ τ) (a : zFC σ σ1) (b : zFM τ τ1) : zRt σ1 τ1 := by
  unfold zRt at h ⊢
  rw [a 26 (by omega), a 27 (by omega), b.2.2.1, b.1 6 (by omega)]
  exact h
theorem zRp.fr {σ τ σ1 τ1 : ZS} (h : zRp σ τ) (a : zFC σ σ1) (b : zFM τ τ1) : zRp σ1 τ1 := by
  unfold zRp at h ⊢
  rw [a 32 (by omega), a 33 (by omega), b.2.2.2, b.1 14 (by omega)]
  exact h
theorem zRl.fr {σ τ σ1 τ1 : ZS} (h : zRl σ τ) (a : zFC σ σ1) (b : zFM τ τ1) : zRl σ1 τ1 := by
  unfold zRl at h ⊢
  rw [a 35 (by omega), a 36 (by omega), b.1 15 (by omega), b.1 16 (by omega)]
  exact h
theorem zRc.fr {τ τ1 : ZS} (h : zRc τ) (b : zFM τ τ1) : zRc τ1 := by
  unfold zRc at h ⊢
  rw [b.1 9 (by omega), b.1 10 (by omega)]
  exact h
theorem zR.fr {σ τ σ1 τ1 : ZS} (h : zR σ τ) (a : zFC σ σ1) (b : zFM τ τ1) : zR σ1 τ1 := by
  obtain ⟨⟨G, h1⟩, h2, h3, h4, h5, h6⟩ := h
  exact ⟨⟨G, h1.fr a b⟩, h2.fr a b, h3.fr a b, h4.fr a b, h5.fr a b, h6.fr b⟩
/-- an asking call of both -/
def zAsk {α : Type} (σ τ : ZS) (f : Option (α × ZS)) (g : Option (α × ZS)) : Prop := ∃ (r : α) (σ1 τ1 : ZS), f = some (r, σ1) ∧ g = some (r, τ1) ∧ zFC σ σ1 ∧ zFM τ τ1
theorem zAsk.R {α : Type} {σ τ : ZS} {f g : Option (α × ZS)} (h : zAsk σ τ f g) (hR : zR σ τ) : ∃ (r : α) (σ1 τ1 : ZS), f = some (r, σ1) ∧ g = some (r, τ1) ∧ zR σ1 τ1 := by
  obtain ⟨r, σ1, τ1, h1, h2, h3, h4⟩ := h
  exact ⟨r, σ1, τ1, h1, h2, hR.fr h3 h4⟩
theorem zAsk.same {α : Type} {σ τ : ZS} {f g : Option (α × ZS)} {r : α} (h1 : f = some (r, σ)) (h2 : g = some (r, τ)) : zAsk σ τ f g := ⟨r, σ, τ, h1, h2, zFC.rf, zFM.rf⟩
theorem sameR {α : Type} {σ τ : ZS} {f g : Option (α × ZS)} {r : α} (hR : zR σ τ) (h1 : f = some (r, σ)) (h2 : g = some (r, τ)) : ∃ (r : α) (σ1 τ1 : ZS), f = some (r, σ1) ∧ g = some (r, τ1) ∧ zR σ1 τ1 := ⟨r, σ, τ, h1, h2, hR⟩
/-- sheets, stacks: does the number exist -/
theorem hasSheet_t {σ : ZS} {G : Nat → Nat} (h : zScene σ.1 1 G) (hi : zInv G) {j : Nat} (hj : j < G 0) : fX3_hasSheet (nI j) σ = some (1, σ) := by
  unfold fX3_hasSheet
  rw [h.1, within_t hj (by have := hi.1; omega)]
  rfl
theorem hasSheet_f {σ : ZS} {G : Nat → Nat} (h : zScene σ.1 1 G) {x : Int32} (hx : x < 0 ∨ (¬ x < 0 ∧ nI (G 0) ≤ x)) : fX3_hasSheet x σ = some (0, σ) := by
  unfold fX3_hasSheet
  rw [h.1, within_f hx]
  rfl
theorem hasStack_t {σ : ZS} {G : Nat → Nat} (h : zScene σ.1 1 G) (hi : zInv G) {j : Nat} (hj : j < G 1) : fX3_hasStack (nI j) σ = some (1, σ) := by
  unfold fX3_hasStack
  rw [h.2.1, within_t hj (by have := hi.2.1; omega)]
  rfl
theorem hasStack_f {σ : ZS} {G : Nat → Nat} (h : zScene σ.1 1 G) {x : Int32} (hx : x < 0 ∨ (¬ x < 0 ∧ nI (G 1) ≤ x)) : fX3_hasStack x σ = some (0, σ) := by
  unfold fX3_hasStack
  rw [h.2.1, within_f hx]
  rfl
theorem isSheet_t {τ : ZS} {G : Nat → Nat} (h : zRow (τ.1 1) G) (hi : zInv G) {j : Nat} (hj : j < G 0) : fX7_isSheet (nI j) τ = some (1, τ) := by
  unfold fX7_isSheet
  rw [show ((0 : Int32)).toNatClampNeg = 0 from rfl, h 0 (by decide), isIn0_t (by have := hi.1; omega) hj]
  rfl
theorem isSheet_f {τ : ZS} {G : Nat → Nat} (h : zRow (τ.1 1) G) (hi : zInv G) {x : Int32} (hx : zin x (G 0) = false) : fX7_isSheet x τ = some (0, τ) := by
  unfold fX7_isSheet
  rw [show ((0 : Int32)).toNatClampNeg = 0 from rfl, h 0 (by decide), isIn0_f (by have := hi.1; omega) hx]
  rfl
theorem isStack_t {τ : ZS} {G : Nat → Nat} (h : zRow (τ.1 1) G) (hi : zInv G) {j : Nat} (hj : j < G 1) : fX7_isStack (nI j) τ = some (1, τ) := by
  unfold fX7_isStack
  rw [show ((1 : Int32)).toNatClampNeg = 1 from rfl, h 1 (by decide), isIn0_t (by have := hi.2.1; omega) hj]
  rfl
theorem isStack_f {τ : ZS} {G : Nat → Nat} (h : zRow (τ.1 1) G) (hi : zInv G) {x : Int32} (hx : zin x (G 1) = false) : fX7_isStack x τ = some (0, τ) := by
  unfold fX7_isStack
  rw [show ((1 : Int32)).toNatClampNeg = 1 from rfl, h 1 (by decide), isIn0_f (by have := hi.2.1; omega) hx]
  rfl
theorem isBand_t {j : Nat} (hj : j < 5) (τ : ZS) : fX7_isBand (nI j) τ = some (1, τ) := by
  unfold fX7_isBand
  rw [show (0 : Int64) = lN 0 from rfl, show (4 : Int64) = lN 4 from rfl, isIn_t (Nat.zero_le _) (by omega) (by omega)]
  rfl
theorem isBand_f {x : Int32} (hx : zin x 5 = false) (τ : ZS) : fX7_isBand x τ = some (0, τ) := by
  unfold fX7_isBand
  rw [show (0 : Int64) = lN 0 from rfl, show (4 : Int64) = lN 4 from rfl, isInL_f (by omega) (by omega) (by have := zin_false hx; omega)]
  rfl
theorem isLamp_t {j : Nat} (hj : j < 3) (τ : ZS) : fX7_isLamp (nI j) τ = some (1, τ) := by
  unfold fX7_isLamp
  rw [show (0 : Int64) = lN 0 from rfl, show (2 : Int64) = lN 2 from rfl, isIn_t (Nat.zero_le _) (by omega) (by omega)]
  rfl
theorem isLamp_f {x : Int32} (hx : zin x 3 = false) (τ : ZS) : fX7_isLamp x τ = some (0, τ) := by
  unfold fX7_isLamp
  rw [show (0 : Int64) = lN 0 from rfl, show (2 : Int64) = lN 2 from rfl, isInL_f (by omega) (by omega) (by have := zin_false hx; omega)]
  rfl
theorem isList_t {j : Nat} (hj : j < 4) (τ : ZS) : fX7_isList (nI j) τ = some (1, τ) := by
  unfold fX7_isList
  rw [show (0 : Int64) = lN 0 from rfl, show (3 : Int64) = lN 3 from rfl, isIn_t (Nat.zero_le _) (by omega) (by omega)]
  rfl
theorem isList_f {x : Int32} (hx : zin x 4 = false) (τ : ZS) : fX7_isList x τ = some (0, τ) := by
  unfold fX7_isList
  rw [show (0 : Int64) = lN 0 from rfl, show (3 : Int64) = lN 3 from rfl, isInL_f (by omega) (by omega) (by have := zin_false hx; omega)]
  rfl
/-- isIn from 0 to a number -/
theorem isInN_t {j k : Nat} (hj : j < k + 1) (hk : k < 2147483647) (τ : ZS) : fX7_isIn (nI j).toInt64 0 (lN k) τ = some (1, τ) := isIn_t (lo := 0) (Nat.zero_le _) (by omega) (by omega) τ
theorem isInN_f {x : Int32} {k : Nat} (hk : k < 2147483647) (hx : zin x (k + 1) = false) (τ : ZS) : fX7_isIn x.toInt64 0 (lN k) τ = some (0, τ) := isInL_f (lo := 0) (by omega) (by omega) (by have := zin_false hx; omega) τ
