/-! ===== the flat world: a state is two memories, by cell and place ===== -/
abbrev ZS : Type := (Nat → Nat → Int32) × (Nat → Nat → Int64)
def zI (σ : ZS) (q k : Nat) (x : Int32) : ZS := (fun c => if c = q then upd (σ.1 q) k x else σ.1 c, σ.2)
def zL (σ : ZS) (q k : Nat) (x : Int64) : ZS := (σ.1, fun c => if c = q then vp_updL (σ.2 q) k x else σ.2 c)
abbrev zCell : Type := Nat → (Nat → Int32) → (Nat → Int64) → va_E
def zW (ce : zCell) (n : Nat) (a : Nat → Nat) (σ : ZS) : va_W := (List.range n).map (fun q => (a q, ce q (σ.1 q) (σ.2 q)))
theorem zW_get {ce : zCell} {n : Nat} {a : Nat → Nat} {σ : ZS} {q : Nat} (h : q < n) : (zW ce n a σ)[q]? = some (a q, ce q (σ.1 q) (σ.2 q)) := by
  simp [zW, h]
theorem zW_some {ce : zCell} {n : Nat} {a : Nat → Nat} {σ : ZS} {k : Nat} {q : Nat × va_E} (h : (zW ce n a σ)[k]? = some q) : k < n ∧ q.1 = a k := by
  have hk : k < n := by
    have := (List.getElem?_eq_some_iff.mp h).1
    simpa [zW] using this
  rw [zW_get hk] at h
  cases h
  exact ⟨hk, rfl⟩
theorem zI_at (σ : ZS) (q k : Nat) (x : Int32) : (zI σ q k x).1 q = upd (σ.1 q) k x := by simp [zI]
theorem zI_ne (σ : ZS) {q c : Nat} (k : Nat) (x : Int32) (h : c ≠ q) : (zI σ q k x).1 c = σ.1 c := by simp [zI, h]
theorem zL_at (σ : ZS) (q k : Nat) (x : Int64) : (zL σ q k x).2 q = vp_updL (σ.2 q) k x := by simp [zL]
theorem zL_ne (σ : ZS) {q c : Nat} (k : Nat) (x : Int64) (h : c ≠ q) : (zL σ q k x).2 c = σ.2 c := by simp [zL, h]
theorem zW_setI {ce : zCell} {n : Nat} {a : Nat → Nat} {σ : ZS} {q k : Nat} {x : Int32} {e : va_E} (h : q < n) (he : e = ce q (upd (σ.1 q) k x) (σ.2 q)) : (zW ce n a σ).set q (a q, e) = zW ce n a (zI σ q k x) := by
  apply List.ext_getElem?
  intro i
  by_cases hi : i < n
  · rw [zW_get hi]
    by_cases hq : q = i
    · subst hq
      rw [List.getElem?_set_self (by simpa [zW] using h), zI_at, he]
      rfl
    · rw [List.getElem?_set_ne hq, zW_get hi, zI_ne _ _ _ (fun e => hq e.symm)]
      rfl
  · rw [List.getElem?_eq_none (by simp [zW]; omega), List.getElem?_eq_none (by simp [zW]; omega)]
theorem zW_setL {ce : zCell} {n : Nat} {a : Nat → Nat} {σ : ZS} {q k : Nat} {x : Int64} {e : va_E} (h : q < n) (he : e = ce q (σ.1 q) (vp_updL (σ.2 q) k x)) : (zW ce n a σ).set q (a q, e) = zW ce n a (zL σ q k x) := by
  apply List.ext_getElem?
  intro i
  by_cases hi : i < n
  · rw [zW_get hi]
    by_cases hq : q = i
    · subst hq
      rw [List.getElem?_set_self (by simpa [zW] using h), zL_at, he]
      rfl
    · rw [List.getElem?_set_ne hq, zW_get hi, zL_ne _ _ _ (fun e => hq e.symm)]
      rfl
  · rw [List.getElem?_eq_none (by simp [zW]; omega), List.getElem?_eq_none (by simp [zW]; omega)]
/-- the addresses are apart -/
def zA (n : Nat) (a : Nat → Nat) : Prop := ∀ i j, i < n → j < n → a i = a j → i = j
/-- what a method may write -/
def zF (n : Nat) (a : Nat → Nat) (sz : Nat) : Nat → Prop := fun q => (∃ i, i < n ∧ q = a i) ∨ sz ≤ q
theorem zD {ce : zCell} {n : Nat} {a : Nat → Nat} {A : Nat → Prop} (hA : zA n a) (hF : ∀ i, i < n → A (a i)) (σ : ZS) : va_D A (zW ce n a σ) := by
  refine ⟨fun i j p q hi hj e => ?_, fun k q hk => ?_⟩
  · obtain ⟨h1, h2⟩ := zW_some hi
    obtain ⟨h3, h4⟩ := zW_some hj
    exact hA i j h1 h3 (by rw [← h2, ← h4]; exact e)
  · obtain ⟨h1, h2⟩ := zW_some hk
    rw [h2]
    exact hF k h1
theorem zF_in {n : Nat} {a : Nat → Nat} {sz : Nat} : ∀ i, i < n → zF n a sz (a i) := fun i h => Or.inl ⟨i, h, rfl⟩
theorem zF_sub {n : Nat} {a : Nat → Nat} {sz sz' : Nat} (h : sz ≤ sz') : ∀ q, zF n a sz' q → zF n a sz q := fun q hq => hq.elim Or.inl (fun h2 => Or.inr (Nat.le_trans h h2))
/-- what stands outside the world and stays: by the cells that may be written -/
abbrev zE : Type := (Nat → Prop) → State → Heap → Prop
def zGood (E : zE) : Prop := (∀ (A B : Nat → Prop) (U : State) (H : Heap), (∀ q, B q → A q) → E A U H → E B U H) ∧ (∀ (A : Nat → Prop) (s U : State) (H : Heap), s.WarmedH U.vm → E A s H → E A U H) ∧ (∀ (A : Nat → Prop) (U : State) (H H1 : Heap), (∀ q : Nat, q < H.size → ¬ A q → H1[q]? = H[q]?) → E A U H → E A U H1) ∧ (∀ (A : Nat → Prop) (U : State) (H : Heap) (g : JFrame) (mk : MethodId) (a : Array Value), E A U H → E A (U.calling g mk a) H)
def zPre (ce : zCell) (n : Nat) (a : Nat → Nat) (D : va_G) (tys : List (ClassId × FieldType)) (E : zE) (sz : Nat) (σ : ZS) (U : State) : Prop := U.heap.size = sz ∧ va_P D vwCl (zW ce n a σ) U.heap ∧ va_K D vwCl tys U ∧ zA n a ∧ E (zF n a sz) U U.heap
def zPost (ce : zCell) (n : Nat) (a : Nat → Nat) (D : va_G) (tys : List (ClassId × FieldType)) (σ : ZS) (t : State) : Prop := va_P D vwCl (zW ce n a σ) t.heap ∧ va_K D vwCl tys t
/-- contracts: int, long, nothing, a reference -/
def zMi (ce : zCell) (n : Nat) (a : Nat → Nat) (D : va_G) (tys : List (ClassId × FieldType)) (E : zE) (l : Launch) (y : MethodName) (ws : List Cond) (rm : Room) (As : List Value) (σ : ZS) (r : Int32) (τ : ZS) : Prop := ∀ sz : Nat, Met l y ws rm (va_Pc As (zPre ce n a D tys E sz σ)) (va_Qi (fun (r' : Int32) (τ' : ZS) => r' = r ∧ τ' = τ) (zPost ce n a D tys) (zF n a sz)) 0 0 (zF n a sz)
def zMl (ce : zCell) (n : Nat) (a : Nat → Nat) (D : va_G) (tys : List (ClassId × FieldType)) (E : zE) (l : Launch) (y : MethodName) (ws : List Cond) (rm : Room) (As : List Value) (σ : ZS) (r : Int64) (τ : ZS) : Prop := ∀ sz : Nat, Met l y ws rm (va_Pc As (zPre ce n a D tys E sz σ)) (va_Ql (fun (r' : Int64) (τ' : ZS) => r' = r ∧ τ' = τ) (zPost ce n a D tys) (zF n a sz)) 0 0 (zF n a sz)
def zMv (ce : zCell) (n : Nat) (a : Nat → Nat) (D : va_G) (tys : List (ClassId × FieldType)) (E : zE) (l : Launch) (y : MethodName) (ws : List Cond) (rm : Room) (As : List Value) (σ : ZS) (_ : Unit) (τ : ZS) : Prop := ∀ sz : Nat, Met l y ws rm (va_Pc As (zPre ce n a D tys E sz σ)) (va_Qv (fun (τ' : ZS) => τ' = τ) (zPost ce n a D tys) (zF n a sz)) 0 0 (zF n a sz)
def zMr (ce : zCell) (n : Nat) (a : Nat → Nat) (D : va_G) (tys : List (ClassId × FieldType)) (E : zE) (l : Launch) (y : MethodName) (ws : List Cond) (rm : Room) (As : List Value) (σ : ZS) (r : Nat) (τ : ZS) : Prop := ∀ sz : Nat, Met l y ws rm (va_Pc As (zPre ce n a D tys E sz σ)) (va_Qr (fun (τ' : ZS) => τ' = τ) (fun (τ' : ZS) (q : Nat) (t : State) => q = r ∧ zPost ce n a D tys τ' t) (zF n a sz)) 0 0 (zF n a sz)
/-- what a walk stands on: the machine, the code, the words, the tables -/
def zX (p : Program) (s : State) (m : MethodId) (args : Array Value) (c : Code) (cc : ByteArray) (nL : Nat) (own : String) (Ts : List Cond) (D : va_G) (tys : List (ClassId × FieldType)) : Prop := p.tables.exec = Jvm.exec ∧ c.code = cc ∧ c.maxLocals = nL ∧ s.vm.findClass own = some m.cls ∧ (∀ w ∈ Ts, w.before args s = true) ∧ va_K D vwCl tys s
/-- loops -/
def zloop {σ ρ : Type} (F : (σ → Option ρ) → σ → Option ρ) : Nat → σ → Option ρ
  | 0, _ => none
  | n + 1, s => F (zloop F n) s
def zN : Nat := 5000
theorem zloop_0 {σ ρ : Type} {F : (σ → Option ρ) → σ → Option ρ} {s : σ} {x : ρ} {P : Prop} (h : zloop F 0 s = some x) : P := by cases h
/-- guards, calls -/
def zg {α : Type} (c : Bool) (k : Option α) : Option α := if c = true then k else none
theorem zg_some {α : Type} {c : Bool} {k : Option α} {x : α} (h : zg c k = some x) : c = true ∧ k = some x := by
  unfold zg at h
  split at h
  · exact ⟨by assumption, h⟩
  · cases h
theorem zg_t {α : Type} {c : Bool} {k : Option α} (h : c = true) : zg c k = k := by simp [zg, h]
def zb {α β : Type} (f : Option (α × ZS)) (k : α → ZS → Option β) : Option β := match f with
  | none => none
  | some q => k q.1 q.2
theorem zb_some {α β : Type} {f : Option (α × ZS)} {k : α → ZS → Option β} {x : β} (h : zb f k = some x) : ∃ r σ, f = some (r, σ) ∧ k r σ = some x := by
  cases f with
  | none => cases h
  | some q => exact ⟨q.1, q.2, rfl, h⟩
theorem zb_s {α β : Type} {f : Option (α × ZS)} {k : α → ZS → Option β} {r : α} {σ : ZS} (h : f = some (r, σ)) : zb f k = k r σ := by rw [h]; rfl
theorem zif_t {α : Type} {c : Prop} {dc : Decidable c} {A B x : α} (h : @ite α c dc A B = x) (hc : c) : A = x := by rw [← h, if_pos hc]
theorem zif_f {α : Type} {c : Prop} {dc : Decidable c} {A B x : α} (h : @ite α c dc A B = x) (hc : ¬ c) : B = x := by rw [← h, if_neg hc]
def zin (i : Int32) (n : Nat) : Bool := decide (0 ≤ i.toInt ∧ i.toInt < n)
theorem zin_in {i : Int32} {n : Nat} (h : zin i n = true) : vp_in i n := vp_in_iff.mpr (of_decide_eq_true h)
def zne (y : Int32) : Bool := decide (¬ y = 0)
theorem zne_ne {y : Int32} (h : zne y = true) : ¬ y = 0 := of_decide_eq_true h
def znl (y : Int64) : Bool := decide (¬ y = 0)
theorem znl_ne {y : Int64} (h : znl y = true) : ¬ y = 0 := of_decide_eq_true h
def zbo (v : Int32) : Bool := decide (v = 0 ∨ v = 1)
theorem zbo_n {v : Int32} (h : zbo v = true) : narrow .boolean (.int v) = .int v := by
  rcases of_decide_eq_true h with rfl | rfl <;> decide
theorem zbo_f {v : Int32} (h : zbo v = true) : fits .boolean (.int v) = true := by
  rcases of_decide_eq_true h with rfl | rfl <;> decide
theorem zres {α : Type} {v r : α} {σ τ : ZS} (h : some (v, σ) = some (r, τ)) : v = r ∧ σ = τ := by cases h; exact ⟨rfl, rfl⟩
section ZROWS
variable {p : Program} {l : Launch} {e : Env} {R : Room} {s : State} {m : MethodId} {args : Array Value} {below : List Frame} {meth : Method} {c : Code} {H : Heap} {locs : List Loc} {cells slots : Nat} {Q : State → Prop}
variable {cc : ByteArray} {pc : Nat} {ls : Array Slot} {rest : List Value} {D : va_G} {tys : List (ClassId × FieldType)} {nL : Nat} {own : String} {Ts : List Cond} {ce : zCell} {n : Nat} {a : Nat → Nat} {σ τ : ZS} {E : zE}
theorem z_get (X : zX p s m args c cc nL own Ts D tys) {C ref : String} {T : u_T} {N ci index : Nat} (hin : ∀ w ∈ u_ws C T N, w ∈ Ts) (hP : va_P D vwCl (zW ce n a σ) H) (q0 : Nat) (hq : q0 < n) {fs : List Value} (he : ce q0 (σ.1 q0) (σ.2 q0) = .inr (ci, fs)) (hc : vwCl[ci]? = some (C, T, N)) (k : Nat) (hk : k < N) (href : (T k).1 = ref) (hlink : Cond.fieldLink own index ref (T k).2.1 (T k).2.2.1 ∈ Ts) {v : Value} (hv : fs[k]? = some v) (hdg : decode cc pc = .ok (.getfield index, 3))
    (kk : W p l e R s m args below meth c H locs cells slots Q (F0 m (pc + 3) ls (v :: rest))) : W p l e R s m args below meth c H locs cells slots Q (F0 m pc ls (.ref (a q0) :: rest)) := by
  obtain ⟨hx, hb, -, hown, hts, hK⟩ := X
  subst href
  exact va_get hx hb hts hin hown hK hP q0 ((zW_get hq).trans (by rw [he])) hc k hk (hts _ hlink) (fun _ h => h) hv hdg kk
theorem z_put (X : zX p s m args c cc nL own Ts D tys) {C ref : String} {T : u_T} {N ci index : Nat} (hin : ∀ w ∈ u_ws C T N, w ∈ Ts) (ty0 : Nat → FieldType) (hty : ∀ k, k < N → parseFieldDescriptor (T k).2.2.1 = some (ty0 k)) (hnm : ∀ a, a < N → ∀ b, b < N → a ≠ b → (T a).2.1 ≠ (T b).2.1) (hA : zA n a) {sz : Nat} {H0 : Heap} (hP : va_P D vwCl (zW ce n a σ) H) (hS : va_S (zF n a sz) H0 H locs) (q0 : Nat) (hq : q0 < n) {fs : List Value} (he : ce q0 (σ.1 q0) (σ.2 q0) = .inr (ci, fs)) (hc : vwCl[ci]? = some (C, T, N)) (k : Nat) (hk : k < N) (href : (T k).1 = ref) (hlink : Cond.fieldLink own index ref (T k).2.1 (T k).2.2.1 ∈ Ts) (hfin : (T k).2.2.2 = false) {ty : FieldType} {v : Value} (hd : parseFieldDescriptor (T k).2.2.1 = some ty) (hn : narrow ty v = v) (hfit : fits ty v = true) (hl : k < fs.length) {x : Int32} (he2 : .inr (ci, fs.set k v) = ce q0 (upd (σ.1 q0) k x) (σ.2 q0)) (hdg : decode cc pc = .ok (.putfield index, 3))
    (kk : ∀ (H1 : Heap) (locs1 : List Loc), va_P D vwCl (zW ce n a (zI σ q0 k x)) H1 → va_S (zF n a sz) H0 H1 locs1 → W p l e R s m args below meth c H1 locs1 cells slots Q (F0 m (pc + 3) ls rest)) : W p l e R s m args below meth c H locs cells slots Q (F0 m pc ls (v :: .ref (a q0) :: rest)) := by
  obtain ⟨hx, hb, -, hown, hts, hK⟩ := X
  subst href
  refine va_put hx hb hts hin ty0 hty hnm hown hK hP (zD hA zF_in σ) hS q0 ((zW_get hq).trans (by rw [he])) hc k hk (hts _ hlink) (fun _ h => h) hfin hd hn hfit hl hdg (fun H1 locs1 hP1 _ hS1 => kk H1 locs1 ?_ hS1)
  rw [zW_setI hq he2] at hP1
  exact hP1
theorem z_putL (X : zX p s m args c cc nL own Ts D tys) {C ref : String} {T : u_T} {N ci index : Nat} (hin : ∀ w ∈ u_ws C T N, w ∈ Ts) (ty0 : Nat → FieldType) (hty : ∀ k, k < N → parseFieldDescriptor (T k).2.2.1 = some (ty0 k)) (hnm : ∀ a, a < N → ∀ b, b < N → a ≠ b → (T a).2.1 ≠ (T b).2.1) (hA : zA n a) {sz : Nat} {H0 : Heap} (hP : va_P D vwCl (zW ce n a σ) H) (hS : va_S (zF n a sz) H0 H locs) (q0 : Nat) (hq : q0 < n) {fs : List Value} (he : ce q0 (σ.1 q0) (σ.2 q0) = .inr (ci, fs)) (hc : vwCl[ci]? = some (C, T, N)) (k : Nat) (hk : k < N) (href : (T k).1 = ref) (hlink : Cond.fieldLink own index ref (T k).2.1 (T k).2.2.1 ∈ Ts) (hfin : (T k).2.2.2 = false) {ty : FieldType} {v : Value} (hd : parseFieldDescriptor (T k).2.2.1 = some ty) (hn : narrow ty v = v) (hfit : fits ty v = true) (hl : k < fs.length) {x : Int64} (he2 : .inr (ci, fs.set k v) = ce q0 (σ.1 q0) (vp_updL (σ.2 q0) k x)) (hdg : decode cc pc = .ok (.putfield index, 3))
    (kk : ∀ (H1 : Heap) (locs1 : List Loc), va_P D vwCl (zW ce n a (zL σ q0 k x)) H1 → va_S (zF n a sz) H0 H1 locs1 → W p l e R s m args below meth c H1 locs1 cells slots Q (F0 m (pc + 3) ls rest)) : W p l e R s m args below meth c H locs cells slots Q (F0 m pc ls (v :: .ref (a q0) :: rest)) := by
  obtain ⟨hx, hb, -, hown, hts, hK⟩ := X
  subst href
  refine va_put hx hb hts hin ty0 hty hnm hown hK hP (zD hA zF_in σ) hS q0 ((zW_get hq).trans (by rw [he])) hc k hk (hts _ hlink) (fun _ h => h) hfin hd hn hfit hl hdg (fun H1 locs1 hP1 _ hS1 => kk H1 locs1 ?_ hS1)
  rw [zW_setL hq he2] at hP1
  exact hP1
theorem z_iald (X : zX p s m args c cc nL own Ts D tys) (hP : va_P D vwCl (zW ce n a σ) H) (q0 t0 : Nat) (hq : q0 < n) {cA : ClassId} {z : Nat} (he : ce q0 (σ.1 q0) (σ.2 q0) = .inl (cA, z, .inl (σ.1 q0))) (ht : tys[t0]? = some (cA, .int)) {i : Int32} (hin : zin i z = true) (hdg : decode cc pc = .ok (.iaload, 1))
    (kk : W p l e R s m args below meth c H locs cells slots Q (F0 m (pc + 1) ls (.int (σ.1 q0 i.toNatClampNeg) :: rest))) : W p l e R s m args below meth c H locs cells slots Q (F0 m pc ls (.int i :: .ref (a q0) :: rest)) := by
  obtain ⟨hx, hb, -, hown, hts, hK⟩ := X
  exact va_iald hx hb hK hP q0 t0 ((zW_get hq).trans (by rw [he])) ht (zin_in hin) hdg kk
theorem z_cald (X : zX p s m args c cc nL own Ts D tys) (hP : va_P D vwCl (zW ce n a σ) H) (q0 t0 : Nat) (hq : q0 < n) {cA : ClassId} {z : Nat} (he : ce q0 (σ.1 q0) (σ.2 q0) = .inl (cA, z, .inl (σ.1 q0))) (ht : tys[t0]? = some (cA, .char)) {i : Int32} (hin : zin i z = true) (hdg : decode cc pc = .ok (.caload, 1))
    (kk : W p l e R s m args below meth c H locs cells slots Q (F0 m (pc + 1) ls (.int (σ.1 q0 i.toNatClampNeg) :: rest))) : W p l e R s m args below meth c H locs cells slots Q (F0 m pc ls (.int i :: .ref (a q0) :: rest)) := by
  obtain ⟨hx, hb, -, hown, hts, hK⟩ := X
  exact va_cald hx hb hK hP q0 t0 ((zW_get hq).trans (by rw [he])) ht (zin_in hin) hdg kk
theorem z_lald (X : zX p s m args c cc nL own Ts D tys) (hP : va_P D vwCl (zW ce n a σ) H) (q0 t0 : Nat) (hq : q0 < n) {cA : ClassId} {z : Nat} (he : ce q0 (σ.1 q0) (σ.2 q0) = .inl (cA, z, .inr (.inl (σ.2 q0)))) (ht : tys[t0]? = some (cA, .long)) {i : Int32} (hin : zin i z = true) (hdg : decode cc pc = .ok (.laload, 1))
    (kk : W p l e R s m args below meth c H locs cells slots Q (F0 m (pc + 1) ls (.long (σ.2 q0 i.toNatClampNeg) :: rest))) : W p l e R s m args below meth c H locs cells slots Q (F0 m pc ls (.int i :: .ref (a q0) :: rest)) := by
  obtain ⟨hx, hb, -, hown, hts, hK⟩ := X
  exact va_lald hx hb hK hP q0 t0 ((zW_get hq).trans (by rw [he])) ht (zin_in hin) hdg kk
theorem z_iast (X : zX p s m args c cc nL own Ts D tys) (hA : zA n a) {sz : Nat} {H0 : Heap} (hP : va_P D vwCl (zW ce n a σ) H) (hS : va_S (zF n a sz) H0 H locs) (q0 t0 : Nat) (hq : q0 < n) {cA : ClassId} {z : Nat} (he : ∀ f g, ce q0 f g = .inl (cA, z, .inl f)) (ht : tys[t0]? = some (cA, .int)) {i x : Int32} (hin : zin i z = true) (hdg : decode cc pc = .ok (.iastore, 1))
    (kk : ∀ (H1 : Heap) (locs1 : List Loc), va_P D vwCl (zW ce n a (zI σ q0 i.toNatClampNeg x)) H1 → va_S (zF n a sz) H0 H1 locs1 → W p l e R s m args below meth c H1 locs1 cells slots Q (F0 m (pc + 1) ls rest)) : W p l e R s m args below meth c H locs cells slots Q (F0 m pc ls (.int x :: .int i :: .ref (a q0) :: rest)) := by
  obtain ⟨hx, hb, -, hown, hts, hK⟩ := X
  refine va_iast hx hb hK hP (zD hA zF_in σ) hS q0 t0 ((zW_get hq).trans (by rw [he])) ht (zin_in hin) hdg (fun H1 locs1 hP1 _ hS1 => kk H1 locs1 ?_ hS1)
  rw [zW_setI hq (he _ _).symm] at hP1
  exact hP1
theorem z_last (X : zX p s m args c cc nL own Ts D tys) (hA : zA n a) {sz : Nat} {H0 : Heap} (hP : va_P D vwCl (zW ce n a σ) H) (hS : va_S (zF n a sz) H0 H locs) (q0 t0 : Nat) (hq : q0 < n) {cA : ClassId} {z : Nat} (he : ∀ f g, ce q0 f g = .inl (cA, z, .inr (.inl g))) (ht : tys[t0]? = some (cA, .long)) {i : Int32} {x : Int64} (hin : zin i z = true) (hdg : decode cc pc = .ok (.lastore, 1))
    (kk : ∀ (H1 : Heap) (locs1 : List Loc), va_P D vwCl (zW ce n a (zL σ q0 i.toNatClampNeg x)) H1 → va_S (zF n a sz) H0 H1 locs1 → W p l e R s m args below meth c H1 locs1 cells slots Q (F0 m (pc + 1) ls rest)) : W p l e R s m args below meth c H locs cells slots Q (F0 m pc ls (.long x :: .int i :: .ref (a q0) :: rest)) := by
  obtain ⟨hx, hb, -, hown, hts, hK⟩ := X
  refine va_last hx hb hK hP (zD hA zF_in σ) hS q0 t0 ((zW_get hq).trans (by rw [he])) ht (zin_in hin) hdg (fun H1 locs1 hP1 _ hS1 => kk H1 locs1 ?_ hS1)
  rw [zW_setL hq (he _ _).symm] at hP1
  exact hP1
theorem z_alen (X : zX p s m args c cc nL own Ts D tys) (hP : va_P D vwCl (zW ce n a σ) H) (q0 t0 : Nat) (hq : q0 < n) {cA : ClassId} {x : vp_A} (he : ce q0 (σ.1 q0) (σ.2 q0) = .inl (cA, x)) {ty : FieldType} (ht : tys[t0]? = some (cA, ty)) {v : Int32} (hv : Int32.ofNat x.1 = v) (hdg : decode cc pc = .ok (.arraylength, 1))
    (kk : W p l e R s m args below meth c H locs cells slots Q (F0 m (pc + 1) ls (.int v :: rest))) : W p l e R s m args below meth c H locs cells slots Q (F0 m pc ls (.ref (a q0) :: rest)) := by
  obtain ⟨hx, hb, -, hown, hts, hK⟩ := X
  exact va_alen hx hb hK hP q0 t0 ((zW_get hq).trans (by rw [he])) ht hv hdg kk
/-- returns -/
theorem z_iret (X : zX p s m args c cc nL own Ts D tys) (hP : va_P D vwCl (zW ce n a σ) H) (hS : va_S (zF n a s.heap.size) s.heap H locs) {v r : Int32} (hr : meth.sig.returnType = some .int) (hlocks : meth.locks = false) (h : some (v, σ) = some (r, τ)) (hdg : decode cc pc = .ok (.ireturn, 1)) : W p l e R s m args below meth c H locs 0 0 (MQ below (va_Qi (fun (r' : Int32) (τ' : ZS) => r' = r ∧ τ' = τ) (zPost ce n a D tys) (zF n a s.heap.size)) args s 0 0 (zF n a s.heap.size)) (F0 m pc ls [.int v]) := by
  obtain ⟨hx, hb, -, hown, hts, hK⟩ := X
  obtain ⟨rfl, rfl⟩ := zres h
  exact W.iret hx hb hr (fun t ht hW => ⟨⟨v, σ, rfl, ⟨rfl, rfl⟩, by rw [ht]; exact hP, va_K.moved hW.alike hK⟩, hS.F ht⟩) hS.2.2 hdg hlocks
theorem z_zret (X : zX p s m args c cc nL own Ts D tys) (hP : va_P D vwCl (zW ce n a σ) H) (hS : va_S (zF n a s.heap.size) s.heap H locs) {v r : Int32} {ty : FieldType} (hr : meth.sig.returnType = some ty) (hlocks : meth.locks = false) (hn : narrow ty (.int v) = .int v) (h : some (v, σ) = some (r, τ)) (hdg : decode cc pc = .ok (.ireturn, 1)) : W p l e R s m args below meth c H locs 0 0 (MQ below (va_Qi (fun (r' : Int32) (τ' : ZS) => r' = r ∧ τ' = τ) (zPost ce n a D tys) (zF n a s.heap.size)) args s 0 0 (zF n a s.heap.size)) (F0 m pc ls [.int v]) := by
  obtain ⟨hx, hb, -, hown, hts, hK⟩ := X
  obtain ⟨rfl, rfl⟩ := zres h
  exact W.zret hx hb hr hn (fun t ht hW => ⟨⟨v, σ, rfl, ⟨rfl, rfl⟩, by rw [ht]; exact hP, va_K.moved hW.alike hK⟩, hS.F ht⟩) hS.2.2 hdg hlocks
theorem z_lret (X : zX p s m args c cc nL own Ts D tys) (hP : va_P D vwCl (zW ce n a σ) H) (hS : va_S (zF n a s.heap.size) s.heap H locs) {v r : Int64} (hr : meth.sig.returnType = some .long) (hlocks : meth.locks = false) (h : some (v, σ) = some (r, τ)) (hdg : decode cc pc = .ok (.lreturn, 1)) : W p l e R s m args below meth c H locs 0 0 (MQ below (va_Ql (fun (r' : Int64) (τ' : ZS) => r' = r ∧ τ' = τ) (zPost ce n a D tys) (zF n a s.heap.size)) args s 0 0 (zF n a s.heap.size)) (F0 m pc ls [.long v]) := by
  obtain ⟨hx, hb, -, hown, hts, hK⟩ := X
  obtain ⟨rfl, rfl⟩ := zres h
  exact W.lret hx hb hr (fun t ht hW => ⟨⟨v, σ, rfl, ⟨rfl, rfl⟩, by rw [ht]; exact hP, va_K.moved hW.alike hK⟩, hS.F ht⟩) hS.2.2 hdg hlocks
theorem z_vret (X : zX p s m args c cc nL own Ts D tys) (hP : va_P D vwCl (zW ce n a σ) H) (hS : va_S (zF n a s.heap.size) s.heap H locs) {r : Unit} (hr : meth.sig.returnType = none) (hlocks : meth.locks = false) (h : some ((), σ) = some (r, τ)) (hdg : decode cc pc = .ok (.return_, 1)) : W p l e R s m args below meth c H locs 0 0 (MQ below (va_Qv (fun (τ' : ZS) => τ' = τ) (zPost ce n a D tys) (zF n a s.heap.size)) args s 0 0 (zF n a s.heap.size)) (F0 m pc ls []) := by
  obtain ⟨hx, hb, -, hown, hts, hK⟩ := X
  obtain ⟨-, rfl⟩ := zres h
  exact W.vret hx hb hr (fun t ht hW => ⟨⟨σ, rfl, rfl, by rw [ht]; exact hP, va_K.moved hW.alike hK⟩, hS.F ht⟩) hS.2.2 hdg hlocks
/-- calls: the whole world goes, and comes back -/
theorem z_pre (hG : zGood E) (hA : zA n a) (hK : va_K D vwCl tys s) (hE : E (zF n a s.heap.size) s s.heap) (hP : va_P D vwCl (zW ce n a σ) H) (hS : va_S (zF n a s.heap.size) s.heap H locs) (As : List Value) : FrameBlind (va_Pc As (zPre ce n a D tys E H.size σ)) ∧ ∀ U : State, U.heap = H → s.WarmedH U.vm → va_Pc As (zPre ce n a D tys E H.size σ) As.toArray U := by
  obtain ⟨g1, g2, g3, g4⟩ := hG
  refine ⟨fun b U g mk q => ?_, fun U hU hW => ⟨rfl, by rw [hU], by rw [hU]; exact hP, va_K.moved hW.alike hK, hA, ?_⟩⟩
  · obtain ⟨q0, q1, qP, qK, qA, qE⟩ := q
    exact ⟨q0, q1, qP, va_K.moved (u := U) (U := U.calling g mk b) (Vm.Alike.refl U.vm) qK, qA, g4 _ _ _ g mk b qE⟩
  · rw [hU]
    exact g1 _ _ _ _ (zF_sub hS.1) (g2 _ _ _ _ hW (g3 _ _ _ _ hS.2.1 hE))
theorem z_recv (hK : va_K D vwCl tys s) (hP : va_P D vwCl (zW ce n a σ) H) (q0 : Nat) (hq : q0 < n) {fs : List Value} {ci : Nat} {q : vw_C} (he : ce q0 (σ.1 q0) (σ.2 q0) = .inr (ci, fs)) (hc : vwCl[ci]? = some q) : ∃ cell : Cell, H[a q0]? = some cell ∧ cell.vm.isStatics = false ∧ s.vm.findClass q.1 = some cell.cls :=
  va_recv hK hP hc ((zW_get hq).trans (by rw [he]))
theorem z_calli {st0 : List Value} {av : Array Value} (hS : va_S (zF n a s.heap.size) s.heap H locs) {r0 : Int32}
    (hr : va_Run p l e R s m args below meth c H locs 0 0 0 0 (F0 m pc ls st0) rest (va_Qi (fun (r' : Int32) (τ' : ZS) => r' = r0 ∧ τ' = τ) (zPost ce n a D tys) (zF n a H.size) av) (zF n a H.size))
    (kk : ∀ (H1 : Heap) (locs1 : List Loc), va_P D vwCl (zW ce n a τ) H1 → va_S (zF n a s.heap.size) s.heap H1 locs1 → W p l e R s m args below meth c H1 locs1 0 0 Q (F0 m (pc + 3) ls (.int r0 :: rest))) : W p l e R s m args below meth c H locs 0 0 Q (F0 m pc ls st0) := by
  refine va_calli hr hS (fun q _ h => zF_sub hS.1 q h) (zF_sub hS.1) (fun r u t H1 locs1 ht _ hp hB _ _ hS1 => ?_)
  obtain ⟨rfl, rfl⟩ := hp
  exact kk H1 locs1 (by rw [← ht]; exact hB.1) hS1
theorem z_calll {st0 : List Value} {av : Array Value} (hS : va_S (zF n a s.heap.size) s.heap H locs) {r0 : Int64}
    (hr : va_Run p l e R s m args below meth c H locs 0 0 0 0 (F0 m pc ls st0) rest (va_Ql (fun (r' : Int64) (τ' : ZS) => r' = r0 ∧ τ' = τ) (zPost ce n a D tys) (zF n a H.size) av) (zF n a H.size))
    (kk : ∀ (H1 : Heap) (locs1 : List Loc), va_P D vwCl (zW ce n a τ) H1 → va_S (zF n a s.heap.size) s.heap H1 locs1 → W p l e R s m args below meth c H1 locs1 0 0 Q (F0 m (pc + 3) ls (.long r0 :: rest))) : W p l e R s m args below meth c H locs 0 0 Q (F0 m pc ls st0) := by
  refine va_calll hr hS (fun q _ h => zF_sub hS.1 q h) (zF_sub hS.1) (fun r u t H1 locs1 ht _ hp hB _ _ hS1 => ?_)
  obtain ⟨rfl, rfl⟩ := hp
  exact kk H1 locs1 (by rw [← ht]; exact hB.1) hS1
theorem z_callv {st0 : List Value} {av : Array Value} (hS : va_S (zF n a s.heap.size) s.heap H locs)
    (hr : va_Run p l e R s m args below meth c H locs 0 0 0 0 (F0 m pc ls st0) rest (va_Qv (fun (τ' : ZS) => τ' = τ) (zPost ce n a D tys) (zF n a H.size) av) (zF n a H.size))
    (kk : ∀ (H1 : Heap) (locs1 : List Loc), va_P D vwCl (zW ce n a τ) H1 → va_S (zF n a s.heap.size) s.heap H1 locs1 → W p l e R s m args below meth c H1 locs1 0 0 Q (F0 m (pc + 3) ls rest)) : W p l e R s m args below meth c H locs 0 0 Q (F0 m pc ls st0) := by
  refine va_callv hr hS (fun q _ h => zF_sub hS.1 q h) (zF_sub hS.1) (fun u t H1 locs1 ht _ hp hB _ _ hS1 => ?_)
  subst hp
  exact kk H1 locs1 (by rw [← ht]; exact hB.1) hS1
theorem z_callr {st0 : List Value} {av : Array Value} (hS : va_S (zF n a s.heap.size) s.heap H locs) {r0 : Nat}
    (hr : va_Run p l e R s m args below meth c H locs 0 0 0 0 (F0 m pc ls st0) rest (va_Qr (fun (τ' : ZS) => τ' = τ) (fun (τ' : ZS) (q : Nat) (t : State) => q = r0 ∧ zPost ce n a D tys τ' t) (zF n a H.size) av) (zF n a H.size))
    (kk : ∀ (H1 : Heap) (locs1 : List Loc), va_P D vwCl (zW ce n a τ) H1 → va_S (zF n a s.heap.size) s.heap H1 locs1 → W p l e R s m args below meth c H1 locs1 0 0 Q (F0 m (pc + 3) ls (.ref r0 :: rest))) : W p l e R s m args below meth c H locs 0 0 Q (F0 m pc ls st0) := by
  refine va_callr hr hS (fun q _ h => zF_sub hS.1 q h) (zF_sub hS.1) (fun u ra t H1 locs1 ht _ hp hB _ _ hS1 => ?_)
  subst hp
  obtain ⟨rfl, hB⟩ := hB
  exact kk H1 locs1 (by rw [← ht]; exact hB.1) hS1
variable {y : MethodName} {bytes : ByteArray} {maxL nn index : Nat} {ret : Option FieldType} {ws : List Cond} {rm : Room} {As st0 : List Value} {Qc : Array Value → State → Outcome → State → Prop}
theorem z_runV (X : zX p s m args c cc nL own Ts D tys) (hG : zGood E) (hA : zA n a) (hE : E (zF n a s.heap.size) s s.heap) (hP : va_P D vwCl (zW ce n a σ) H) (hS : va_S (zF n a s.heap.size) s.heap H locs) {C : String} (q0 : Nat)
    (hM : Met l y ws rm (va_Pc (.ref (a q0) :: As) (zPre ce n a D tys E H.size σ)) Qc 0 0 (zF n a H.size)) (cw : CallW R s args own C index y bytes maxL ret ws rm 0 0 nn) (hq : q0 < n) {fs : List Value} {ci : Nat} {q : vw_C} (he : ce q0 (σ.1 q0) (σ.2 q0) = .inr (ci, fs)) (hc : vwCl[ci]? = some q) (hC : q.1 = C)
    (hn : As.length = nn) (hsize : ls.size = nL) (hst : st0 = As.reverse ++ .ref (a q0) :: rest) (hW : (rest.map fun v => v.category).sum ≤ 8) (hdg : decode cc pc = .ok (.invokevirtual index, 3)) :
    va_Run p l e R s m args below meth c H locs 0 0 0 0 (F0 m pc ls st0) rest (Qc (Value.ref (a q0) :: As).toArray) (zF n a H.size) := by
  obtain ⟨hx, hb, hml, hown, hts, hK⟩ := X
  obtain ⟨b1, b2⟩ := z_pre hG hA hK hE hP hS (.ref (a q0) :: As)
  subst hC
  exact va_runV (g := F0 m pc ls st0) ⟨hx, hb, hml, hown, hts⟩ hM cw ⟨b1, z_recv hK hP q0 hq he hc, b2⟩ rfl hn hsize hst (lv_room hW) hdg ⟨Nat.zero_le _, Nat.zero_le _⟩
theorem z_runS (X : zX p s m args c cc nL own Ts D tys) (hG : zGood E) (hA : zA n a) (hE : E (zF n a s.heap.size) s s.heap) (hP : va_P D vwCl (zW ce n a σ) H) (hS : va_S (zF n a s.heap.size) s.heap H locs)
    (hM : Met l y ws rm (va_Pc As (zPre ce n a D tys E H.size σ)) Qc 0 0 (zF n a H.size)) (cw : CallB R s args own index y bytes maxL ret ws rm 0 0 nn ∧ (Cond.static y).before args s = true)
    (hn : As.length = nn) (hsize : ls.size = nL) (hst : st0 = As.reverse ++ rest) (hW : (rest.map fun v => v.category).sum ≤ 8) (hdg : decode cc pc = .ok (.invokestatic index, 3)) :
    va_Run p l e R s m args below meth c H locs 0 0 0 0 (F0 m pc ls st0) rest (Qc As.toArray) (zF n a H.size) := by
  obtain ⟨hx, hb, hml, hown, hts, hK⟩ := X
  obtain ⟨b1, b2⟩ := z_pre hG hA hK hE hP hS As
  exact va_runS (g := F0 m pc ls st0) ⟨hx, hb, hml, hown, hts⟩ hM cw ⟨b1, b2⟩ rfl hn hsize hst (lv_room hW) hdg ⟨Nat.zero_le _, Nat.zero_le _⟩
theorem z_runSN (X : zX p s m args c cc nL own Ts D tys) (hG : zGood E) (hA : zA n a) (hE : E (zF n a s.heap.size) s s.heap) (hP : va_P D vwCl (zW ce n a σ) H) (hS : va_S (zF n a s.heap.size) s.heap H locs) {host : String}
    (hM : Met l y ws rm (va_Pc As (zPre ce n a D tys E H.size σ)) Qc 0 0 (zF n a H.size)) (cw : va_CN R s args own index y host bytes maxL ret ws rm 0 0 nn) (hst2 : Cond.static y ∈ Ts)
    (hn : As.length = nn) (hsize : ls.size = nL) (hst : st0 = As.reverse ++ rest) (hW : (rest.map fun v => v.category).sum ≤ 8) (hdg : decode cc pc = .ok (.invokestatic index, 3)) :
    va_Run p l e R s m args below meth c H locs 0 0 0 0 (F0 m pc ls st0) rest (Qc As.toArray) (zF n a H.size) := by
  obtain ⟨hx, hb, hml, hown, hts, hK⟩ := X
  obtain ⟨b1, b2⟩ := z_pre hG hA hK hE hP hS As
  exact va_runSN (g := F0 m pc ls st0) ⟨hx, hb, hml, hown, hts⟩ hM ⟨cw, hts _ hst2, trivial⟩ ⟨b1, b2⟩ rfl hn hsize hst (lv_room hW) hdg ⟨Nat.zero_le _, Nat.zero_le _⟩
end ZROWS
/-- a method's start -/
theorem z_start {l : Launch} {y : MethodName} {ws ws' : List Cond} {rm : Room} {cc : ByteArray} {maxL : Nat} {ret : Option FieldType} {As : List Value} {ce : zCell} {n : Nat} {a : Nat → Nat} {D : va_G} {tys : List (ClassId × FieldType)} {E : zE} {σ : ZS} {Qc : Nat → Array Value → State → Outcome → State → Prop} (own : String) (hown : y.cls = own) (hy : plainName y.cls = true) (hw : ws = Cond.code y cc maxL ret :: ws') (hlen : (lg_sl As).length ≤ maxL)
    (body : ∀ (p : Program) (e : Env) (s : State) (m : MethodId) (args : Array Value) (below : List Frame) (meth : Method) (c : Code) (ls : Array Slot) (H : Heap) (locs : List Loc), zX p s m args c cc maxL own ws D tys → meth.sig.returnType = ret → meth.locks = false → zA n a → E (zF n a s.heap.size) s s.heap → va_P D vwCl (zW ce n a σ) H → va_S (zF n a s.heap.size) s.heap H locs → lv_has ls maxL (lv_args 0 As) → W p l e rm s m args below meth c H locs 0 0 (MQ below (Qc s.heap.size) args s 0 0 (zF n a s.heap.size)) (F0 m 0 ls [])) :
    ∀ sz : Nat, Met l y ws rm (va_Pc As (zPre ce n a D tys E sz σ)) (Qc sz) 0 0 (zF n a sz) := by
  intro sz
  refine Met.ofW (cc := cc) (maxL := maxL) (ret := ret) hy hw ?_
  intro p e s m args below meth c s₁ B hml hv
  obtain ⟨rfl, hsz, hP, hK, hA, hE⟩ := hv
  have hts := atoms_spec (ws := ws) B.pre
  have ho : s.vm.findClass own = some m.cls := by rw [← hown]; exact findClass_of_methodNamed B.named
  subst hsz
  have hl := lv_entry As (n := maxL) hlen
  rw [lg_entry_eq]
  generalize (lg_sl As ++ List.replicate (maxL - (lg_sl As).length) Slot.unset).toArray = ls at hl ⊢
  exact body p e s m As.toArray below meth c ls s.heap [] ⟨B.exec, B.bytes, hml, ho, hts, hK⟩ B.returns B.notSynchronized hA hE hP va_S.rf hl
