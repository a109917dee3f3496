def zcL (b : Nat) (a : Nat → Nat) (cI cJ _cC : ClassId) : zCell := fun q f g => match q with
  | 0 => .inr (0, [.ref b, .ref (a 1), .ref (a 2), .long (g 3), .int (f 4)])
  | 1 => .inl (cI, 40, .inl f)
  | 2 => .inl (cJ, 5, .inr (.inl g))
  | _ => .inl (cI, 0, .inl f)
theorem zcL_0 (b : Nat) (a : Nat → Nat) (cI cJ cC : ClassId) (f : Nat → Int32) (g : Nat → Int64) : zcL b a cI cJ cC 0 f g = .inr (0, [.ref b, .ref (a 1), .ref (a 2), .long (g 3), .int (f 4)]) := rfl
theorem zcL_1 (b : Nat) (a : Nat → Nat) (cI cJ cC : ClassId) (f : Nat → Int32) (g : Nat → Int64) : zcL b a cI cJ cC 1 f g = .inl (cI, 40, .inl f) := rfl
theorem zcL_2 (b : Nat) (a : Nat → Nat) (cI cJ cC : ClassId) (f : Nat → Int32) (g : Nat → Int64) : zcL b a cI cJ cC 2 f g = .inl (cJ, 5, .inr (.inl g)) := rfl
def fX0_clear_L_2b  (r2 : Int32 → ZS → Option (Unit × ZS)) (x1 : Int32) (s : ZS) : Option (Unit × ZS) := if (5 : Int32) ≤ x1 then (some ((), (zI (zL s 0 3 (1 : Int64)) 0 4 (0 : Int32)))) else (zg (zin x1 5) (r2 ((x1 + (1 : Int32))) ((zL s 2 (x1).toNatClampNeg (1 : Int64)))))
def fX0_clear_L_2n  (n : Nat) (s : Int32 × ZS) : Option (Unit × ZS) := zloop (fun r s => fX0_clear_L_2b  (fun x1 s => r (x1, s)) (s.1) (s.2)) n s
def fX0_clear_L_2  (x1 : Int32) (s : ZS) : Option (Unit × ZS) := fX0_clear_L_2n  zN (x1, s)
def fX0_clear_L  (s : ZS) : Option (Unit × ZS) := fX0_clear_L_2 ((0 : Int32)) (s)
def zs0 : ZS := (fun _ _ => 0, fun _ _ => 0)
def zad3 (x y z : Nat) : Nat → Nat := fun k => match k with
  | 0 => x
  | 1 => y
  | _ => z
theorem zA3_of {x y z : Nat} (h1 : x ≠ y) (h2 : x ≠ z) (h3 : y ≠ z) : zA 3 (zad3 x y z) := by
  intro i j hi hj e
  rcases (show i = 0 ∨ i = 1 ∨ i = 2 by omega) with rfl | rfl | rfl <;> rcases (show j = 0 ∨ j = 1 ∨ j = 2 by omega) with rfl | rfl | rfl <;> first | rfl | exact absurd e (by assumption) | exact absurd e.symm (by assumption)
/-! calls from a frame whose writable cells are any: the world goes, the rest stays -/
section ZWC
variable {p : Program} {l : Launch} {e : Env} {R : Room} {s : State} {m : MethodId} {args : Array Value} {below : List Frame} {meth : Method} {c : Code} {H : Heap} {locs : List Loc} {cells slots : Nat} {Q : State → Prop}
variable {cc : ByteArray} {pc : Nat} {ls : Array Slot} {rest : List Value} {D : va_G} {tys tys' : List (ClassId × FieldType)} {nL : Nat} {own : String} {Ts : List Cond} {ce : zCell} {n : Nat} {a : Nat → Nat} {σ τ : ZS} {E : zE} {A : Nat → Prop}
variable {y : MethodName} {bytes : ByteArray} {maxL nn index : Nat} {ret : Option FieldType} {ws : List Cond} {rm : Room} {As st0 : List Value} {Qc : Array Value → State → Outcome → State → Prop}
theorem zw_sub (hAd : ∀ i, i < n → A (a i)) (hA : ∀ q, s.heap.size ≤ q → A q) (h : s.heap.size ≤ H.size) : ∀ q, zF n a H.size q → A q := by
  intro q hq
  rcases hq with ⟨i, hi, rfl⟩ | h2
  · exact hAd i hi
  · exact hA q (Nat.le_trans h h2)
theorem zw_run (hx : p.tables.exec = Jvm.exec) (hb : c.code = cc) (hml : c.maxLocals = nL) (hown : s.vm.findClass own = some m.cls) (hts : ∀ w ∈ Ts, w.before args s = true) (hK : va_K D vwCl tys s) (hG : zGood E) (hz : zA n a) (hAd : ∀ i, i < n → A (a i)) (hA : ∀ q, s.heap.size ≤ q → A q) (hE : E A s s.heap) (hP : va_P D vwCl (zW ce n a σ) H) (hS : va_S A s.heap H locs) {C : String} (q0 : Nat)
    (hM : Met l y ws rm (va_Pc (.ref (a q0) :: As) (zPre ce n a D tys E H.size σ)) Qc 0 0 (zF n a H.size)) (cw : CallW R s args own C index y bytes maxL ret ws rm 0 0 nn) (hq : q0 < n) {fs : List Value} {ci : Nat} {q : vw_C} (he : ce q0 (σ.1 q0) (σ.2 q0) = .inr (ci, fs)) (hc : vwCl[ci]? = some q) (hC : q.1 = C)
    (hn : As.length = nn) (hsize : ls.size = nL) (hst : st0 = As.reverse ++ .ref (a q0) :: rest) (hW : (rest.map fun v => v.category).sum ≤ 8) (hcs : cells ≤ R.cells ∧ slots ≤ R.slots) (hdg : decode cc pc = .ok (.invokevirtual index, 3)) :
    va_Run p l e R s m args below meth c H locs cells slots 0 0 (F0 m pc ls st0) rest (Qc (Value.ref (a q0) :: As).toArray) (zF n a H.size) := by
  subst hC
  obtain ⟨g1, g2, g3, g4⟩ := hG
  refine va_runV (g := F0 m pc ls st0) ⟨hx, hb, hml, hown, hts⟩ hM cw ⟨fun b U g mk q => ?_, z_recv hK hP q0 hq he hc, fun U hU hW => ⟨rfl, by rw [hU], by rw [hU]; exact hP, va_K.moved hW.alike hK, hz, ?_⟩⟩ rfl hn hsize hst (lv_room hW) hdg hcs
  · obtain ⟨q0, q1, qP, qK, qA, qE⟩ := q
    exact ⟨q0, q1, qP, va_K.moved (u := U) (U := U.calling g mk b) (Vm.Alike.refl U.vm) qK, qA, g4 _ _ _ g mk b qE⟩
  · rw [hU]
    exact g1 _ _ _ _ (zw_sub hAd hA hS.1) (g2 _ _ _ _ hW (g3 _ _ _ _ hS.2.1 hE))
theorem zw_callv {av : Array Value} (hAd : ∀ i, i < n → A (a i)) (hA : ∀ q, s.heap.size ≤ q → A q) (hS : va_S A s.heap H locs)
    (hr : va_Run p l e R s m args below meth c H locs cells slots 0 0 (F0 m pc ls st0) rest (va_Qv (fun (τ' : ZS) => τ' = τ) (zPost ce n a D tys) (zF n a H.size) av) (zF n a H.size))
    (kk : ∀ (H1 : Heap) (locs1 : List Loc), va_P D vwCl (zW ce n a τ) H1 → va_S A s.heap H1 locs1 → (∀ q : Nat, q < H.size → ¬ zF n a H.size q → H1[q]? = H[q]?) → W p l e R s m args below meth c H1 locs1 cells slots Q (F0 m (pc + 3) ls rest)) : W p l e R s m args below meth c H locs cells slots Q (F0 m pc ls st0) := by
  refine va_callv hr hS (fun q _ h => zw_sub hAd hA hS.1 q h) (zw_sub hAd hA hS.1) (fun u t H1 locs1 ht _ hp hB _ hk hS1 => ?_)
  subst hp
  exact kk H1 locs1 (by rw [← ht]; exact hB.1) hS1 hk
theorem zw_calli {av : Array Value} {r0 : Int32} (hAd : ∀ i, i < n → A (a i)) (hA : ∀ q, s.heap.size ≤ q → A q) (hS : va_S A s.heap H locs)
    (hr : va_Run p l e R s m args below meth c H locs cells slots 0 0 (F0 m pc ls st0) rest (va_Qi (fun (r' : Int32) (τ' : ZS) => r' = r0 ∧ τ' = τ) (zPost ce n a D tys) (zF n a H.size) av) (zF n a H.size))
    (kk : ∀ (H1 : Heap) (locs1 : List Loc), va_P D vwCl (zW ce n a τ) H1 → va_S A s.heap H1 locs1 → (∀ q : Nat, q < H.size → ¬ zF n a H.size q → H1[q]? = H[q]?) → W p l e R s m args below meth c H1 locs1 cells slots Q (F0 m (pc + 3) ls (.int r0 :: rest))) : W p l e R s m args below meth c H locs cells slots Q (F0 m pc ls st0) := by
  refine va_calli hr hS (fun q _ h => zw_sub hAd hA hS.1 q h) (zw_sub hAd hA hS.1) (fun r u t H1 locs1 ht _ hp hB _ hk hS1 => ?_)
  obtain ⟨rfl, rfl⟩ := hp
  exact kk H1 locs1 (by rw [← ht]; exact hB.1) hS1 hk
theorem zw_calll {av : Array Value} {r0 : Int64} (hAd : ∀ i, i < n → A (a i)) (hA : ∀ q, s.heap.size ≤ q → A q) (hS : va_S A s.heap H locs)
    (hr : va_Run p l e R s m args below meth c H locs cells slots 0 0 (F0 m pc ls st0) rest (va_Ql (fun (r' : Int64) (τ' : ZS) => r' = r0 ∧ τ' = τ) (zPost ce n a D tys) (zF n a H.size) av) (zF n a H.size))
    (kk : ∀ (H1 : Heap) (locs1 : List Loc), va_P D vwCl (zW ce n a τ) H1 → va_S A s.heap H1 locs1 → (∀ q : Nat, q < H.size → ¬ zF n a H.size q → H1[q]? = H[q]?) → W p l e R s m args below meth c H1 locs1 cells slots Q (F0 m (pc + 3) ls (.long r0 :: rest))) : W p l e R s m args below meth c H locs cells slots Q (F0 m pc ls st0) := by
  refine va_calll hr hS (fun q _ h => zw_sub hAd hA hS.1 q h) (zw_sub hAd hA hS.1) (fun r u t H1 locs1 ht _ hp hB _ hk hS1 => ?_)
  obtain ⟨rfl, rfl⟩ := hp
  exact kk H1 locs1 (by rw [← ht]; exact hB.1) hS1 hk
/-- another world, apart from the one that went, stays -/
theorem zw_kept {ce2 : zCell} {n2 : Nat} {a2 : Nat → Nat} {σ2 : ZS} {H1 : Heap} (hP : va_P D vwCl (zW ce2 n2 a2 σ2) H) (hd : ∀ i j, i < n → j < n2 → a i ≠ a2 j) (hk : ∀ q : Nat, q < H.size → ¬ zF n a H.size q → H1[q]? = H[q]?) : va_P D vwCl (zW ce2 n2 a2 σ2) H1 := by
  refine hP.kept (fun k x hx => ?_)
  have hl := (hP k x hx).lt
  obtain ⟨h1, h2⟩ := zW_some hx
  refine hk x.1 hl (fun h => ?_)
  rcases h with ⟨i, hi, e⟩ | h
  · exact hd i k hi h1 (by rw [← e, h2])
  · omega
end ZWC
abbrev rmX0_clear_L : Room := { frames := 0, cells := 0, slots := 0, locals := 0 }
set_option maxHeartbeats 4000000 in
set_option maxRecDepth 100000 in
theorem kX0_clear_L {l : Launch} {D : va_G} {a : Nat → Nat} {cI cJ cC : ClassId} {b : Nat}  {s τ : ZS} {r : Unit} (h : fX0_clear_L  s = some (r, τ)) : zMv (zcL b a cI cJ cC) 3 a D [(cI, .int), (cJ, .long), (cC, .char)] zEM l yX0_clear wsX0_clear rmX0_clear_L [.ref (a 0)] s r τ := by
  refine z_start (cc := cX0_clear) (maxL := 2) (ret := none) RX0 rfl (by decide) rfl (Nat.le_of_ble_eq_true rfl) ?_
  intro p e st m args below meth c ls H locs X hr hlocks hA hE hP hS hl
  obtain ⟨hx, hb, hml, hown, hts, -⟩ := id X
  have hG := zEM_good
  have inX0 : ∀ w ∈ u_ws RX0 TX0 5, w ∈ wsX0_clear := by decide +kernel
  have w2 : ∀  (n : Nat) (x1 : Int32) (s : ZS) (H : Heap) (locs : List Loc) (ls : Array Slot), fX0_clear_L_2n  n (x1, s) = some (r, τ) → va_P D vwCl (zW (zcL b a cI cJ cC) 3 a s) H → va_S (zF 3 a st.heap.size) st.heap H locs → lv_has ls 2 [(0, .ref (a 0)), (1, .int x1)] → W p l e rmX0_clear_L st m args below meth c H locs 0 0 (MQ below (va_Qv (fun (τ' : ZS) => τ' = τ) (zPost (zcL b a cI cJ cC) 3 a D [(cI, .int), (cJ, .long), (cC, .char)]) (zF 3 a st.heap.size)) args st 0 0 (zF 3 a st.heap.size)) (F0 m 2 ls []) := by
    intro  n
    induction n with
    | zero => intro x1 s H locs ls h; exact zloop_0 h
    | succ n ih =>
      intro x1 s H locs ls h hP hS hl
      have h : fX0_clear_L_2b  (fun x1 s => fX0_clear_L_2n  n (x1, s)) x1 s = some (r, τ) := h
      refine lv_iload_n hx hb dX0_clear_2 rfl (lv_at hl 1 rfl) ?_
      refine lv_iconst (v := 5) hx hb dX0_clear_3 (by decide) ?_
      refine lv_icmp_ge (tgt := 20) hx hb dX0_clear_4 (by decide) (fun c1 => ?_) (fun c1 => ?_)
      · have h := zif_t h c1
        refine lv_aload_n hx hb dX0_clear_20 rfl (lv_at hl 0 rfl) ?_
        refine lv_lconst (v := 1) hx hb dX0_clear_21 (by decide) ?_
        refine z_putL (ty := .long) (x := (1 : Int64)) (C := RX0) (T := TX0) (N := 5) X inX0 tyX0 tyX0_ok nmX0 hA hP hS 0 (by decide) (zcL_0 b _ _ _ _ _ _) rfl 3 (by decide) rfl (by decide +kernel) rfl (by decide +kernel) rfl rfl (Nat.le_of_ble_eq_true rfl) rfl dX0_clear_22 (fun H locs hP hS => ?_)
        refine lv_aload_n hx hb dX0_clear_25 rfl (lv_at hl 0 rfl) ?_
        refine lv_iconst (v := 0) hx hb dX0_clear_26 (by decide) ?_
        refine z_put (ty := .int) (x := (0 : Int32)) (C := RX0) (T := TX0) (N := 5) X inX0 tyX0 tyX0_ok nmX0 hA hP hS 0 (by decide) (zcL_0 b _ _ _ _ _ _) rfl 4 (by decide) rfl (by decide +kernel) rfl (by decide +kernel) rfl rfl (Nat.le_of_ble_eq_true rfl) rfl dX0_clear_27 (fun H locs hP hS => ?_)
        exact z_vret X hP hS hr hlocks h dX0_clear_30
      · have h := zif_f h c1
        refine lv_aload_n hx hb dX0_clear_7 rfl (lv_at hl 0 rfl) ?_
        refine z_get (C := RX0) (T := TX0) (N := 5) X inX0 hP 0 (by decide) (zcL_0 b _ _ _ _ _ _) rfl 2 (by decide) rfl (by decide +kernel) rfl dX0_clear_8 ?_
        refine lv_iload_n hx hb dX0_clear_11 rfl (lv_at hl 1 rfl) ?_
        refine lv_lconst (v := 1) hx hb dX0_clear_12 (by decide) ?_
        obtain ⟨g2, h⟩ := zg_some h
        refine z_last X hA hP hS 2 1 (by decide) (zcL_2 b _ _ _ _) rfl g2 dX0_clear_13 (fun H locs hP hS => ?_)
        refine lv_iinc (v := (x1 + (1 : Int32))) (lv' := [(1, .int (x1 + (1 : Int32))), (0, .ref (a 0))]) hx hb dX0_clear_14 hl (k := 1) rfl rfl (by decide) rfl (fun ls hl => ?_)
        refine lv_goto (tgt := 2) hx hb dX0_clear_17 (by decide) ?_
        exact ih ((x1 + (1 : Int32))) ((zL s 2 (x1).toNatClampNeg (1 : Int64))) _ _ _ h hP hS (lv_sub hl [1, 0] rfl)
  have hl : lv_has ls 2 [(0, .ref (a 0))] := hl
  refine lv_iconst (v := 0) hx hb dX0_clear_0 (by decide) ?_
  refine lv_istore_n (lv' := [(1, .int (0 : Int32)), (0, .ref (a 0))]) hx hb dX0_clear_1 rfl hl (by decide) rfl (fun ls hl => ?_)
  exact w2  zN ((0 : Int32)) (s) _ _ _ h hP hS (lv_sub hl [1, 0] rfl)
theorem fX0_clear_L_ok (s : ZS) : ∃ u τ, fX0_clear_L s = some (u, τ) := by
  exact ⟨_, _, rfl⟩
