abbrev rmX3_addStack : Room := { frames := 3, cells := 0, slots := 0, locals := 64 }
set_option maxHeartbeats 4000000 in
set_option maxRecDepth 100000 in
theorem kX3_addStack {l : Launch} {D : va_G} {a : Nat → Nat} {cI cJ cC : ClassId} {adK adV : Nat → Nat} {x2 : Int32} {s τ : ZS} {r : Int32} (h : fX3_addStack x2 s = some (r, τ)) : zMi (zcC a cI cJ cC) 41 a D [(cI, .int), (cJ, .long)] (zEC adK adV) l yX3_addStack wsX3_addStack rmX3_addStack [.ref (a 1), .ref (a 31), .int x2] s r τ := by
  refine z_start (cc := cX3_addStack) (maxL := 5) (ret := (some .int)) RX3 rfl (by decide) rfl (Nat.le_of_ble_eq_true rfl) ?_
  intro p e st m args below meth c ls H locs X hr hlocks hA hE hP hS hl
  obtain ⟨hx, hb, hml, hown, hts, -⟩ := id X
  have hG := zEC_good adK adV
  have inX3 : ∀ w ∈ u_ws RX3 TX3 10, w ∈ wsX3_addStack := by decide +kernel
  have w34 : ∀  (n : Nat) (x2 : Int32) (x3 : Int32) (x4 : Int32) (s : ZS) (H : Heap) (locs : List Loc) (ls : Array Slot), fX3_addStack_34n  n (x2, x3, x4, s) = some (r, τ) → va_P D vwCl (zW (zcC a cI cJ cC) 41 a s) H → va_S (zF 41 a st.heap.size) st.heap H locs → lv_has ls 5 [(0, .ref (a 1)), (1, .ref (a 31)), (2, .int x2), (3, .int x3), (4, .int x4)] → W p l e rmX3_addStack st m args below meth c H locs 0 0 (MQ below (va_Qi (fun (r' : Int32) (τ' : ZS) => r' = r ∧ τ' = τ) (zPost (zcC a cI cJ cC) 41 a D [(cI, .int), (cJ, .long)]) (zF 41 a st.heap.size)) args st 0 0 (zF 41 a st.heap.size)) (F0 m 34 ls []) := by
    intro  n
    induction n with
    | zero => intro x2 x3 x4 s H locs ls h; exact zloop_0 h
    | succ n ih =>
      intro x2 x3 x4 s H locs ls h hP hS hl
      have h : fX3_addStack_34b  (fun x2 x3 x4 s => fX3_addStack_34n  n (x2, x3, x4, s)) x2 x3 x4 s = some (r, τ) := h
      refine lv_iload hx hb dX3_addStack_34 (lv_at hl 4 rfl) ?_
      refine lv_iload_n hx hb dX3_addStack_36 rfl (lv_at hl 2 rfl) ?_
      refine lv_icmp_ge (tgt := 63) hx hb dX3_addStack_37 (by decide) (fun c1 => ?_) (fun c1 => ?_)
      · have h := zif_t h c1
        refine lv_iload_n hx hb dX3_addStack_63 rfl (lv_at hl 3 rfl) ?_
        exact z_iret X hP hS hr hlocks h dX3_addStack_64
      · have h := zif_f h c1
        refine lv_iload hx hb dX3_addStack_40 (lv_at hl 4 rfl) ?_
        refine lv_aload_n hx hb dX3_addStack_42 rfl (lv_at hl 1 rfl) ?_
        refine z_alen (v := 6) X hP 31 0 (by decide) (zcC_31 _ _ _ _ _ _) rfl rfl dX3_addStack_43 ?_
        refine lv_icmp_ge (tgt := 63) hx hb dX3_addStack_44 (by decide) (fun c2 => ?_) (fun c2 => ?_)
        · have h := zif_t h c2
          refine lv_iload_n hx hb dX3_addStack_63 rfl (lv_at hl 3 rfl) ?_
          exact z_iret X hP hS hr hlocks h dX3_addStack_64
        · have h := zif_f h c2
          refine lv_aload_n hx hb dX3_addStack_47 rfl (lv_at hl 0 rfl) ?_
          refine lv_iload_n hx hb dX3_addStack_48 rfl (lv_at hl 3 rfl) ?_
          refine lv_aload_n hx hb dX3_addStack_49 rfl (lv_at hl 1 rfl) ?_
          refine lv_iload hx hb dX3_addStack_50 (lv_at hl 4 rfl) ?_
          obtain ⟨g3, h⟩ := zg_some h
          refine z_iald X hP 31 0 (by decide) (zcC_31 _ _ _ _ _ _) rfl g3 dX3_addStack_52 ?_
          obtain ⟨u4, s4, e4, h⟩ := zb_some h
          refine z_calli hS (z_runV (As := [.int x3, .int ((s).1 31 (x4).toNatClampNeg)]) (rest := []) X hG hA hE hP hS 1 (kX3_layOn (l := l) (D := D) (a := a) (cI := cI) (cJ := cJ) (cC := cC) (adK := adK) (adV := adV) e4 _) (cwV 2 hts gX3_addStack_X3_layOn rfl rfl rfl (by decide +kernel) ⟨Nat.le_of_ble_eq_true rfl, Nat.le_of_ble_eq_true rfl⟩) (by decide) (zcC_1 _ _ _ _ _ _) rfl rfl rfl hl.1 rfl (Nat.le_of_ble_eq_true rfl) dX3_addStack_53) (fun H locs hP hS => ?_)
          refine lv_pop hx hb dX3_addStack_56 rfl ?_
          refine lv_iinc (v := (x4 + (1 : Int32))) (lv' := [(4, .int (x4 + (1 : Int32))), (0, .ref (a 1)), (1, .ref (a 31)), (2, .int x2), (3, .int x3)]) hx hb dX3_addStack_57 hl (k := 4) rfl rfl (by decide) rfl (fun ls hl => ?_)
          refine lv_goto (tgt := 34) hx hb dX3_addStack_60 (by decide) ?_
          exact ih (x2) (x3) ((x4 + (1 : Int32))) (s4) _ _ _ h hP hS (lv_sub hl [1, 2, 3, 4, 0] rfl)
  have hl : lv_has ls 5 [(0, .ref (a 1)), (1, .ref (a 31)), (2, .int x2)] := hl
  refine lv_aload_n hx hb dX3_addStack_0 rfl (lv_at hl 0 rfl) ?_
  refine z_get (C := RX3) (T := TX3) (N := 10) X inX3 hP 1 (by decide) (zcC_1 _ _ _ _ _ _) rfl 4 (by decide) rfl (by decide +kernel) rfl dX3_addStack_1 ?_
  refine lv_istore_n (lv' := [(3, .int ((s).1 1 4)), (0, .ref (a 1)), (1, .ref (a 31)), (2, .int x2)]) hx hb dX3_addStack_4 rfl hl (by decide) rfl (fun ls hl => ?_)
  refine lv_iload_n hx hb dX3_addStack_5 rfl (lv_at hl 0 rfl) ?_
  refine lv_bipush (v := 6) hx hb dX3_addStack_6 (by decide) ?_
  refine lv_icmp_lt (tgt := 14) hx hb dX3_addStack_8 (by decide) (fun c1 => ?_) (fun c1 => ?_)
  · have h := zif_t h c1
    refine lv_aload_n hx hb dX3_addStack_14 rfl (lv_at hl 1 rfl) ?_
    refine z_get (C := RX3) (T := TX3) (N := 10) X inX3 hP 1 (by decide) (zcC_1 _ _ _ _ _ _) rfl 5 (by decide) rfl (by decide +kernel) rfl dX3_addStack_15 ?_
    refine lv_iload_n hx hb dX3_addStack_18 rfl (lv_at hl 0 rfl) ?_
    refine lv_iconst (v := 0) hx hb dX3_addStack_19 (by decide) ?_
    obtain ⟨g2, h⟩ := zg_some h
    refine z_iast X hA hP hS 5 0 (by decide) (zcC_5 _ _ _ _) rfl g2 dX3_addStack_20 (fun H locs hP hS => ?_)
    refine lv_aload_n hx hb dX3_addStack_21 rfl (lv_at hl 1 rfl) ?_
    refine lv_dup hx hb dX3_addStack_22 rfl ?_
    refine z_get (C := RX3) (T := TX3) (N := 10) X inX3 hP 1 (by decide) (zcC_1 _ _ _ _ _ _) rfl 4 (by decide) rfl (by decide +kernel) rfl dX3_addStack_23 ?_
    refine lv_iconst (v := 1) hx hb dX3_addStack_26 (by decide) ?_
    refine lv_iadd hx hb dX3_addStack_27 ?_
    refine z_put (ty := .int) (x := ((((zI s 5 (((s).1 1 4)).toNatClampNeg (0 : Int32))).1 1 4) + (1 : Int32))) (C := RX3) (T := TX3) (N := 10) X inX3 tyX3 tyX3_ok nmX3 hA hP hS 1 (by decide) (zcC_1 _ _ _ _ _ _) rfl 4 (by decide) rfl (by decide +kernel) rfl (by decide +kernel) rfl rfl (Nat.le_of_ble_eq_true rfl) rfl dX3_addStack_28 (fun H locs hP hS => ?_)
    refine lv_iconst (v := 0) hx hb dX3_addStack_31 (by decide) ?_
    refine lv_istore (lv' := [(4, .int (0 : Int32)), (3, .int ((s).1 1 4)), (0, .ref (a 1)), (1, .ref (a 31)), (2, .int x2)]) hx hb dX3_addStack_32 hl (by decide) rfl (fun ls hl => ?_)
    exact w34  zN (x2) (((s).1 1 4)) ((0 : Int32)) ((zI (zI s 5 (((s).1 1 4)).toNatClampNeg (0 : Int32)) 1 4 ((((zI s 5 (((s).1 1 4)).toNatClampNeg (0 : Int32))).1 1 4) + (1 : Int32)))) _ _ _ h hP hS (lv_sub hl [2, 3, 4, 1, 0] rfl)
  · have h := zif_f h c1
    refine lv_bipush (v := -4) hx hb dX3_addStack_11 (by decide) ?_
    exact z_iret X hP hS hr hlocks h dX3_addStack_13
abbrev rmX6_stack : Room := { frames := 4, cells := 0, slots := 0, locals := 88 }
set_option maxHeartbeats 4000000 in
set_option maxRecDepth 100000 in
theorem kX6_stack {l : Launch} {D : va_G} {a : Nat → Nat} {cI cJ cC : ClassId} {adK adV : Nat → Nat}  {s τ : ZS} {r : Int32} (h : fX6_stack  s = some (r, τ)) : zMi (zcC a cI cJ cC) 41 a D [(cI, .int), (cJ, .long)] (zEC adK adV) l yX6_stack wsX6_stack rmX6_stack [.ref (a 0)] s r τ := by
  refine z_start (cc := cX6_stack) (maxL := 2) (ret := (some .int)) RX6 rfl (by decide) rfl (Nat.le_of_ble_eq_true rfl) ?_
  intro p e st m args below meth c ls H locs X hr hlocks hA hE hP hS hl
  obtain ⟨hx, hb, hml, hown, hts, -⟩ := id X
  have hG := zEC_good adK adV
  have inX3 : ∀ w ∈ u_ws RX3 TX3 10, w ∈ wsX6_stack := by decide +kernel
  have inX4 : ∀ w ∈ u_ws RX4 TX4 9, w ∈ wsX6_stack := by decide +kernel
  have inX6 : ∀ w ∈ u_ws RX6 TX6 12, w ∈ wsX6_stack := by decide +kernel
  have hl : lv_has ls 2 [(0, .ref (a 0))] := hl
  refine lv_aload_n hx hb dX6_stack_0 rfl (lv_at hl 0 rfl) ?_
  refine z_get (C := RX6) (T := TX6) (N := 12) X inX6 hP 0 (by decide) (zcC_0 _ _ _ _ _ _) rfl 5 (by decide) rfl (by decide +kernel) rfl dX6_stack_1 ?_
  refine lv_aload_n hx hb dX6_stack_4 rfl (lv_at hl 0 rfl) ?_
  refine z_get (C := RX6) (T := TX6) (N := 12) X inX6 hP 0 (by decide) (zcC_0 _ _ _ _ _ _) rfl 0 (by decide) rfl (by decide +kernel) rfl dX6_stack_5 ?_
  refine z_get (C := RX3) (T := TX3) (N := 10) X inX3 hP 1 (by decide) (zcC_1 _ _ _ _ _ _) rfl 0 (by decide) rfl (by decide +kernel) rfl dX6_stack_8 ?_
  obtain ⟨u1, s1, e1, h⟩ := zb_some h
  refine z_calli hS (z_runV (As := [.int ((s).1 1 0)]) (rest := []) X hG hA hE hP hS 26 (kX4_readStack (l := l) (D := D) (a := a) (cI := cI) (cJ := cJ) (cC := cC) (adK := adK) (adV := adV) e1 _) (cwV 1 hts gX6_stack_X4_readStack rfl rfl rfl (by decide +kernel) ⟨Nat.le_of_ble_eq_true rfl, Nat.le_of_ble_eq_true rfl⟩) (by decide) (zcC_26 _ _ _ _ _ _) rfl rfl rfl hl.1 rfl (Nat.le_of_ble_eq_true rfl) dX6_stack_11) (fun H locs hP hS => ?_)
  refine lv_istore_n (lv' := [(1, .int u1), (0, .ref (a 0))]) hx hb dX6_stack_14 rfl hl (by decide) rfl (fun ls hl => ?_)
  refine lv_aload_n hx hb dX6_stack_15 rfl (lv_at hl 1 rfl) ?_
  refine z_get (C := RX6) (T := TX6) (N := 12) X inX6 hP 0 (by decide) (zcC_0 _ _ _ _ _ _) rfl 5 (by decide) rfl (by decide +kernel) rfl dX6_stack_16 ?_
  refine lv_iconst (v := 0) hx hb dX6_stack_19 (by decide) ?_
  refine z_put (ty := .int) (x := (0 : Int32)) (C := RX4) (T := TX4) (N := 9) X inX4 tyX4 tyX4_ok nmX4 hA hP hS 26 (by decide) (zcC_26 _ _ _ _ _ _) rfl 1 (by decide) rfl (by decide +kernel) rfl (by decide +kernel) rfl rfl (Nat.le_of_ble_eq_true rfl) rfl dX6_stack_20 (fun H locs hP hS => ?_)
  refine lv_iload_n hx hb dX6_stack_23 rfl (lv_at hl 0 rfl) ?_
  refine lv_if_lt (tgt := 34) hx hb dX6_stack_24 (by decide) (fun c2 => ?_) (fun c2 => ?_)
  · have h := zif_t h c2
    refine lv_aload_n hx hb dX6_stack_34 rfl (lv_at hl 1 rfl) ?_
    refine z_get (C := RX6) (T := TX6) (N := 12) X inX6 hP 0 (by decide) (zcC_0 _ _ _ _ _ _) rfl 0 (by decide) rfl (by decide +kernel) rfl dX6_stack_35 ?_
    refine lv_aload_n hx hb dX6_stack_38 rfl (lv_at hl 1 rfl) ?_
    refine z_get (C := RX6) (T := TX6) (N := 12) X inX6 hP 0 (by decide) (zcC_0 _ _ _ _ _ _) rfl 5 (by decide) rfl (by decide +kernel) rfl dX6_stack_39 ?_
    refine z_get (C := RX4) (T := TX4) (N := 9) X inX4 hP 26 (by decide) (zcC_26 _ _ _ _ _ _) rfl 7 (by decide) rfl (by decide +kernel) rfl dX6_stack_42 ?_
    refine lv_aload_n hx hb dX6_stack_45 rfl (lv_at hl 1 rfl) ?_
    refine z_get (C := RX6) (T := TX6) (N := 12) X inX6 hP 0 (by decide) (zcC_0 _ _ _ _ _ _) rfl 5 (by decide) rfl (by decide +kernel) rfl dX6_stack_46 ?_
    refine z_get (C := RX4) (T := TX4) (N := 9) X inX4 hP 26 (by decide) (zcC_26 _ _ _ _ _ _) rfl 6 (by decide) rfl (by decide +kernel) rfl dX6_stack_49 ?_
    obtain ⟨u3, s3, e3, h⟩ := zb_some h
    refine z_calli hS (z_runV (As := [.ref (a 31), .int (((zI s1 26 1 (0 : Int32))).1 26 6)]) (rest := []) X hG hA hE hP hS 1 (kX3_addStack (l := l) (D := D) (a := a) (cI := cI) (cJ := cJ) (cC := cC) (adK := adK) (adV := adV) e3 _) (cwV 2 hts gX6_stack_X3_addStack rfl rfl rfl (by decide +kernel) ⟨Nat.le_of_ble_eq_true rfl, Nat.le_of_ble_eq_true rfl⟩) (by decide) (zcC_1 _ _ _ _ _ _) rfl rfl rfl hl.1 rfl (Nat.le_of_ble_eq_true rfl) dX6_stack_52) (fun H locs hP hS => ?_)
    exact z_iret X hP hS hr hlocks h dX6_stack_55
  · have h := zif_f h c2
    refine lv_bipush (v := -100) hx hb dX6_stack_27 (by decide) ?_
    refine lv_iload_n hx hb dX6_stack_29 rfl (lv_at hl 0 rfl) ?_
    refine lv_isub hx hb dX6_stack_30 ?_
    refine lv_goto (tgt := 55) hx hb dX6_stack_31 (by decide) ?_
    exact z_iret X hP hS hr hlocks h dX6_stack_55
abbrev rmX6_lay : Room := { frames := 3, cells := 0, slots := 0, locals := 64 }
set_option maxHeartbeats 4000000 in
set_option maxRecDepth 100000 in
theorem kX6_lay {l : Launch} {D : va_G} {a : Nat → Nat} {cI cJ cC : ClassId} {adK adV : Nat → Nat} {x1 : Int32} {x2 : Int32} {s τ : ZS} {r : Int32} (h : fX6_lay x1 x2 s = some (r, τ)) : zMi (zcC a cI cJ cC) 41 a D [(cI, .int), (cJ, .long)] (zEC adK adV) l yX6_lay wsX6_lay rmX6_lay [.ref (a 0), .int x1, .int x2] s r τ := by
  refine z_start (cc := cX6_lay) (maxL := 3) (ret := (some .int)) RX6 rfl (by decide) rfl (Nat.le_of_ble_eq_true rfl) ?_
  intro p e st m args below meth c ls H locs X hr hlocks hA hE hP hS hl
  obtain ⟨hx, hb, hml, hown, hts, -⟩ := id X
  have hG := zEC_good adK adV
  have inX3 : ∀ w ∈ u_ws RX3 TX3 10, w ∈ wsX6_lay := by decide +kernel
  have inX6 : ∀ w ∈ u_ws RX6 TX6 12, w ∈ wsX6_lay := by decide +kernel
  have hl : lv_has ls 3 [(0, .ref (a 0)), (1, .int x1), (2, .int x2)] := hl
  refine lv_aload_n hx hb dX6_lay_0 rfl (lv_at hl 0 rfl) ?_
  refine z_get (C := RX6) (T := TX6) (N := 12) X inX6 hP 0 (by decide) (zcC_0 _ _ _ _ _ _) rfl 0 (by decide) rfl (by decide +kernel) rfl dX6_lay_1 ?_
  refine lv_iload_n hx hb dX6_lay_4 rfl (lv_at hl 1 rfl) ?_
  obtain ⟨u1, s1, e1, h⟩ := zb_some h
  refine z_calli hS (z_runV (As := [.int x1]) (rest := []) X hG hA hE hP hS 1 (kX3_hasStack (l := l) (D := D) (a := a) (cI := cI) (cJ := cJ) (cC := cC) (adK := adK) (adV := adV) e1 _) (cwV 1 hts gX6_lay_X3_hasStack rfl rfl rfl (by decide +kernel) ⟨Nat.le_of_ble_eq_true rfl, Nat.le_of_ble_eq_true rfl⟩) (by decide) (zcC_1 _ _ _ _ _ _) rfl rfl rfl hl.1 rfl (Nat.le_of_ble_eq_true rfl) dX6_lay_5) (fun H locs hP hS => ?_)
  refine lv_if_eq (tgt := 22) hx hb dX6_lay_8 (by decide) (fun c2 => ?_) (fun c2 => ?_)
  · have h := zif_t h c2
    refine lv_iconst (v := -1) hx hb dX6_lay_22 (by decide) ?_
    exact z_iret X hP hS hr hlocks h dX6_lay_23
  · have h := zif_f h c2
    refine lv_aload_n hx hb dX6_lay_11 rfl (lv_at hl 0 rfl) ?_
    refine z_get (C := RX6) (T := TX6) (N := 12) X inX6 hP 0 (by decide) (zcC_0 _ _ _ _ _ _) rfl 0 (by decide) rfl (by decide +kernel) rfl dX6_lay_12 ?_
    refine lv_iload_n hx hb dX6_lay_15 rfl (lv_at hl 2 rfl) ?_
    obtain ⟨u3, s3, e3, h⟩ := zb_some h
    refine z_calli hS (z_runV (As := [.int x2]) (rest := []) X hG hA hE hP hS 1 (kX3_hasSheet (l := l) (D := D) (a := a) (cI := cI) (cJ := cJ) (cC := cC) (adK := adK) (adV := adV) e3 _) (cwV 1 hts gX6_lay_X3_hasSheet rfl rfl rfl (by decide +kernel) ⟨Nat.le_of_ble_eq_true rfl, Nat.le_of_ble_eq_true rfl⟩) (by decide) (zcC_1 _ _ _ _ _ _) rfl rfl rfl hl.1 rfl (Nat.le_of_ble_eq_true rfl) dX6_lay_16) (fun H locs hP hS => ?_)
    refine lv_if_ne (tgt := 24) hx hb dX6_lay_19 (by decide) (fun c4 => ?_) (fun c4 => ?_)
    · have h := zif_f h c4
      refine lv_aload_n hx hb dX6_lay_24 rfl (lv_at hl 0 rfl) ?_
      refine z_get (C := RX6) (T := TX6) (N := 12) X inX6 hP 0 (by decide) (zcC_0 _ _ _ _ _ _) rfl 0 (by decide) rfl (by decide +kernel) rfl dX6_lay_25 ?_
      refine lv_iload_n hx hb dX6_lay_28 rfl (lv_at hl 1 rfl) ?_
      refine lv_iload_n hx hb dX6_lay_29 rfl (lv_at hl 2 rfl) ?_
      obtain ⟨u5, s5, e5, h⟩ := zb_some h
      refine z_calli hS (z_runV (As := [.int x1, .int x2]) (rest := []) X hG hA hE hP hS 1 (kX3_layOn (l := l) (D := D) (a := a) (cI := cI) (cJ := cJ) (cC := cC) (adK := adK) (adV := adV) e5 _) (cwV 2 hts gX6_lay_X3_layOn rfl rfl rfl (by decide +kernel) ⟨Nat.le_of_ble_eq_true rfl, Nat.le_of_ble_eq_true rfl⟩) (by decide) (zcC_1 _ _ _ _ _ _) rfl rfl rfl hl.1 rfl (Nat.le_of_ble_eq_true rfl) dX6_lay_30) (fun H locs hP hS => ?_)
      refine lv_if_eq (tgt := 48) hx hb dX6_lay_33 (by decide) (fun c6 => ?_) (fun c6 => ?_)
      · have h := zif_t h c6
        refine lv_bipush (v := -4) hx hb dX6_lay_48 (by decide) ?_
        exact z_iret X hP hS hr hlocks h dX6_lay_50
      · have h := zif_f h c6
        refine lv_aload_n hx hb dX6_lay_36 rfl (lv_at hl 0 rfl) ?_
        refine z_get (C := RX6) (T := TX6) (N := 12) X inX6 hP 0 (by decide) (zcC_0 _ _ _ _ _ _) rfl 0 (by decide) rfl (by decide +kernel) rfl dX6_lay_37 ?_
        refine z_get (C := RX3) (T := TX3) (N := 10) X inX3 hP 1 (by decide) (zcC_1 _ _ _ _ _ _) rfl 5 (by decide) rfl (by decide +kernel) rfl dX6_lay_40 ?_
        refine lv_iload_n hx hb dX6_lay_43 rfl (lv_at hl 1 rfl) ?_
        obtain ⟨g7, h⟩ := zg_some h
        refine z_iald X hP 5 0 (by decide) (zcC_5 _ _ _ _ _ _) rfl g7 dX6_lay_44 ?_
        refine lv_goto (tgt := 50) hx hb dX6_lay_45 (by decide) ?_
        exact z_iret X hP hS hr hlocks h dX6_lay_50
    · have h := zif_t h c4
      refine lv_iconst (v := -1) hx hb dX6_lay_22 (by decide) ?_
      exact z_iret X hP hS hr hlocks h dX6_lay_23
abbrev rmX3_sheetAt : Room := { frames := 2, cells := 0, slots := 0, locals := 42 }
set_option maxHeartbeats 4000000 in
set_option maxRecDepth 100000 in
theorem kX3_sheetAt {l : Launch} {D : va_G} {a : Nat → Nat} {cI cJ cC : ClassId} {adK adV : Nat → Nat} {x1 : Int32} {x2 : Int32} {s τ : ZS} {r : Int32} (h : fX3_sheetAt x1 x2 s = some (r, τ)) : zMi (zcC a cI cJ cC) 41 a D [(cI, .int), (cJ, .long)] (zEC adK adV) l yX3_sheetAt wsX3_sheetAt rmX3_sheetAt [.ref (a 1), .int x1, .int x2] s r τ := by
  refine z_start (cc := cX3_sheetAt) (maxL := 3) (ret := (some .int)) RX3 rfl (by decide) rfl (Nat.le_of_ble_eq_true rfl) ?_
  intro p e st m args below meth c ls H locs X hr hlocks hA hE hP hS hl
  obtain ⟨hx, hb, hml, hown, hts, -⟩ := id X
  have hG := zEC_good adK adV
  have inX3 : ∀ w ∈ u_ws RX3 TX3 10, w ∈ wsX3_sheetAt := by decide +kernel
  have hl : lv_has ls 3 [(0, .ref (a 1)), (1, .int x1), (2, .int x2)] := hl
  refine lv_aload_n hx hb dX3_sheetAt_0 rfl (lv_at hl 0 rfl) ?_
  refine lv_iload_n hx hb dX3_sheetAt_1 rfl (lv_at hl 1 rfl) ?_
  obtain ⟨u1, s1, e1, h⟩ := zb_some h
  refine z_calli hS (z_runV (As := [.int x1]) (rest := []) X hG hA hE hP hS 1 (kX3_hasStack (l := l) (D := D) (a := a) (cI := cI) (cJ := cJ) (cC := cC) (adK := adK) (adV := adV) e1 _) (cwV 1 hts gX3_sheetAt_X3_hasStack rfl rfl rfl (by decide +kernel) ⟨Nat.le_of_ble_eq_true rfl, Nat.le_of_ble_eq_true rfl⟩) (by decide) (zcC_1 _ _ _ _ _ _) rfl rfl rfl hl.1 rfl (Nat.le_of_ble_eq_true rfl) dX3_sheetAt_2) (fun H locs hP hS => ?_)
  refine lv_if_eq (tgt := 31) hx hb dX3_sheetAt_5 (by decide) (fun c2 => ?_) (fun c2 => ?_)
  · have h := zif_t h c2
    refine lv_iconst (v := -1) hx hb dX3_sheetAt_31 (by decide) ?_
    exact z_iret X hP hS hr hlocks h dX3_sheetAt_32
  · have h := zif_f h c2
    refine lv_iload_n hx hb dX3_sheetAt_8 rfl (lv_at hl 2 rfl) ?_
    refine lv_bipush (v := 6) hx hb dX3_sheetAt_9 (by decide) ?_
    obtain ⟨u3, s3, e3, h⟩ := zb_some h
    refine z_calli hS (z_runSN (As := [.int x2, .int (6 : Int32)]) (rest := []) X hG hA hE hP hS (kX6_within (l := l) (D := D) (a := a) (cI := cI) (cJ := cJ) (cC := cC) (adK := adK) (adV := adV) e3 _) (va_cnB 2 hts gX3_sheetAt_X6_within_n47 rfl rfl rfl (zE_nest hE 2 rfl) (hts (.initialized RX6) (by decide +kernel)) (by decide +kernel) ⟨Nat.le_of_ble_eq_true rfl, Nat.le_of_ble_eq_true rfl⟩) (by decide +kernel) rfl hl.1 rfl (Nat.le_of_ble_eq_true rfl) dX3_sheetAt_11) (fun H locs hP hS => ?_)
    refine lv_if_eq (tgt := 31) hx hb dX3_sheetAt_14 (by decide) (fun c4 => ?_) (fun c4 => ?_)
    · have h := zif_t h c4
      refine lv_iconst (v := -1) hx hb dX3_sheetAt_31 (by decide) ?_
      exact z_iret X hP hS hr hlocks h dX3_sheetAt_32
    · have h := zif_f h c4
      refine lv_aload_n hx hb dX3_sheetAt_17 rfl (lv_at hl 0 rfl) ?_
      refine z_get (C := RX3) (T := TX3) (N := 10) X inX3 hP 1 (by decide) (zcC_1 _ _ _ _ _ _) rfl 6 (by decide) rfl (by decide +kernel) rfl dX3_sheetAt_18 ?_
      refine lv_iload_n hx hb dX3_sheetAt_21 rfl (lv_at hl 1 rfl) ?_
      refine lv_bipush (v := 6) hx hb dX3_sheetAt_22 (by decide) ?_
      refine lv_imul hx hb dX3_sheetAt_24 ?_
      refine lv_iload_n hx hb dX3_sheetAt_25 rfl (lv_at hl 2 rfl) ?_
      refine lv_iadd hx hb dX3_sheetAt_26 ?_
      obtain ⟨g5, h⟩ := zg_some h
      refine z_iald X hP 6 0 (by decide) (zcC_6 _ _ _ _ _ _) rfl g5 dX3_sheetAt_27 ?_
      refine lv_goto (tgt := 32) hx hb dX3_sheetAt_28 (by decide) ?_
      exact z_iret X hP hS hr hlocks h dX3_sheetAt_32
abbrev rmX6_take : Room := { frames := 3, cells := 0, slots := 0, locals := 64 }
set_option maxHeartbeats 4000000 in
set_option maxRecDepth 100000 in
theorem kX6_take {l : Launch} {D : va_G} {a : Nat → Nat} {cI cJ cC : ClassId} {adK adV : Nat → Nat} {x1 : Int32} {s τ : ZS} {r : Int32} (h : fX6_take x1 s = some (r, τ)) : zMi (zcC a cI cJ cC) 41 a D [(cI, .int), (cJ, .long)] (zEC adK adV) l yX6_take wsX6_take rmX6_take [.ref (a 0), .int x1] s r τ := by
  refine z_start (cc := cX6_take) (maxL := 2) (ret := (some .int)) RX6 rfl (by decide) rfl (Nat.le_of_ble_eq_true rfl) ?_
  intro p e st m args below meth c ls H locs X hr hlocks hA hE hP hS hl
  obtain ⟨hx, hb, hml, hown, hts, -⟩ := id X
  have hG := zEC_good adK adV
  have inX3 : ∀ w ∈ u_ws RX3 TX3 10, w ∈ wsX6_take := by decide +kernel
  have inX6 : ∀ w ∈ u_ws RX6 TX6 12, w ∈ wsX6_take := by decide +kernel
  have hl : lv_has ls 2 [(0, .ref (a 0)), (1, .int x1)] := hl
  refine lv_aload_n hx hb dX6_take_0 rfl (lv_at hl 0 rfl) ?_
  refine z_get (C := RX6) (T := TX6) (N := 12) X inX6 hP 0 (by decide) (zcC_0 _ _ _ _ _ _) rfl 0 (by decide) rfl (by decide +kernel) rfl dX6_take_1 ?_
  refine lv_iload_n hx hb dX6_take_4 rfl (lv_at hl 1 rfl) ?_
  obtain ⟨u1, s1, e1, h⟩ := zb_some h
  refine z_calli hS (z_runV (As := [.int x1]) (rest := []) X hG hA hE hP hS 1 (kX3_hasStack (l := l) (D := D) (a := a) (cI := cI) (cJ := cJ) (cC := cC) (adK := adK) (adV := adV) e1 _) (cwV 1 hts gX6_take_X3_hasStack rfl rfl rfl (by decide +kernel) ⟨Nat.le_of_ble_eq_true rfl, Nat.le_of_ble_eq_true rfl⟩) (by decide) (zcC_1 _ _ _ _ _ _) rfl rfl rfl hl.1 rfl (Nat.le_of_ble_eq_true rfl) dX6_take_5) (fun H locs hP hS => ?_)
  refine lv_if_ne (tgt := 13) hx hb dX6_take_8 (by decide) (fun c2 => ?_) (fun c2 => ?_)
  · have h := zif_f h c2
    refine lv_aload_n hx hb dX6_take_13 rfl (lv_at hl 0 rfl) ?_
    refine z_get (C := RX6) (T := TX6) (N := 12) X inX6 hP 0 (by decide) (zcC_0 _ _ _ _ _ _) rfl 0 (by decide) rfl (by decide +kernel) rfl dX6_take_14 ?_
    refine z_get (C := RX3) (T := TX3) (N := 10) X inX3 hP 1 (by decide) (zcC_1 _ _ _ _ _ _) rfl 5 (by decide) rfl (by decide +kernel) rfl dX6_take_17 ?_
    refine lv_iload_n hx hb dX6_take_20 rfl (lv_at hl 1 rfl) ?_
    obtain ⟨g3, h⟩ := zg_some h
    refine z_iald X hP 5 0 (by decide) (zcC_5 _ _ _ _ _ _) rfl g3 dX6_take_21 ?_
    refine lv_if_gt (tgt := 28) hx hb dX6_take_22 (by decide) (fun c4 => ?_) (fun c4 => ?_)
    · have h := zif_t h c4
      refine lv_aload_n hx hb dX6_take_28 rfl (lv_at hl 0 rfl) ?_
      refine z_get (C := RX6) (T := TX6) (N := 12) X inX6 hP 0 (by decide) (zcC_0 _ _ _ _ _ _) rfl 0 (by decide) rfl (by decide +kernel) rfl dX6_take_29 ?_
      refine z_get (C := RX3) (T := TX3) (N := 10) X inX3 hP 1 (by decide) (zcC_1 _ _ _ _ _ _) rfl 5 (by decide) rfl (by decide +kernel) rfl dX6_take_32 ?_
      refine lv_iload_n hx hb dX6_take_35 rfl (lv_at hl 1 rfl) ?_
      refine lv_dup2_11 hx hb dX6_take_36 rfl rfl ?_
      obtain ⟨g5, h⟩ := zg_some h
      refine z_iald X hP 5 0 (by decide) (zcC_5 _ _ _ _ _ _) rfl g5 dX6_take_37 ?_
      refine lv_iconst (v := 1) hx hb dX6_take_38 (by decide) ?_
      refine lv_isub hx hb dX6_take_39 ?_
      obtain ⟨g6, h⟩ := zg_some h
      refine z_iast X hA hP hS 5 0 (by decide) (zcC_5 _ _ _ _) rfl g6 dX6_take_40 (fun H locs hP hS => ?_)
      refine lv_aload_n hx hb dX6_take_41 rfl (lv_at hl 0 rfl) ?_
      refine z_get (C := RX6) (T := TX6) (N := 12) X inX6 hP 0 (by decide) (zcC_0 _ _ _ _ _ _) rfl 0 (by decide) rfl (by decide +kernel) rfl dX6_take_42 ?_
      refine lv_iload_n hx hb dX6_take_45 rfl (lv_at hl 1 rfl) ?_
      refine lv_aload_n hx hb dX6_take_46 rfl (lv_at hl 0 rfl) ?_
      refine z_get (C := RX6) (T := TX6) (N := 12) X inX6 hP 0 (by decide) (zcC_0 _ _ _ _ _ _) rfl 0 (by decide) rfl (by decide +kernel) rfl dX6_take_47 ?_
      refine z_get (C := RX3) (T := TX3) (N := 10) X inX3 hP 1 (by decide) (zcC_1 _ _ _ _ _ _) rfl 5 (by decide) rfl (by decide +kernel) rfl dX6_take_50 ?_
      refine lv_iload_n hx hb dX6_take_53 rfl (lv_at hl 1 rfl) ?_
      obtain ⟨g7, h⟩ := zg_some h
      refine z_iald X hP 5 0 (by decide) (zcC_5 _ _ _ _ _ _) rfl g7 dX6_take_54 ?_
      obtain ⟨u8, s8, e8, h⟩ := zb_some h
      refine z_calli hS (z_runV (As := [.int x1, .int (((zI s1 5 (x1).toNatClampNeg (((s1).1 5 (x1).toNatClampNeg) - (1 : Int32)))).1 5 (x1).toNatClampNeg)]) (rest := []) X hG hA hE hP hS 1 (kX3_sheetAt (l := l) (D := D) (a := a) (cI := cI) (cJ := cJ) (cC := cC) (adK := adK) (adV := adV) e8 _) (cwV 2 hts gX6_take_X3_sheetAt rfl rfl rfl (by decide +kernel) ⟨Nat.le_of_ble_eq_true rfl, Nat.le_of_ble_eq_true rfl⟩) (by decide) (zcC_1 _ _ _ _ _ _) rfl rfl rfl hl.1 rfl (Nat.le_of_ble_eq_true rfl) dX6_take_55) (fun H locs hP hS => ?_)
      exact z_iret X hP hS hr hlocks h dX6_take_58
    · have h := zif_f h c4
      refine lv_bipush (v := -3) hx hb dX6_take_25 (by decide) ?_
      exact z_iret X hP hS hr hlocks h dX6_take_27
  · have h := zif_t h c2
    refine lv_iconst (v := -1) hx hb dX6_take_11 (by decide) ?_
    exact z_iret X hP hS hr hlocks h dX6_take_12
abbrev rmX6_at : Room := { frames := 3, cells := 0, slots := 0, locals := 64 }
set_option maxHeartbeats 4000000 in
set_option maxRecDepth 100000 in
theorem kX6_at {l : Launch} {D : va_G} {a : Nat → Nat} {cI cJ cC : ClassId} {adK adV : Nat → Nat} {x1 : Int32} {x2 : Int32} {s τ : ZS} {r : Int32} (h : fX6_at x1 x2 s = some (r, τ)) : zMi (zcC a cI cJ cC) 41 a D [(cI, .int), (cJ, .long)] (zEC adK adV) l yX6_at wsX6_at rmX6_at [.ref (a 0), .int x1, .int x2] s r τ := by
  refine z_start (cc := cX6_at) (maxL := 3) (ret := (some .int)) RX6 rfl (by decide) rfl (Nat.le_of_ble_eq_true rfl) ?_
  intro p e st m args below meth c ls H locs X hr hlocks hA hE hP hS hl
  obtain ⟨hx, hb, hml, hown, hts, -⟩ := id X
  have hG := zEC_good adK adV
  have inX3 : ∀ w ∈ u_ws RX3 TX3 10, w ∈ wsX6_at := by decide +kernel
  have inX6 : ∀ w ∈ u_ws RX6 TX6 12, w ∈ wsX6_at := by decide +kernel
  have hl : lv_has ls 3 [(0, .ref (a 0)), (1, .int x1), (2, .int x2)] := hl
  refine lv_aload_n hx hb dX6_at_0 rfl (lv_at hl 0 rfl) ?_
  refine z_get (C := RX6) (T := TX6) (N := 12) X inX6 hP 0 (by decide) (zcC_0 _ _ _ _ _ _) rfl 0 (by decide) rfl (by decide +kernel) rfl dX6_at_1 ?_
  refine lv_iload_n hx hb dX6_at_4 rfl (lv_at hl 1 rfl) ?_
  obtain ⟨u1, s1, e1, h⟩ := zb_some h
  refine z_calli hS (z_runV (As := [.int x1]) (rest := []) X hG hA hE hP hS 1 (kX3_hasStack (l := l) (D := D) (a := a) (cI := cI) (cJ := cJ) (cC := cC) (adK := adK) (adV := adV) e1 _) (cwV 1 hts gX6_at_X3_hasStack rfl rfl rfl (by decide +kernel) ⟨Nat.le_of_ble_eq_true rfl, Nat.le_of_ble_eq_true rfl⟩) (by decide) (zcC_1 _ _ _ _ _ _) rfl rfl rfl hl.1 rfl (Nat.le_of_ble_eq_true rfl) dX6_at_5) (fun H locs hP hS => ?_)
  refine lv_if_ne (tgt := 13) hx hb dX6_at_8 (by decide) (fun c2 => ?_) (fun c2 => ?_)
  · have h := zif_f h c2
    refine lv_iload_n hx hb dX6_at_13 rfl (lv_at hl 2 rfl) ?_
    refine lv_iconst (v := -1) hx hb dX6_at_14 (by decide) ?_
    refine lv_icmp_ne (tgt := 28) hx hb dX6_at_15 (by decide) (fun c3 => ?_) (fun c3 => ?_)
    · have h := zif_f h c3
      refine lv_iload_n hx hb dX6_at_28 rfl (lv_at hl 2 rfl) ?_
      refine lv_aload_n hx hb dX6_at_29 rfl (lv_at hl 0 rfl) ?_
      refine z_get (C := RX6) (T := TX6) (N := 12) X inX6 hP 0 (by decide) (zcC_0 _ _ _ _ _ _) rfl 0 (by decide) rfl (by decide +kernel) rfl dX6_at_30 ?_
      refine z_get (C := RX3) (T := TX3) (N := 10) X inX3 hP 1 (by decide) (zcC_1 _ _ _ _ _ _) rfl 5 (by decide) rfl (by decide +kernel) rfl dX6_at_33 ?_
      refine lv_iload_n hx hb dX6_at_36 rfl (lv_at hl 1 rfl) ?_
      obtain ⟨g4, h⟩ := zg_some h
      refine z_iald X hP 5 0 (by decide) (zcC_5 _ _ _ _ _ _) rfl g4 dX6_at_37 ?_
      obtain ⟨u5, s5, e5, h⟩ := zb_some h
      refine z_calli hS (z_runS (As := [.int x2, .int ((s1).1 5 (x1).toNatClampNeg)]) (rest := []) X hG hA hE hP hS (kX6_within (l := l) (D := D) (a := a) (cI := cI) (cJ := cJ) (cC := cC) (adK := adK) (adV := adV) e5 _) (va_cwS 2 hts gX6_at_X6_within rfl rfl rfl (by decide +kernel) ⟨Nat.le_of_ble_eq_true rfl, Nat.le_of_ble_eq_true rfl⟩) rfl hl.1 rfl (Nat.le_of_ble_eq_true rfl) dX6_at_38) (fun H locs hP hS => ?_)
      refine lv_if_eq (tgt := 56) hx hb dX6_at_41 (by decide) (fun c6 => ?_) (fun c6 => ?_)
      · have h := zif_t h c6
        refine lv_iconst (v := -1) hx hb dX6_at_56 (by decide) ?_
        exact z_iret X hP hS hr hlocks h dX6_at_57
      · have h := zif_f h c6
        refine lv_aload_n hx hb dX6_at_44 rfl (lv_at hl 0 rfl) ?_
        refine z_get (C := RX6) (T := TX6) (N := 12) X inX6 hP 0 (by decide) (zcC_0 _ _ _ _ _ _) rfl 0 (by decide) rfl (by decide +kernel) rfl dX6_at_45 ?_
        refine lv_iload_n hx hb dX6_at_48 rfl (lv_at hl 1 rfl) ?_
        refine lv_iload_n hx hb dX6_at_49 rfl (lv_at hl 2 rfl) ?_
        obtain ⟨u7, s7, e7, h⟩ := zb_some h
        refine z_calli hS (z_runV (As := [.int x1, .int x2]) (rest := []) X hG hA hE hP hS 1 (kX3_sheetAt (l := l) (D := D) (a := a) (cI := cI) (cJ := cJ) (cC := cC) (adK := adK) (adV := adV) e7 _) (cwV 2 hts gX6_at_X3_sheetAt rfl rfl rfl (by decide +kernel) ⟨Nat.le_of_ble_eq_true rfl, Nat.le_of_ble_eq_true rfl⟩) (by decide) (zcC_1 _ _ _ _ _ _) rfl rfl rfl hl.1 rfl (Nat.le_of_ble_eq_true rfl) dX6_at_50) (fun H locs hP hS => ?_)
        refine lv_goto (tgt := 57) hx hb dX6_at_53 (by decide) ?_
        exact z_iret X hP hS hr hlocks h dX6_at_57
    · have h := zif_t h c3
      refine lv_aload_n hx hb dX6_at_18 rfl (lv_at hl 0 rfl) ?_
      refine z_get (C := RX6) (T := TX6) (N := 12) X inX6 hP 0 (by decide) (zcC_0 _ _ _ _ _ _) rfl 0 (by decide) rfl (by decide +kernel) rfl dX6_at_19 ?_
      refine z_get (C := RX3) (T := TX3) (N := 10) X inX3 hP 1 (by decide) (zcC_1 _ _ _ _ _ _) rfl 5 (by decide) rfl (by decide +kernel) rfl dX6_at_22 ?_
      refine lv_iload_n hx hb dX6_at_25 rfl (lv_at hl 1 rfl) ?_
      obtain ⟨g8, h⟩ := zg_some h
      refine z_iald X hP 5 0 (by decide) (zcC_5 _ _ _ _ _ _) rfl g8 dX6_at_26 ?_
      exact z_iret X hP hS hr hlocks h dX6_at_27
  · have h := zif_t h c2
    refine lv_iconst (v := -1) hx hb dX6_at_11 (by decide) ?_
    exact z_iret X hP hS hr hlocks h dX6_at_12
abbrev rmX6_exchange_7 : Room := { frames := 1, cells := 0, slots := 0, locals := 21 }
set_option maxHeartbeats 4000000 in
set_option maxRecDepth 100000 in
theorem kX6_exchange_7 {l : Launch} {D : va_G} {a : Nat → Nat} {cI cJ cC : ClassId} {adK adV : Nat → Nat} {x1 : Int32} {x2 : Int32} {s τ : ZS} {r : Int32} (h : fX6_exchange_7 x1 x2 s = some (r, τ)) : zMi (zcC a cI cJ cC) 41 a D [(cI, .int), (cJ, .long)] (zEC adK adV) l yX6_exchange wsX6_exchange rmX6_exchange_7 [.ref (a 7), .int x1, .int x2] s r τ := by
  refine z_start (cc := cX6_exchange) (maxL := 4) (ret := (some .int)) RX6 rfl (by decide) rfl (Nat.le_of_ble_eq_true rfl) ?_
  intro p e st m args below meth c ls H locs X hr hlocks hA hE hP hS hl
  obtain ⟨hx, hb, hml, hown, hts, -⟩ := id X
  have hG := zEC_good adK adV
  have hl : lv_has ls 4 [(0, .ref (a 7)), (1, .int x1), (2, .int x2)] := hl
  refine lv_iload_n hx hb dX6_exchange_0 rfl (lv_at hl 1 rfl) ?_
  refine lv_aload_n hx hb dX6_exchange_1 rfl (lv_at hl 0 rfl) ?_
  refine z_alen (v := 15) X hP 7 0 (by decide) (zcC_7 _ _ _ _ _ _) rfl rfl dX6_exchange_2 ?_
  obtain ⟨u1, s1, e1, h⟩ := zb_some h
  refine z_calli hS (z_runS (As := [.int x1, .int (15 : Int32)]) (rest := []) X hG hA hE hP hS (kX6_within (l := l) (D := D) (a := a) (cI := cI) (cJ := cJ) (cC := cC) (adK := adK) (adV := adV) e1 _) (va_cwS 2 hts gX6_exchange_X6_within rfl rfl rfl (by decide +kernel) ⟨Nat.le_of_ble_eq_true rfl, Nat.le_of_ble_eq_true rfl⟩) rfl hl.1 rfl (Nat.le_of_ble_eq_true rfl) dX6_exchange_3) (fun H locs hP hS => ?_)
  refine lv_if_ne (tgt := 11) hx hb dX6_exchange_6 (by decide) (fun c2 => ?_) (fun c2 => ?_)
  · have h := zif_f h c2
    refine lv_aload_n hx hb dX6_exchange_11 rfl (lv_at hl 0 rfl) ?_
    refine lv_iload_n hx hb dX6_exchange_12 rfl (lv_at hl 1 rfl) ?_
    obtain ⟨g3, h⟩ := zg_some h
    refine z_iald X hP 7 0 (by decide) (zcC_7 _ _ _ _ _ _) rfl g3 dX6_exchange_13 ?_
    refine lv_istore_n (lv' := [(3, .int ((s1).1 7 (x1).toNatClampNeg)), (0, .ref (a 7)), (1, .int x1), (2, .int x2)]) hx hb dX6_exchange_14 rfl hl (by decide) rfl (fun ls hl => ?_)
    refine lv_aload_n hx hb dX6_exchange_15 rfl (lv_at hl 1 rfl) ?_
    refine lv_iload_n hx hb dX6_exchange_16 rfl (lv_at hl 2 rfl) ?_
    refine lv_iload_n hx hb dX6_exchange_17 rfl (lv_at hl 3 rfl) ?_
    obtain ⟨g4, h⟩ := zg_some h
    refine z_iast X hA hP hS 7 0 (by decide) (zcC_7 _ _ _ _) rfl g4 dX6_exchange_18 (fun H locs hP hS => ?_)
    refine lv_iload_n hx hb dX6_exchange_19 rfl (lv_at hl 0 rfl) ?_
    exact z_iret X hP hS hr hlocks h dX6_exchange_20
  · have h := zif_t h c2
    refine lv_iconst (v := -1) hx hb dX6_exchange_9 (by decide) ?_
    exact z_iret X hP hS hr hlocks h dX6_exchange_10
abbrev rmX6_power : Room := { frames := 2, cells := 0, slots := 0, locals := 44 }
set_option maxHeartbeats 4000000 in
set_option maxRecDepth 100000 in
theorem kX6_power {l : Launch} {D : va_G} {a : Nat → Nat} {cI cJ cC : ClassId} {adK adV : Nat → Nat} {x1 : Int32} {x2 : Int32} {x3 : Int32} {s τ : ZS} {r : Int32} (h : fX6_power x1 x2 x3 s = some (r, τ)) : zMi (zcC a cI cJ cC) 41 a D [(cI, .int), (cJ, .long)] (zEC adK adV) l yX6_power wsX6_power rmX6_power [.ref (a 0), .int x1, .int x2, .int x3] s r τ := by
  refine z_start (cc := cX6_power) (maxL := 4) (ret := (some .int)) RX6 rfl (by decide) rfl (Nat.le_of_ble_eq_true rfl) ?_
  intro p e st m args below meth c ls H locs X hr hlocks hA hE hP hS hl
  obtain ⟨hx, hb, hml, hown, hts, -⟩ := id X
  have hG := zEC_good adK adV
  have inX3 : ∀ w ∈ u_ws RX3 TX3 10, w ∈ wsX6_power := by decide +kernel
  have inX6 : ∀ w ∈ u_ws RX6 TX6 12, w ∈ wsX6_power := by decide +kernel
  have hl : lv_has ls 4 [(0, .ref (a 0)), (1, .int x1), (2, .int x2), (3, .int x3)] := hl
  refine lv_iload_n hx hb dX6_power_0 rfl (lv_at hl 1 rfl) ?_
  refine lv_iconst (v := 3) hx hb dX6_power_1 (by decide) ?_
  obtain ⟨u1, s1, e1, h⟩ := zb_some h
  refine z_calli hS (z_runS (As := [.int x1, .int (3 : Int32)]) (rest := []) X hG hA hE hP hS (kX6_within (l := l) (D := D) (a := a) (cI := cI) (cJ := cJ) (cC := cC) (adK := adK) (adV := adV) e1 _) (va_cwS 2 hts gX6_power_X6_within rfl rfl rfl (by decide +kernel) ⟨Nat.le_of_ble_eq_true rfl, Nat.le_of_ble_eq_true rfl⟩) rfl hl.1 rfl (Nat.le_of_ble_eq_true rfl) dX6_power_2) (fun H locs hP hS => ?_)
  refine lv_if_eq (tgt := 16) hx hb dX6_power_5 (by decide) (fun c2 => ?_) (fun c2 => ?_)
  · have h := zif_t h c2
    refine lv_iconst (v := -1) hx hb dX6_power_16 (by decide) ?_
    exact z_iret X hP hS hr hlocks h dX6_power_17
  · have h := zif_f h c2
    refine lv_iload_n hx hb dX6_power_8 rfl (lv_at hl 2 rfl) ?_
    refine lv_iconst (v := 5) hx hb dX6_power_9 (by decide) ?_
    obtain ⟨u3, s3, e3, h⟩ := zb_some h
    refine z_calli hS (z_runS (As := [.int x2, .int (5 : Int32)]) (rest := []) X hG hA hE hP hS (kX6_within (l := l) (D := D) (a := a) (cI := cI) (cJ := cJ) (cC := cC) (adK := adK) (adV := adV) e3 _) (va_cwS 2 hts gX6_power_X6_within rfl rfl rfl (by decide +kernel) ⟨Nat.le_of_ble_eq_true rfl, Nat.le_of_ble_eq_true rfl⟩) rfl hl.1 rfl (Nat.le_of_ble_eq_true rfl) dX6_power_10) (fun H locs hP hS => ?_)
    refine lv_if_ne (tgt := 18) hx hb dX6_power_13 (by decide) (fun c4 => ?_) (fun c4 => ?_)
    · have h := zif_f h c4
      refine lv_iload_n hx hb dX6_power_18 rfl (lv_at hl 3 rfl) ?_
      refine lv_bipush (v := 10) hx hb dX6_power_19 (by decide) ?_
      obtain ⟨u5, s5, e5, h⟩ := zb_some h
      refine z_calli hS (z_runS (As := [.int x3, .int (10 : Int32)]) (rest := []) X hG hA hE hP hS (kX6_within (l := l) (D := D) (a := a) (cI := cI) (cJ := cJ) (cC := cC) (adK := adK) (adV := adV) e5 _) (va_cwS 2 hts gX6_power_X6_within rfl rfl rfl (by decide +kernel) ⟨Nat.le_of_ble_eq_true rfl, Nat.le_of_ble_eq_true rfl⟩) rfl hl.1 rfl (Nat.le_of_ble_eq_true rfl) dX6_power_21) (fun H locs hP hS => ?_)
      refine lv_if_ne (tgt := 30) hx hb dX6_power_24 (by decide) (fun c6 => ?_) (fun c6 => ?_)
      · have h := zif_f h c6
        refine lv_aload_n hx hb dX6_power_30 rfl (lv_at hl 0 rfl) ?_
        refine z_get (C := RX6) (T := TX6) (N := 12) X inX6 hP 0 (by decide) (zcC_0 _ _ _ _ _ _) rfl 0 (by decide) rfl (by decide +kernel) rfl dX6_power_31 ?_
        refine z_get (C := RX3) (T := TX3) (N := 10) X inX3 hP 1 (by decide) (zcC_1 _ _ _ _ _ _) rfl 7 (by decide) rfl (by decide +kernel) rfl dX6_power_34 ?_
        refine lv_iload_n hx hb dX6_power_37 rfl (lv_at hl 1 rfl) ?_
        refine lv_iconst (v := 5) hx hb dX6_power_38 (by decide) ?_
        refine lv_imul hx hb dX6_power_39 ?_
        refine lv_iload_n hx hb dX6_power_40 rfl (lv_at hl 2 rfl) ?_
        refine lv_iadd hx hb dX6_power_41 ?_
        refine lv_iload_n hx hb dX6_power_42 rfl (lv_at hl 3 rfl) ?_
        obtain ⟨u7, s7, e7, h⟩ := zb_some h
        refine z_calli hS (z_runS (As := [.ref (a 7), .int ((x1 * (5 : Int32)) + x2), .int x3]) (rest := []) X hG hA hE hP hS (kX6_exchange_7 (l := l) (D := D) (a := a) (cI := cI) (cJ := cJ) (cC := cC) (adK := adK) (adV := adV) e7 _) (va_cwS 3 hts gX6_power_X6_exchange rfl rfl rfl (by decide +kernel) ⟨Nat.le_of_ble_eq_true rfl, Nat.le_of_ble_eq_true rfl⟩) rfl hl.1 rfl (Nat.le_of_ble_eq_true rfl) dX6_power_43) (fun H locs hP hS => ?_)
        exact z_iret X hP hS hr hlocks h dX6_power_46
      · have h := zif_t h c6
        refine lv_bipush (v := -2) hx hb dX6_power_27 (by decide) ?_
        exact z_iret X hP hS hr hlocks h dX6_power_29
    · have h := zif_t h c4
      refine lv_iconst (v := -1) hx hb dX6_power_16 (by decide) ?_
      exact z_iret X hP hS hr hlocks h dX6_power_17
abbrev rmX6_exchange_8 : Room := { frames := 1, cells := 0, slots := 0, locals := 21 }
set_option maxHeartbeats 4000000 in
set_option maxRecDepth 100000 in
theorem kX6_exchange_8 {l : Launch} {D : va_G} {a : Nat → Nat} {cI cJ cC : ClassId} {adK adV : Nat → Nat} {x1 : Int32} {x2 : Int32} {s τ : ZS} {r : Int32} (h : fX6_exchange_8 x1 x2 s = some (r, τ)) : zMi (zcC a cI cJ cC) 41 a D [(cI, .int), (cJ, .long)] (zEC adK adV) l yX6_exchange wsX6_exchange rmX6_exchange_8 [.ref (a 8), .int x1, .int x2] s r τ := by
  refine z_start (cc := cX6_exchange) (maxL := 4) (ret := (some .int)) RX6 rfl (by decide) rfl (Nat.le_of_ble_eq_true rfl) ?_
  intro p e st m args below meth c ls H locs X hr hlocks hA hE hP hS hl
  obtain ⟨hx, hb, hml, hown, hts, -⟩ := id X
  have hG := zEC_good adK adV
  have hl : lv_has ls 4 [(0, .ref (a 8)), (1, .int x1), (2, .int x2)] := hl
  refine lv_iload_n hx hb dX6_exchange_0 rfl (lv_at hl 1 rfl) ?_
  refine lv_aload_n hx hb dX6_exchange_1 rfl (lv_at hl 0 rfl) ?_
  refine z_alen (v := 15) X hP 8 0 (by decide) (zcC_8 _ _ _ _ _ _) rfl rfl dX6_exchange_2 ?_
  obtain ⟨u1, s1, e1, h⟩ := zb_some h
  refine z_calli hS (z_runS (As := [.int x1, .int (15 : Int32)]) (rest := []) X hG hA hE hP hS (kX6_within (l := l) (D := D) (a := a) (cI := cI) (cJ := cJ) (cC := cC) (adK := adK) (adV := adV) e1 _) (va_cwS 2 hts gX6_exchange_X6_within rfl rfl rfl (by decide +kernel) ⟨Nat.le_of_ble_eq_true rfl, Nat.le_of_ble_eq_true rfl⟩) rfl hl.1 rfl (Nat.le_of_ble_eq_true rfl) dX6_exchange_3) (fun H locs hP hS => ?_)
  refine lv_if_ne (tgt := 11) hx hb dX6_exchange_6 (by decide) (fun c2 => ?_) (fun c2 => ?_)
  · have h := zif_f h c2
    refine lv_aload_n hx hb dX6_exchange_11 rfl (lv_at hl 0 rfl) ?_
    refine lv_iload_n hx hb dX6_exchange_12 rfl (lv_at hl 1 rfl) ?_
    obtain ⟨g3, h⟩ := zg_some h
    refine z_iald X hP 8 0 (by decide) (zcC_8 _ _ _ _ _ _) rfl g3 dX6_exchange_13 ?_
    refine lv_istore_n (lv' := [(3, .int ((s1).1 8 (x1).toNatClampNeg)), (0, .ref (a 8)), (1, .int x1), (2, .int x2)]) hx hb dX6_exchange_14 rfl hl (by decide) rfl (fun ls hl => ?_)
    refine lv_aload_n hx hb dX6_exchange_15 rfl (lv_at hl 1 rfl) ?_
    refine lv_iload_n hx hb dX6_exchange_16 rfl (lv_at hl 2 rfl) ?_
    refine lv_iload_n hx hb dX6_exchange_17 rfl (lv_at hl 3 rfl) ?_
    obtain ⟨g4, h⟩ := zg_some h
    refine z_iast X hA hP hS 8 0 (by decide) (zcC_8 _ _ _ _) rfl g4 dX6_exchange_18 (fun H locs hP hS => ?_)
    refine lv_iload_n hx hb dX6_exchange_19 rfl (lv_at hl 0 rfl) ?_
    exact z_iret X hP hS hr hlocks h dX6_exchange_20
  · have h := zif_t h c2
    refine lv_iconst (v := -1) hx hb dX6_exchange_9 (by decide) ?_
    exact z_iret X hP hS hr hlocks h dX6_exchange_10
abbrev rmX6_weight : Room := { frames := 2, cells := 0, slots := 0, locals := 44 }
set_option maxHeartbeats 4000000 in
set_option maxRecDepth 100000 in
theorem kX6_weight {l : Launch} {D : va_G} {a : Nat → Nat} {cI cJ cC : ClassId} {adK adV : Nat → Nat} {x1 : Int32} {x2 : Int32} {x3 : Int32} {s τ : ZS} {r : Int32} (h : fX6_weight x1 x2 x3 s = some (r, τ)) : zMi (zcC a cI cJ cC) 41 a D [(cI, .int), (cJ, .long)] (zEC adK adV) l yX6_weight wsX6_weight rmX6_weight [.ref (a 0), .int x1, .int x2, .int x3] s r τ := by
  refine z_start (cc := cX6_weight) (maxL := 4) (ret := (some .int)) RX6 rfl (by decide) rfl (Nat.le_of_ble_eq_true rfl) ?_
  intro p e st m args below meth c ls H locs X hr hlocks hA hE hP hS hl
  obtain ⟨hx, hb, hml, hown, hts, -⟩ := id X
  have hG := zEC_good adK adV
  have inX3 : ∀ w ∈ u_ws RX3 TX3 10, w ∈ wsX6_weight := by decide +kernel
  have inX6 : ∀ w ∈ u_ws RX6 TX6 12, w ∈ wsX6_weight := by decide +kernel
  have hl : lv_has ls 4 [(0, .ref (a 0)), (1, .int x1), (2, .int x2), (3, .int x3)] := hl
  refine lv_iload_n hx hb dX6_weight_0 rfl (lv_at hl 1 rfl) ?_
  refine lv_iconst (v := 3) hx hb dX6_weight_1 (by decide) ?_
  obtain ⟨u1, s1, e1, h⟩ := zb_some h
  refine z_calli hS (z_runS (As := [.int x1, .int (3 : Int32)]) (rest := []) X hG hA hE hP hS (kX6_within (l := l) (D := D) (a := a) (cI := cI) (cJ := cJ) (cC := cC) (adK := adK) (adV := adV) e1 _) (va_cwS 2 hts gX6_weight_X6_within rfl rfl rfl (by decide +kernel) ⟨Nat.le_of_ble_eq_true rfl, Nat.le_of_ble_eq_true rfl⟩) rfl hl.1 rfl (Nat.le_of_ble_eq_true rfl) dX6_weight_2) (fun H locs hP hS => ?_)
  refine lv_if_eq (tgt := 16) hx hb dX6_weight_5 (by decide) (fun c2 => ?_) (fun c2 => ?_)
  · have h := zif_t h c2
    refine lv_iconst (v := -1) hx hb dX6_weight_16 (by decide) ?_
    exact z_iret X hP hS hr hlocks h dX6_weight_17
  · have h := zif_f h c2
    refine lv_iload_n hx hb dX6_weight_8 rfl (lv_at hl 2 rfl) ?_
    refine lv_iconst (v := 5) hx hb dX6_weight_9 (by decide) ?_
    obtain ⟨u3, s3, e3, h⟩ := zb_some h
    refine z_calli hS (z_runS (As := [.int x2, .int (5 : Int32)]) (rest := []) X hG hA hE hP hS (kX6_within (l := l) (D := D) (a := a) (cI := cI) (cJ := cJ) (cC := cC) (adK := adK) (adV := adV) e3 _) (va_cwS 2 hts gX6_weight_X6_within rfl rfl rfl (by decide +kernel) ⟨Nat.le_of_ble_eq_true rfl, Nat.le_of_ble_eq_true rfl⟩) rfl hl.1 rfl (Nat.le_of_ble_eq_true rfl) dX6_weight_10) (fun H locs hP hS => ?_)
    refine lv_if_ne (tgt := 18) hx hb dX6_weight_13 (by decide) (fun c4 => ?_) (fun c4 => ?_)
    · have h := zif_f h c4
      refine lv_iload_n hx hb dX6_weight_18 rfl (lv_at hl 3 rfl) ?_
      refine lv_bipush (v := 10) hx hb dX6_weight_19 (by decide) ?_
      obtain ⟨u5, s5, e5, h⟩ := zb_some h
      refine z_calli hS (z_runS (As := [.int x3, .int (10 : Int32)]) (rest := []) X hG hA hE hP hS (kX6_within (l := l) (D := D) (a := a) (cI := cI) (cJ := cJ) (cC := cC) (adK := adK) (adV := adV) e5 _) (va_cwS 2 hts gX6_weight_X6_within rfl rfl rfl (by decide +kernel) ⟨Nat.le_of_ble_eq_true rfl, Nat.le_of_ble_eq_true rfl⟩) rfl hl.1 rfl (Nat.le_of_ble_eq_true rfl) dX6_weight_21) (fun H locs hP hS => ?_)
      refine lv_if_ne (tgt := 30) hx hb dX6_weight_24 (by decide) (fun c6 => ?_) (fun c6 => ?_)
      · have h := zif_f h c6
        refine lv_aload_n hx hb dX6_weight_30 rfl (lv_at hl 0 rfl) ?_
        refine z_get (C := RX6) (T := TX6) (N := 12) X inX6 hP 0 (by decide) (zcC_0 _ _ _ _ _ _) rfl 0 (by decide) rfl (by decide +kernel) rfl dX6_weight_31 ?_
        refine z_get (C := RX3) (T := TX3) (N := 10) X inX3 hP 1 (by decide) (zcC_1 _ _ _ _ _ _) rfl 8 (by decide) rfl (by decide +kernel) rfl dX6_weight_34 ?_
        refine lv_iload_n hx hb dX6_weight_37 rfl (lv_at hl 1 rfl) ?_
        refine lv_iconst (v := 5) hx hb dX6_weight_38 (by decide) ?_
        refine lv_imul hx hb dX6_weight_39 ?_
        refine lv_iload_n hx hb dX6_weight_40 rfl (lv_at hl 2 rfl) ?_
        refine lv_iadd hx hb dX6_weight_41 ?_
        refine lv_iload_n hx hb dX6_weight_42 rfl (lv_at hl 3 rfl) ?_
        obtain ⟨u7, s7, e7, h⟩ := zb_some h
        refine z_calli hS (z_runS (As := [.ref (a 8), .int ((x1 * (5 : Int32)) + x2), .int x3]) (rest := []) X hG hA hE hP hS (kX6_exchange_8 (l := l) (D := D) (a := a) (cI := cI) (cJ := cJ) (cC := cC) (adK := adK) (adV := adV) e7 _) (va_cwS 3 hts gX6_weight_X6_exchange rfl rfl rfl (by decide +kernel) ⟨Nat.le_of_ble_eq_true rfl, Nat.le_of_ble_eq_true rfl⟩) rfl hl.1 rfl (Nat.le_of_ble_eq_true rfl) dX6_weight_43) (fun H locs hP hS => ?_)
        exact z_iret X hP hS hr hlocks h dX6_weight_46
      · have h := zif_t h c6
        refine lv_bipush (v := -2) hx hb dX6_weight_27 (by decide) ?_
        exact z_iret X hP hS hr hlocks h dX6_weight_29
    · have h := zif_t h c4
      refine lv_iconst (v := -1) hx hb dX6_weight_16 (by decide) ?_
      exact z_iret X hP hS hr hlocks h dX6_weight_17
abbrev rmX0_lookAtSheetAs : Room := { frames := 3, cells := 0, slots := 0, locals := 69 }
set_option maxHeartbeats 4000000 in
set_option maxRecDepth 100000 in
theorem kX0_lookAtSheetAs {l : Launch} {D : va_G} {a : Nat → Nat} {cI cJ cC : ClassId} {adK adV : Nat → Nat} {x1 : Int32} {x2 : Int32} {x3 : Int32} {s τ : ZS} {r : Unit} (h : fX0_lookAtSheetAs x1 x2 x3 s = some (r, τ)) : zMv (zcC a cI cJ cC) 41 a D [(cI, .int), (cJ, .long)] (zEC adK adV) l yX0_lookAtSheetAs wsX0_lookAtSheetAs rmX0_lookAtSheetAs [.ref (a 19), .int x1, .int x2, .int x3] s r τ := by
  refine z_start (cc := cX0_lookAtSheetAs) (maxL := 5) (ret := none) RX0 rfl (by decide) rfl (Nat.le_of_ble_eq_true rfl) ?_
  intro p e st m args below meth c ls H locs X hr hlocks hA hE hP hS hl
  obtain ⟨hx, hb, hml, hown, hts, -⟩ := id X
  have hG := zEC_good adK adV
  have inX0 : ∀ w ∈ u_ws RX0 TX0 5, w ∈ wsX0_lookAtSheetAs := by decide +kernel
  have w13 : ∀  (n : Nat) (x1 : Int32) (x2 : Int32) (x3 : Int32) (x4 : Int32) (s : ZS) (H : Heap) (locs : List Loc) (ls : Array Slot), fX0_lookAtSheetAs_13n  n (x1, x2, x3, x4, s) = some (r, τ) → va_P D vwCl (zW (zcC a cI cJ cC) 41 a s) H → va_S (zF 41 a st.heap.size) st.heap H locs → lv_has ls 5 [(0, .ref (a 19)), (1, .int x1), (2, .int x2), (3, .int x3), (4, .int x4)] → W p l e rmX0_lookAtSheetAs st m args below meth c H locs 0 0 (MQ below (va_Qv (fun (τ' : ZS) => τ' = τ) (zPost (zcC a cI cJ cC) 41 a D [(cI, .int), (cJ, .long)]) (zF 41 a st.heap.size)) args st 0 0 (zF 41 a st.heap.size)) (F0 m 13 ls []) := by
    intro  n
    induction n with
    | zero => intro x1 x2 x3 x4 s H locs ls h; exact zloop_0 h
    | succ n ih =>
      intro x1 x2 x3 x4 s H locs ls h hP hS hl
      have h : fX0_lookAtSheetAs_13b  (fun x1 x2 x3 x4 s => fX0_lookAtSheetAs_13n  n (x1, x2, x3, x4, s)) x1 x2 x3 x4 s = some (r, τ) := h
      refine lv_iload hx hb dX0_lookAtSheetAs_13 (lv_at hl 4 rfl) ?_
      refine lv_iconst (v := 5) hx hb dX0_lookAtSheetAs_15 (by decide) ?_
      refine lv_icmp_ge (tgt := 48) hx hb dX0_lookAtSheetAs_16 (by decide) (fun c1 => ?_) (fun c1 => ?_)
      · have h := zif_t h c1
        exact z_vret X hP hS hr hlocks h dX0_lookAtSheetAs_48
      · have h := zif_f h c1
        refine lv_aload_n hx hb dX0_lookAtSheetAs_19 rfl (lv_at hl 0 rfl) ?_
        refine z_get (C := RX0) (T := TX0) (N := 5) X inX0 hP 19 (by decide) (zcC_19 _ _ _ _ _ _) rfl 1 (by decide) rfl (by decide +kernel) rfl dX0_lookAtSheetAs_20 ?_
        refine lv_iload_n hx hb dX0_lookAtSheetAs_23 rfl (lv_at hl 1 rfl) ?_
        refine lv_iconst (v := 5) hx hb dX0_lookAtSheetAs_24 (by decide) ?_
        refine lv_imul hx hb dX0_lookAtSheetAs_25 ?_
        refine lv_iload hx hb dX0_lookAtSheetAs_26 (lv_at hl 4 rfl) ?_
        refine lv_iadd hx hb dX0_lookAtSheetAs_28 ?_
        refine lv_aload_n hx hb dX0_lookAtSheetAs_29 rfl (lv_at hl 0 rfl) ?_
        refine z_get (C := RX0) (T := TX0) (N := 5) X inX0 hP 19 (by decide) (zcC_19 _ _ _ _ _ _) rfl 0 (by decide) rfl (by decide +kernel) rfl dX0_lookAtSheetAs_30 ?_
        refine lv_iload_n hx hb dX0_lookAtSheetAs_33 rfl (lv_at hl 1 rfl) ?_
        refine lv_iload_n hx hb dX0_lookAtSheetAs_34 rfl (lv_at hl 2 rfl) ?_
        refine lv_iload_n hx hb dX0_lookAtSheetAs_35 rfl (lv_at hl 3 rfl) ?_
        refine lv_iload hx hb dX0_lookAtSheetAs_36 (lv_at hl 4 rfl) ?_
        obtain ⟨u2, s2, e2, h⟩ := zb_some h
        refine z_calli hS (z_runV (As := [.int x1, .int x2, .int x3, .int x4]) (rest := [.int ((x1 * (5 : Int32)) + x4), .ref (a 20)]) X hG hA hE hP hS 1 (kX3_letsAs (l := l) (D := D) (a := a) (cI := cI) (cJ := cJ) (cC := cC) (adK := adK) (adV := adV) e2 _) (cwV 4 hts gX0_lookAtSheetAs_X3_letsAs rfl rfl rfl (by decide +kernel) ⟨Nat.le_of_ble_eq_true rfl, Nat.le_of_ble_eq_true rfl⟩) (by decide) (zcC_1 _ _ _ _ _ _) rfl rfl rfl hl.1 rfl (Nat.le_of_ble_eq_true rfl) dX0_lookAtSheetAs_38) (fun H locs hP hS => ?_)
        obtain ⟨g3, h⟩ := zg_some h
        refine z_iast X hA hP hS 20 0 (by decide) (zcC_20 _ _ _ _) rfl g3 dX0_lookAtSheetAs_41 (fun H locs hP hS => ?_)
        refine lv_iinc (v := (x4 + (1 : Int32))) (lv' := [(4, .int (x4 + (1 : Int32))), (0, .ref (a 19)), (1, .int x1), (2, .int x2), (3, .int x3)]) hx hb dX0_lookAtSheetAs_42 hl (k := 4) rfl rfl (by decide) rfl (fun ls hl => ?_)
        refine lv_goto (tgt := 13) hx hb dX0_lookAtSheetAs_45 (by decide) ?_
        exact ih (x1) (x2) (x3) ((x4 + (1 : Int32))) ((zI s2 20 (((x1 * (5 : Int32)) + x4)).toNatClampNeg u2)) _ _ _ h hP hS (lv_sub hl [1, 2, 3, 4, 0] rfl)
  have hl : lv_has ls 5 [(0, .ref (a 19)), (1, .int x1), (2, .int x2), (3, .int x3)] := hl
  refine lv_iload_n hx hb dX0_lookAtSheetAs_0 rfl (lv_at hl 1 rfl) ?_
  refine lv_bipush (v := 8) hx hb dX0_lookAtSheetAs_1 (by decide) ?_
  obtain ⟨u1, s1, e1, h⟩ := zb_some h
  refine z_calli hS (z_runSN (As := [.int x1, .int (8 : Int32)]) (rest := []) X hG hA hE hP hS (kX6_within (l := l) (D := D) (a := a) (cI := cI) (cJ := cJ) (cC := cC) (adK := adK) (adV := adV) e1 _) (va_cnB 2 hts gX0_lookAtSheetAs_X6_within_n42 rfl rfl rfl (zE_nest hE 0 rfl) (hts (.initialized RX6) (by decide +kernel)) (by decide +kernel) ⟨Nat.le_of_ble_eq_true rfl, Nat.le_of_ble_eq_true rfl⟩) (by decide +kernel) rfl hl.1 rfl (Nat.le_of_ble_eq_true rfl) dX0_lookAtSheetAs_3) (fun H locs hP hS => ?_)
  refine lv_if_ne (tgt := 10) hx hb dX0_lookAtSheetAs_6 (by decide) (fun c2 => ?_) (fun c2 => ?_)
  · have h := zif_f h c2
    refine lv_iconst (v := 0) hx hb dX0_lookAtSheetAs_10 (by decide) ?_
    refine lv_istore (lv' := [(4, .int (0 : Int32)), (0, .ref (a 19)), (1, .int x1), (2, .int x2), (3, .int x3)]) hx hb dX0_lookAtSheetAs_11 hl (by decide) rfl (fun ls hl => ?_)
    exact w13  zN (x1) (x2) (x3) ((0 : Int32)) (s1) _ _ _ h hP hS (lv_sub hl [1, 2, 3, 4, 0] rfl)
  · have h := zif_t h c2
    exact z_vret X hP hS hr hlocks h dX0_lookAtSheetAs_9
abbrev rmX0_lookAtSheets : Room := { frames := 4, cells := 0, slots := 0, locals := 93 }
set_option maxHeartbeats 4000000 in
set_option maxRecDepth 100000 in
theorem kX0_lookAtSheets {l : Launch} {D : va_G} {a : Nat → Nat} {cI cJ cC : ClassId} {adK adV : Nat → Nat}  {s τ : ZS} {r : Unit} (h : fX0_lookAtSheets  s = some (r, τ)) : zMv (zcC a cI cJ cC) 41 a D [(cI, .int), (cJ, .long)] (zEC adK adV) l yX0_lookAtSheets wsX0_lookAtSheets rmX0_lookAtSheets [.ref (a 19)] s r τ := by
  refine z_start (cc := cX0_lookAtSheets) (maxL := 2) (ret := none) RX0 rfl (by decide) rfl (Nat.le_of_ble_eq_true rfl) ?_
  intro p e st m args below meth c ls H locs X hr hlocks hA hE hP hS hl
  obtain ⟨hx, hb, hml, hown, hts, -⟩ := id X
  have hG := zEC_good adK adV
  have inX0 : ∀ w ∈ u_ws RX0 TX0 5, w ∈ wsX0_lookAtSheets := by decide +kernel
  have inX3 : ∀ w ∈ u_ws RX3 TX3 10, w ∈ wsX0_lookAtSheets := by decide +kernel
  have w2 : ∀  (n : Nat) (x1 : Int32) (s : ZS) (H : Heap) (locs : List Loc) (ls : Array Slot), fX0_lookAtSheets_2n  n (x1, s) = some (r, τ) → va_P D vwCl (zW (zcC a cI cJ cC) 41 a s) H → va_S (zF 41 a st.heap.size) st.heap H locs → lv_has ls 2 [(0, .ref (a 19)), (1, .int x1)] → W p l e rmX0_lookAtSheets st m args below meth c H locs 0 0 (MQ below (va_Qv (fun (τ' : ZS) => τ' = τ) (zPost (zcC a cI cJ cC) 41 a D [(cI, .int), (cJ, .long)]) (zF 41 a st.heap.size)) args st 0 0 (zF 41 a st.heap.size)) (F0 m 2 ls []) := by
    intro  n
    induction n with
    | zero => intro x1 s H locs ls h; exact zloop_0 h
    | succ n ih =>
      intro x1 s H locs ls h hP hS hl
      have h : fX0_lookAtSheets_2b  (fun x1 s => fX0_lookAtSheets_2n  n (x1, s)) x1 s = some (r, τ) := h
      refine lv_iload_n hx hb dX0_lookAtSheets_2 rfl (lv_at hl 1 rfl) ?_
      refine lv_aload_n hx hb dX0_lookAtSheets_3 rfl (lv_at hl 0 rfl) ?_
      refine z_get (C := RX0) (T := TX0) (N := 5) X inX0 hP 19 (by decide) (zcC_19 _ _ _ _ _ _) rfl 0 (by decide) rfl (by decide +kernel) rfl dX0_lookAtSheets_4 ?_
      refine z_get (C := RX3) (T := TX3) (N := 10) X inX3 hP 1 (by decide) (zcC_1 _ _ _ _ _ _) rfl 0 (by decide) rfl (by decide +kernel) rfl dX0_lookAtSheets_7 ?_
      refine lv_icmp_ge (tgt := 42) hx hb dX0_lookAtSheets_10 (by decide) (fun c1 => ?_) (fun c1 => ?_)
      · have h := zif_t h c1
        exact z_vret X hP hS hr hlocks h dX0_lookAtSheets_42
      · have h := zif_f h c1
        refine lv_aload_n hx hb dX0_lookAtSheets_13 rfl (lv_at hl 0 rfl) ?_
        refine lv_iload_n hx hb dX0_lookAtSheets_14 rfl (lv_at hl 1 rfl) ?_
        refine lv_aload_n hx hb dX0_lookAtSheets_15 rfl (lv_at hl 0 rfl) ?_
        refine z_get (C := RX0) (T := TX0) (N := 5) X inX0 hP 19 (by decide) (zcC_19 _ _ _ _ _ _) rfl 0 (by decide) rfl (by decide +kernel) rfl dX0_lookAtSheets_16 ?_
        refine z_get (C := RX3) (T := TX3) (N := 10) X inX3 hP 1 (by decide) (zcC_1 _ _ _ _ _ _) rfl 1 (by decide) rfl (by decide +kernel) rfl dX0_lookAtSheets_19 ?_
        refine lv_iload_n hx hb dX0_lookAtSheets_22 rfl (lv_at hl 1 rfl) ?_
        obtain ⟨g2, h⟩ := zg_some h
        refine z_iald X hP 2 0 (by decide) (zcC_2 _ _ _ _ _ _) rfl g2 dX0_lookAtSheets_23 ?_
        refine lv_aload_n hx hb dX0_lookAtSheets_24 rfl (lv_at hl 0 rfl) ?_
        refine z_get (C := RX0) (T := TX0) (N := 5) X inX0 hP 19 (by decide) (zcC_19 _ _ _ _ _ _) rfl 0 (by decide) rfl (by decide +kernel) rfl dX0_lookAtSheets_25 ?_
        refine z_get (C := RX3) (T := TX3) (N := 10) X inX3 hP 1 (by decide) (zcC_1 _ _ _ _ _ _) rfl 2 (by decide) rfl (by decide +kernel) rfl dX0_lookAtSheets_28 ?_
        refine lv_iload_n hx hb dX0_lookAtSheets_31 rfl (lv_at hl 1 rfl) ?_
        obtain ⟨g3, h⟩ := zg_some h
        refine z_iald X hP 3 0 (by decide) (zcC_3 _ _ _ _ _ _) rfl g3 dX0_lookAtSheets_32 ?_
        obtain ⟨u4, s4, e4, h⟩ := zb_some h
        refine z_callv hS (z_runV (As := [.int x1, .int ((s).1 2 (x1).toNatClampNeg), .int ((s).1 3 (x1).toNatClampNeg)]) (rest := []) X hG hA hE hP hS 19 (kX0_lookAtSheetAs (l := l) (D := D) (a := a) (cI := cI) (cJ := cJ) (cC := cC) (adK := adK) (adV := adV) e4 _) (cwV 3 hts gX0_lookAtSheets_X0_lookAtSheetAs rfl rfl rfl (by decide +kernel) ⟨Nat.le_of_ble_eq_true rfl, Nat.le_of_ble_eq_true rfl⟩) (by decide) (zcC_19 _ _ _ _ _ _) rfl rfl rfl hl.1 rfl (Nat.le_of_ble_eq_true rfl) dX0_lookAtSheets_33) (fun H locs hP hS => ?_)
        refine lv_iinc (v := (x1 + (1 : Int32))) (lv' := [(1, .int (x1 + (1 : Int32))), (0, .ref (a 19))]) hx hb dX0_lookAtSheets_36 hl (k := 1) rfl rfl (by decide) rfl (fun ls hl => ?_)
        refine lv_goto (tgt := 2) hx hb dX0_lookAtSheets_39 (by decide) ?_
        exact ih ((x1 + (1 : Int32))) (s4) _ _ _ h hP hS (lv_sub hl [1, 0] rfl)
  have hl : lv_has ls 2 [(0, .ref (a 19))] := hl
  refine lv_iconst (v := 0) hx hb dX0_lookAtSheets_0 (by decide) ?_
  refine lv_istore_n (lv' := [(1, .int (0 : Int32)), (0, .ref (a 19))]) hx hb dX0_lookAtSheets_1 rfl hl (by decide) rfl (fun ls hl => ?_)
  exact w2  zN ((0 : Int32)) (s) _ _ _ h hP hS (lv_sub hl [1, 0] rfl)
abbrev rmX0_add : Room := { frames := 1, cells := 0, slots := 0, locals := 21 }
set_option maxHeartbeats 4000000 in
set_option maxRecDepth 100000 in
theorem kX0_add {l : Launch} {D : va_G} {a : Nat → Nat} {cI cJ cC : ClassId} {adK adV : Nat → Nat} {x1 : Int32} {s τ : ZS} {r : Unit} (h : fX0_add x1 s = some (r, τ)) : zMv (zcC a cI cJ cC) 41 a D [(cI, .int), (cJ, .long)] (zEC adK adV) l yX0_add wsX0_add rmX0_add [.ref (a 19), .int x1] s r τ := by
  refine z_start (cc := cX0_add) (maxL := 3) (ret := none) RX0 rfl (by decide) rfl (Nat.le_of_ble_eq_true rfl) ?_
  intro p e st m args below meth c ls H locs X hr hlocks hA hE hP hS hl
  obtain ⟨hx, hb, hml, hown, hts, -⟩ := id X
  have hG := zEC_good adK adV
  have inX0 : ∀ w ∈ u_ws RX0 TX0 5, w ∈ wsX0_add := by decide +kernel
  have w21 : ∀  (n : Nat) (x1 : Int32) (x2 : Int32) (s : ZS) (H : Heap) (locs : List Loc) (ls : Array Slot), fX0_add_21n  n (x1, x2, s) = some (r, τ) → va_P D vwCl (zW (zcC a cI cJ cC) 41 a s) H → va_S (zF 41 a st.heap.size) st.heap H locs → lv_has ls 3 [(0, .ref (a 19)), (1, .int x1), (2, .int x2)] → W p l e rmX0_add st m args below meth c H locs 0 0 (MQ below (va_Qv (fun (τ' : ZS) => τ' = τ) (zPost (zcC a cI cJ cC) 41 a D [(cI, .int), (cJ, .long)]) (zF 41 a st.heap.size)) args st 0 0 (zF 41 a st.heap.size)) (F0 m 21 ls []) := by
    intro  n
    induction n with
    | zero => intro x1 x2 s H locs ls h; exact zloop_0 h
    | succ n ih =>
      intro x1 x2 s H locs ls h hP hS hl
      have h : fX0_add_21b  (fun x1 x2 s => fX0_add_21n  n (x1, x2, s)) x1 x2 s = some (r, τ) := h
      refine lv_iload_n hx hb dX0_add_21 rfl (lv_at hl 2 rfl) ?_
      refine lv_iconst (v := 5) hx hb dX0_add_22 (by decide) ?_
      refine lv_icmp_ge (tgt := 52) hx hb dX0_add_23 (by decide) (fun c1 => ?_) (fun c1 => ?_)
      · have h := zif_t h c1
        refine lv_aload_n hx hb dX0_add_52 rfl (lv_at hl 0 rfl) ?_
        refine lv_dup hx hb dX0_add_53 rfl ?_
        refine z_get (C := RX0) (T := TX0) (N := 5) X inX0 hP 19 (by decide) (zcC_19 _ _ _ _ _ _) rfl 3 (by decide) rfl (by decide +kernel) rfl dX0_add_54 ?_
        refine lv_ldc2 (own := RX0) (index := 57) (v := 100) hx hb hown (hts _ (by decide +kernel)) dX0_add_57 ?_
        refine lv_lmul hx hb dX0_add_60 ?_
        refine z_putL (ty := .long) (x := (((s).2 19 3) * (100 : Int64))) (C := RX0) (T := TX0) (N := 5) X inX0 tyX0 tyX0_ok nmX0 hA hP hS 19 (by decide) (zcC_19 _ _ _ _ _ _) rfl 3 (by decide) rfl (by decide +kernel) rfl (by decide +kernel) rfl rfl (Nat.le_of_ble_eq_true rfl) rfl dX0_add_61 (fun H locs hP hS => ?_)
        refine lv_aload_n hx hb dX0_add_64 rfl (lv_at hl 0 rfl) ?_
        refine lv_dup hx hb dX0_add_65 rfl ?_
        refine z_get (C := RX0) (T := TX0) (N := 5) X inX0 hP 19 (by decide) (zcC_19 _ _ _ _ _ _) rfl 4 (by decide) rfl (by decide +kernel) rfl dX0_add_66 ?_
        refine lv_iconst (v := 1) hx hb dX0_add_69 (by decide) ?_
        refine lv_iadd hx hb dX0_add_70 ?_
        refine z_put (ty := .int) (x := ((((zL s 19 3 (((s).2 19 3) * (100 : Int64)))).1 19 4) + (1 : Int32))) (C := RX0) (T := TX0) (N := 5) X inX0 tyX0 tyX0_ok nmX0 hA hP hS 19 (by decide) (zcC_19 _ _ _ _ _ _) rfl 4 (by decide) rfl (by decide +kernel) rfl (by decide +kernel) rfl rfl (Nat.le_of_ble_eq_true rfl) rfl dX0_add_71 (fun H locs hP hS => ?_)
        exact z_vret X hP hS hr hlocks h dX0_add_74
      · have h := zif_f h c1
        refine lv_aload_n hx hb dX0_add_26 rfl (lv_at hl 0 rfl) ?_
        refine z_get (C := RX0) (T := TX0) (N := 5) X inX0 hP 19 (by decide) (zcC_19 _ _ _ _ _ _) rfl 2 (by decide) rfl (by decide +kernel) rfl dX0_add_27 ?_
        refine lv_iload_n hx hb dX0_add_30 rfl (lv_at hl 2 rfl) ?_
        refine lv_dup2_11 hx hb dX0_add_31 rfl rfl ?_
        obtain ⟨g2, h⟩ := zg_some h
        refine z_lald X hP 21 1 (by decide) (zcC_21 _ _ _ _ _ _) rfl g2 dX0_add_32 ?_
        refine lv_aload_n hx hb dX0_add_33 rfl (lv_at hl 0 rfl) ?_
        refine z_get (C := RX0) (T := TX0) (N := 5) X inX0 hP 19 (by decide) (zcC_19 _ _ _ _ _ _) rfl 1 (by decide) rfl (by decide +kernel) rfl dX0_add_34 ?_
        refine lv_iload_n hx hb dX0_add_37 rfl (lv_at hl 1 rfl) ?_
        refine lv_iconst (v := 5) hx hb dX0_add_38 (by decide) ?_
        refine lv_imul hx hb dX0_add_39 ?_
        refine lv_iload_n hx hb dX0_add_40 rfl (lv_at hl 2 rfl) ?_
        refine lv_iadd hx hb dX0_add_41 ?_
        obtain ⟨g3, h⟩ := zg_some h
        refine z_iald X hP 20 0 (by decide) (zcC_20 _ _ _ _ _ _) rfl g3 dX0_add_42 ?_
        refine lv_i2l hx hb dX0_add_43 rfl ?_
        refine lv_lmul hx hb dX0_add_44 ?_
        obtain ⟨g4, h⟩ := zg_some h
        refine z_last X hA hP hS 21 1 (by decide) (zcC_21 _ _ _ _) rfl g4 dX0_add_45 (fun H locs hP hS => ?_)
        refine lv_iinc (v := (x2 + (1 : Int32))) (lv' := [(2, .int (x2 + (1 : Int32))), (0, .ref (a 19)), (1, .int x1)]) hx hb dX0_add_46 hl (k := 2) rfl rfl (by decide) rfl (fun ls hl => ?_)
        refine lv_goto (tgt := 21) hx hb dX0_add_49 (by decide) ?_
        exact ih (x1) ((x2 + (1 : Int32))) ((zL s 21 (x2).toNatClampNeg (((s).2 21 (x2).toNatClampNeg) * (((s).1 20 (((x1 * (5 : Int32)) + x2)).toNatClampNeg)).toInt64))) _ _ _ h hP hS (lv_sub hl [1, 2, 0] rfl)
  have hl : lv_has ls 3 [(0, .ref (a 19)), (1, .int x1)] := hl
  refine lv_iload_n hx hb dX0_add_0 rfl (lv_at hl 1 rfl) ?_
  refine lv_bipush (v := 8) hx hb dX0_add_1 (by decide) ?_
  obtain ⟨u1, s1, e1, h⟩ := zb_some h
  refine z_calli hS (z_runSN (As := [.int x1, .int (8 : Int32)]) (rest := []) X hG hA hE hP hS (kX6_within (l := l) (D := D) (a := a) (cI := cI) (cJ := cJ) (cC := cC) (adK := adK) (adV := adV) e1 _) (va_cnB 2 hts gX0_add_X6_within_n42 rfl rfl rfl (zE_nest hE 0 rfl) (hts (.initialized RX6) (by decide +kernel)) (by decide +kernel) ⟨Nat.le_of_ble_eq_true rfl, Nat.le_of_ble_eq_true rfl⟩) (by decide +kernel) rfl hl.1 rfl (Nat.le_of_ble_eq_true rfl) dX0_add_3) (fun H locs hP hS => ?_)
  refine lv_if_eq (tgt := 18) hx hb dX0_add_6 (by decide) (fun c2 => ?_) (fun c2 => ?_)
  · have h := zif_t h c2
    exact z_vret X hP hS hr hlocks h dX0_add_18
  · have h := zif_f h c2
    refine lv_aload_n hx hb dX0_add_9 rfl (lv_at hl 0 rfl) ?_
    refine z_get (C := RX0) (T := TX0) (N := 5) X inX0 hP 19 (by decide) (zcC_19 _ _ _ _ _ _) rfl 4 (by decide) rfl (by decide +kernel) rfl dX0_add_10 ?_
    refine lv_bipush (v := 8) hx hb dX0_add_13 (by decide) ?_
    refine lv_icmp_lt (tgt := 19) hx hb dX0_add_15 (by decide) (fun c3 => ?_) (fun c3 => ?_)
    · have h := zif_t h c3
      refine lv_iconst (v := 0) hx hb dX0_add_19 (by decide) ?_
      refine lv_istore_n (lv' := [(2, .int (0 : Int32)), (0, .ref (a 19)), (1, .int x1)]) hx hb dX0_add_20 rfl hl (by decide) rfl (fun ls hl => ?_)
      exact w21  zN (x1) ((0 : Int32)) (s1) _ _ _ h hP hS (lv_sub hl [1, 2, 0] rfl)
    · have h := zif_f h c3
      exact z_vret X hP hS hr hlocks h dX0_add_18
abbrev rmX0_clear : Room := { frames := 0, cells := 0, slots := 0, locals := 0 }
set_option maxHeartbeats 4000000 in
set_option maxRecDepth 100000 in
theorem kX0_clear {l : Launch} {D : va_G} {a : Nat → Nat} {cI cJ cC : ClassId} {adK adV : Nat → Nat}  {s τ : ZS} {r : Unit} (h : fX0_clear  s = some (r, τ)) : zMv (zcC a cI cJ cC) 41 a D [(cI, .int), (cJ, .long)] (zEC adK adV) l yX0_clear wsX0_clear rmX0_clear [.ref (a 19)] s r τ := by
  refine z_start (cc := cX0_clear) (maxL := 2) (ret := none) RX0 rfl (by decide) rfl (Nat.le_of_ble_eq_true rfl) ?_
  intro p e st m args below meth c ls H locs X hr hlocks hA hE hP hS hl
  obtain ⟨hx, hb, hml, hown, hts, -⟩ := id X
  have hG := zEC_good adK adV
  have inX0 : ∀ w ∈ u_ws RX0 TX0 5, w ∈ wsX0_clear := by decide +kernel
  have w2 : ∀  (n : Nat) (x1 : Int32) (s : ZS) (H : Heap) (locs : List Loc) (ls : Array Slot), fX0_clear_2n  n (x1, s) = some (r, τ) → va_P D vwCl (zW (zcC a cI cJ cC) 41 a s) H → va_S (zF 41 a st.heap.size) st.heap H locs → lv_has ls 2 [(0, .ref (a 19)), (1, .int x1)] → W p l e rmX0_clear st m args below meth c H locs 0 0 (MQ below (va_Qv (fun (τ' : ZS) => τ' = τ) (zPost (zcC a cI cJ cC) 41 a D [(cI, .int), (cJ, .long)]) (zF 41 a st.heap.size)) args st 0 0 (zF 41 a st.heap.size)) (F0 m 2 ls []) := by
    intro  n
    induction n with
    | zero => intro x1 s H locs ls h; exact zloop_0 h
    | succ n ih =>
      intro x1 s H locs ls h hP hS hl
      have h : fX0_clear_2b  (fun x1 s => fX0_clear_2n  n (x1, s)) x1 s = some (r, τ) := h
      refine lv_iload_n hx hb dX0_clear_2 rfl (lv_at hl 1 rfl) ?_
      refine lv_iconst (v := 5) hx hb dX0_clear_3 (by decide) ?_
      refine lv_icmp_ge (tgt := 20) hx hb dX0_clear_4 (by decide) (fun c1 => ?_) (fun c1 => ?_)
      · have h := zif_t h c1
        refine lv_aload_n hx hb dX0_clear_20 rfl (lv_at hl 0 rfl) ?_
        refine lv_lconst (v := 1) hx hb dX0_clear_21 (by decide) ?_
        refine z_putL (ty := .long) (x := (1 : Int64)) (C := RX0) (T := TX0) (N := 5) X inX0 tyX0 tyX0_ok nmX0 hA hP hS 19 (by decide) (zcC_19 _ _ _ _ _ _) rfl 3 (by decide) rfl (by decide +kernel) rfl (by decide +kernel) rfl rfl (Nat.le_of_ble_eq_true rfl) rfl dX0_clear_22 (fun H locs hP hS => ?_)
        refine lv_aload_n hx hb dX0_clear_25 rfl (lv_at hl 0 rfl) ?_
        refine lv_iconst (v := 0) hx hb dX0_clear_26 (by decide) ?_
        refine z_put (ty := .int) (x := (0 : Int32)) (C := RX0) (T := TX0) (N := 5) X inX0 tyX0 tyX0_ok nmX0 hA hP hS 19 (by decide) (zcC_19 _ _ _ _ _ _) rfl 4 (by decide) rfl (by decide +kernel) rfl (by decide +kernel) rfl rfl (Nat.le_of_ble_eq_true rfl) rfl dX0_clear_27 (fun H locs hP hS => ?_)
        exact z_vret X hP hS hr hlocks h dX0_clear_30
      · have h := zif_f h c1
        refine lv_aload_n hx hb dX0_clear_7 rfl (lv_at hl 0 rfl) ?_
        refine z_get (C := RX0) (T := TX0) (N := 5) X inX0 hP 19 (by decide) (zcC_19 _ _ _ _ _ _) rfl 2 (by decide) rfl (by decide +kernel) rfl dX0_clear_8 ?_
        refine lv_iload_n hx hb dX0_clear_11 rfl (lv_at hl 1 rfl) ?_
        refine lv_lconst (v := 1) hx hb dX0_clear_12 (by decide) ?_
        obtain ⟨g2, h⟩ := zg_some h
        refine z_last X hA hP hS 21 1 (by decide) (zcC_21 _ _ _ _) rfl g2 dX0_clear_13 (fun H locs hP hS => ?_)
        refine lv_iinc (v := (x1 + (1 : Int32))) (lv' := [(1, .int (x1 + (1 : Int32))), (0, .ref (a 19))]) hx hb dX0_clear_14 hl (k := 1) rfl rfl (by decide) rfl (fun ls hl => ?_)
        refine lv_goto (tgt := 2) hx hb dX0_clear_17 (by decide) ?_
        exact ih ((x1 + (1 : Int32))) ((zL s 21 (x1).toNatClampNeg (1 : Int64))) _ _ _ h hP hS (lv_sub hl [1, 0] rfl)
  have hl : lv_has ls 2 [(0, .ref (a 19))] := hl
  refine lv_iconst (v := 0) hx hb dX0_clear_0 (by decide) ?_
  refine lv_istore_n (lv' := [(1, .int (0 : Int32)), (0, .ref (a 19))]) hx hb dX0_clear_1 rfl hl (by decide) rfl (fun ls hl => ?_)
  exact w2  zN ((0 : Int32)) (s) _ _ _ h hP hS (lv_sub hl [1, 0] rfl)
abbrev rmX0_pileStackWithout : Room := { frames := 3, cells := 0, slots := 0, locals := 64 }
set_option maxHeartbeats 4000000 in
set_option maxRecDepth 100000 in
theorem kX0_pileStackWithout {l : Launch} {D : va_G} {a : Nat → Nat} {cI cJ cC : ClassId} {adK adV : Nat → Nat} {x1 : Int32} {x2 : Int32} {s τ : ZS} {r : Unit} (h : fX0_pileStackWithout x1 x2 s = some (r, τ)) : zMv (zcC a cI cJ cC) 41 a D [(cI, .int), (cJ, .long)] (zEC adK adV) l yX0_pileStackWithout wsX0_pileStackWithout rmX0_pileStackWithout [.ref (a 19), .int x1, .int x2] s r τ := by
  refine z_start (cc := cX0_pileStackWithout) (maxL := 4) (ret := none) RX0 rfl (by decide) rfl (Nat.le_of_ble_eq_true rfl) ?_
  intro p e st m args below meth c ls H locs X hr hlocks hA hE hP hS hl
  obtain ⟨hx, hb, hml, hown, hts, -⟩ := id X
  have hG := zEC_good adK adV
  have inX0 : ∀ w ∈ u_ws RX0 TX0 5, w ∈ wsX0_pileStackWithout := by decide +kernel
  have inX3 : ∀ w ∈ u_ws RX3 TX3 10, w ∈ wsX0_pileStackWithout := by decide +kernel
  have w49 : ∀ (k18 : Int32 → Int32 → Int32 → ZS → Option (Unit × ZS)) (hk18 : ∀ (x1 : Int32) (x2 : Int32) (x3 : Int32) (s : ZS) (H : Heap) (locs : List Loc) (ls : Array Slot), k18 x1 x2 x3 s = some (r, τ) → va_P D vwCl (zW (zcC a cI cJ cC) 41 a s) H → va_S (zF 41 a st.heap.size) st.heap H locs → lv_has ls 4 [(0, .ref (a 19)), (1, .int x1), (2, .int x2), (3, .int x3)] → W p l e rmX0_pileStackWithout st m args below meth c H locs 0 0 (MQ below (va_Qv (fun (τ' : ZS) => τ' = τ) (zPost (zcC a cI cJ cC) 41 a D [(cI, .int), (cJ, .long)]) (zF 41 a st.heap.size)) args st 0 0 (zF 41 a st.heap.size)) (F0 m 18 ls [])) (x1 : Int32) (x2 : Int32) (x3 : Int32) (s : ZS) (H : Heap) (locs : List Loc) (ls : Array Slot), fX0_pileStackWithout_49 k18 x1 x2 x3 s = some (r, τ) → va_P D vwCl (zW (zcC a cI cJ cC) 41 a s) H → va_S (zF 41 a st.heap.size) st.heap H locs → lv_has ls 4 [(0, .ref (a 19)), (1, .int x1), (2, .int x2), (3, .int x3)] → W p l e rmX0_pileStackWithout st m args below meth c H locs 0 0 (MQ below (va_Qv (fun (τ' : ZS) => τ' = τ) (zPost (zcC a cI cJ cC) 41 a D [(cI, .int), (cJ, .long)]) (zF 41 a st.heap.size)) args st 0 0 (zF 41 a st.heap.size)) (F0 m 49 ls []) := by
    intro k18 hk18 x1 x2 x3 s H locs ls h hP hS hl
    refine lv_iinc (v := (x3 + (1 : Int32))) (lv' := [(3, .int (x3 + (1 : Int32))), (0, .ref (a 19)), (1, .int x1), (2, .int x2)]) hx hb dX0_pileStackWithout_49 hl (k := 3) rfl rfl (by decide) rfl (fun ls hl => ?_)
    refine lv_goto (tgt := 18) hx hb dX0_pileStackWithout_52 (by decide) ?_
    exact hk18 (x1) (x2) ((x3 + (1 : Int32))) (s) _ _ _ h hP hS (lv_sub hl [1, 2, 3, 0] rfl)
  have w18 : ∀  (n : Nat) (x1 : Int32) (x2 : Int32) (x3 : Int32) (s : ZS) (H : Heap) (locs : List Loc) (ls : Array Slot), fX0_pileStackWithout_18n  n (x1, x2, x3, s) = some (r, τ) → va_P D vwCl (zW (zcC a cI cJ cC) 41 a s) H → va_S (zF 41 a st.heap.size) st.heap H locs → lv_has ls 4 [(0, .ref (a 19)), (1, .int x1), (2, .int x2), (3, .int x3)] → W p l e rmX0_pileStackWithout st m args below meth c H locs 0 0 (MQ below (va_Qv (fun (τ' : ZS) => τ' = τ) (zPost (zcC a cI cJ cC) 41 a D [(cI, .int), (cJ, .long)]) (zF 41 a st.heap.size)) args st 0 0 (zF 41 a st.heap.size)) (F0 m 18 ls []) := by
    intro  n
    induction n with
    | zero => intro x1 x2 x3 s H locs ls h; exact zloop_0 h
    | succ n ih =>
      intro x1 x2 x3 s H locs ls h hP hS hl
      have h : fX0_pileStackWithout_18b  (fun x1 x2 x3 s => fX0_pileStackWithout_18n  n (x1, x2, x3, s)) x1 x2 x3 s = some (r, τ) := h
      refine lv_iload_n hx hb dX0_pileStackWithout_18 rfl (lv_at hl 3 rfl) ?_
      refine lv_aload_n hx hb dX0_pileStackWithout_19 rfl (lv_at hl 0 rfl) ?_
      refine z_get (C := RX0) (T := TX0) (N := 5) X inX0 hP 19 (by decide) (zcC_19 _ _ _ _ _ _) rfl 0 (by decide) rfl (by decide +kernel) rfl dX0_pileStackWithout_20 ?_
      refine z_get (C := RX3) (T := TX3) (N := 10) X inX3 hP 1 (by decide) (zcC_1 _ _ _ _ _ _) rfl 5 (by decide) rfl (by decide +kernel) rfl dX0_pileStackWithout_23 ?_
      refine lv_iload_n hx hb dX0_pileStackWithout_26 rfl (lv_at hl 1 rfl) ?_
      obtain ⟨g1, h⟩ := zg_some h
      refine z_iald X hP 5 0 (by decide) (zcC_5 _ _ _ _ _ _) rfl g1 dX0_pileStackWithout_27 ?_
      refine lv_icmp_ge (tgt := 55) hx hb dX0_pileStackWithout_28 (by decide) (fun c2 => ?_) (fun c2 => ?_)
      · have h := zif_t h c2
        exact z_vret X hP hS hr hlocks h dX0_pileStackWithout_55
      · have h := zif_f h c2
        refine lv_iload_n hx hb dX0_pileStackWithout_31 rfl (lv_at hl 3 rfl) ?_
        refine lv_iload_n hx hb dX0_pileStackWithout_32 rfl (lv_at hl 2 rfl) ?_
        refine lv_icmp_eq (tgt := 49) hx hb dX0_pileStackWithout_33 (by decide) (fun c3 => ?_) (fun c3 => ?_)
        · have h := zif_t h c3
          exact w49 (fun x1 x2 x3 s => fX0_pileStackWithout_18n  n (x1, x2, x3, s)) (fun x1 x2 x3 s H locs ls h hP hS hl => ih x1 x2 x3 s H locs ls h hP hS hl)  (x1) (x2) (x3) (s) _ _ _ h hP hS (lv_sub hl [0, 1, 2, 3] rfl)
        · have h := zif_f h c3
          refine lv_aload_n hx hb dX0_pileStackWithout_36 rfl (lv_at hl 0 rfl) ?_
          refine lv_aload_n hx hb dX0_pileStackWithout_37 rfl (lv_at hl 0 rfl) ?_
          refine z_get (C := RX0) (T := TX0) (N := 5) X inX0 hP 19 (by decide) (zcC_19 _ _ _ _ _ _) rfl 0 (by decide) rfl (by decide +kernel) rfl dX0_pileStackWithout_38 ?_
          refine lv_iload_n hx hb dX0_pileStackWithout_41 rfl (lv_at hl 1 rfl) ?_
          refine lv_iload_n hx hb dX0_pileStackWithout_42 rfl (lv_at hl 3 rfl) ?_
          obtain ⟨u4, s4, e4, h⟩ := zb_some h
          refine z_calli hS (z_runV (As := [.int x1, .int x3]) (rest := [.ref (a 19)]) X hG hA hE hP hS 1 (kX3_sheetAt (l := l) (D := D) (a := a) (cI := cI) (cJ := cJ) (cC := cC) (adK := adK) (adV := adV) e4 _) (cwV 2 hts gX0_pileStackWithout_X3_sheetAt rfl rfl rfl (by decide +kernel) ⟨Nat.le_of_ble_eq_true rfl, Nat.le_of_ble_eq_true rfl⟩) (by decide) (zcC_1 _ _ _ _ _ _) rfl rfl rfl hl.1 rfl (Nat.le_of_ble_eq_true rfl) dX0_pileStackWithout_43) (fun H locs hP hS => ?_)
          obtain ⟨u5, s5, e5, h⟩ := zb_some h
          refine z_callv hS (z_runV (As := [.int u4]) (rest := []) X hG hA hE hP hS 19 (kX0_add (l := l) (D := D) (a := a) (cI := cI) (cJ := cJ) (cC := cC) (adK := adK) (adV := adV) e5 _) (cwV 1 hts gX0_pileStackWithout_X0_add rfl rfl rfl (by decide +kernel) ⟨Nat.le_of_ble_eq_true rfl, Nat.le_of_ble_eq_true rfl⟩) (by decide) (zcC_19 _ _ _ _ _ _) rfl rfl rfl hl.1 rfl (Nat.le_of_ble_eq_true rfl) dX0_pileStackWithout_46) (fun H locs hP hS => ?_)
          exact w49 (fun x1 x2 x3 s => fX0_pileStackWithout_18n  n (x1, x2, x3, s)) (fun x1 x2 x3 s H locs ls h hP hS hl => ih x1 x2 x3 s H locs ls h hP hS hl)  (x1) (x2) (x3) (s5) _ _ _ h hP hS (lv_sub hl [0, 1, 2, 3] rfl)
  have hl : lv_has ls 4 [(0, .ref (a 19)), (1, .int x1), (2, .int x2)] := hl
  refine lv_aload_n hx hb dX0_pileStackWithout_0 rfl (lv_at hl 0 rfl) ?_
  obtain ⟨u1, s1, e1, h⟩ := zb_some h
  refine z_callv hS (z_runV (As := []) (rest := []) X hG hA hE hP hS 19 (kX0_clear (l := l) (D := D) (a := a) (cI := cI) (cJ := cJ) (cC := cC) (adK := adK) (adV := adV) e1 _) (cwV 0 hts gX0_pileStackWithout_X0_clear rfl rfl rfl (by decide +kernel) ⟨Nat.le_of_ble_eq_true rfl, Nat.le_of_ble_eq_true rfl⟩) (by decide) (zcC_19 _ _ _ _ _ _) rfl rfl rfl hl.1 rfl (Nat.le_of_ble_eq_true rfl) dX0_pileStackWithout_1) (fun H locs hP hS => ?_)
  refine lv_aload_n hx hb dX0_pileStackWithout_4 rfl (lv_at hl 0 rfl) ?_
  refine z_get (C := RX0) (T := TX0) (N := 5) X inX0 hP 19 (by decide) (zcC_19 _ _ _ _ _ _) rfl 0 (by decide) rfl (by decide +kernel) rfl dX0_pileStackWithout_5 ?_
  refine lv_iload_n hx hb dX0_pileStackWithout_8 rfl (lv_at hl 1 rfl) ?_
  obtain ⟨u2, s2, e2, h⟩ := zb_some h
  refine z_calli hS (z_runV (As := [.int x1]) (rest := []) X hG hA hE hP hS 1 (kX3_hasStack (l := l) (D := D) (a := a) (cI := cI) (cJ := cJ) (cC := cC) (adK := adK) (adV := adV) e2 _) (cwV 1 hts gX0_pileStackWithout_X3_hasStack rfl rfl rfl (by decide +kernel) ⟨Nat.le_of_ble_eq_true rfl, Nat.le_of_ble_eq_true rfl⟩) (by decide) (zcC_1 _ _ _ _ _ _) rfl rfl rfl hl.1 rfl (Nat.le_of_ble_eq_true rfl) dX0_pileStackWithout_9) (fun H locs hP hS => ?_)
  refine lv_if_ne (tgt := 16) hx hb dX0_pileStackWithout_12 (by decide) (fun c3 => ?_) (fun c3 => ?_)
  · have h := zif_f h c3
    refine lv_iconst (v := 0) hx hb dX0_pileStackWithout_16 (by decide) ?_
    refine lv_istore_n (lv' := [(3, .int (0 : Int32)), (0, .ref (a 19)), (1, .int x1), (2, .int x2)]) hx hb dX0_pileStackWithout_17 rfl hl (by decide) rfl (fun ls hl => ?_)
    exact w18  zN (x1) (x2) ((0 : Int32)) (s2) _ _ _ h hP hS (lv_sub hl [1, 2, 3, 0] rfl)
  · have h := zif_t h c3
    exact z_vret X hP hS hr hlocks h dX0_pileStackWithout_15
