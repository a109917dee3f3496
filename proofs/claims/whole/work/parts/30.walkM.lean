abbrev rmX7_isIn : Room := { frames := 0, cells := 0, slots := 0, locals := 0 }
set_option maxHeartbeats 4000000 in
set_option maxRecDepth 100000 in
theorem kX7_isIn {l : Launch} {D : va_G} {a : Nat → Nat} {cI cJ cC : ClassId} {x0 : Int64} {x2 : Int64} {x4 : Int64} {s τ : ZS} {r : Int32} (h : fX7_isIn x0 x2 x4 s = some (r, τ)) : zMi (zcM a cI cJ cC) 17 a D [(cI, .int), (cJ, .long), (cC, .char)] zEM l yX7_isIn wsX7_isIn rmX7_isIn [.long x0, .long x2, .long x4] s r τ := by
  refine z_start (cc := cX7_isIn) (maxL := 6) (ret := (some .boolean)) RX7 rfl (by decide) rfl (Nat.le_of_ble_eq_true rfl) ?_
  intro p e st m args below meth c ls H locs X hr hlocks hA hE hP hS hl
  obtain ⟨hx, hb, hml, hown, hts, -⟩ := id X
  have hG := zEM_good
  have hl : lv_has ls 6 [(0, .long x0), (2, .long x2), (4, .long x4)] := hl
  refine lv_lload_n hx hb dX7_isIn_0 rfl (lv_at hl 0 rfl) ?_
  refine lv_lload_n hx hb dX7_isIn_1 rfl (lv_at hl 1 rfl) ?_
  refine W.lcmp hx hb dX7_isIn_2 ?_
  refine lv_if_lt (tgt := 17) hx hb dX7_isIn_3 (by decide) (fun c1 => ?_) (fun c1 => ?_)
  · have h := zif_t h c1
    refine lv_iconst (v := 0) hx hb dX7_isIn_17 (by decide) ?_
    exact z_zret X hP hS hr hlocks (by decide) h dX7_isIn_18
  · have h := zif_f h c1
    refine lv_lload_n hx hb dX7_isIn_6 rfl (lv_at hl 0 rfl) ?_
    refine lv_lload hx hb dX7_isIn_7 (lv_at hl 2 rfl) ?_
    refine W.lcmp hx hb dX7_isIn_9 ?_
    refine lv_if_gt (tgt := 17) hx hb dX7_isIn_10 (by decide) (fun c2 => ?_) (fun c2 => ?_)
    · have h := zif_t h c2
      refine lv_iconst (v := 0) hx hb dX7_isIn_17 (by decide) ?_
      exact z_zret X hP hS hr hlocks (by decide) h dX7_isIn_18
    · have h := zif_f h c2
      refine lv_iconst (v := 1) hx hb dX7_isIn_13 (by decide) ?_
      refine lv_goto (tgt := 18) hx hb dX7_isIn_14 (by decide) ?_
      exact z_zret X hP hS hr hlocks (by decide) h dX7_isIn_18
abbrev rmX7_isSheet : Room := { frames := 1, cells := 0, slots := 0, locals := 25 }
set_option maxHeartbeats 4000000 in
set_option maxRecDepth 100000 in
theorem kX7_isSheet {l : Launch} {D : va_G} {a : Nat → Nat} {cI cJ cC : ClassId} {x1 : Int32} {s τ : ZS} {r : Int32} (h : fX7_isSheet x1 s = some (r, τ)) : zMi (zcM a cI cJ cC) 17 a D [(cI, .int), (cJ, .long), (cC, .char)] zEM l yX7_isSheet wsX7_isSheet rmX7_isSheet [.ref (a 0), .int x1] s r τ := by
  refine z_start (cc := cX7_isSheet) (maxL := 2) (ret := (some .boolean)) RX7 rfl (by decide) rfl (Nat.le_of_ble_eq_true rfl) ?_
  intro p e st m args below meth c ls H locs X hr hlocks hA hE hP hS hl
  obtain ⟨hx, hb, hml, hown, hts, -⟩ := id X
  have hG := zEM_good
  have inX7 : ∀ w ∈ u_ws RX7 TX7 26, w ∈ wsX7_isSheet := by decide +kernel
  have hl : lv_has ls 2 [(0, .ref (a 0)), (1, .int x1)] := hl
  refine lv_iload_n hx hb dX7_isSheet_0 rfl (lv_at hl 1 rfl) ?_
  refine lv_i2l hx hb dX7_isSheet_1 rfl ?_
  refine lv_lconst (v := 0) hx hb dX7_isSheet_2 (by decide) ?_
  refine lv_aload_n hx hb dX7_isSheet_3 rfl (lv_at hl 0 rfl) ?_
  refine z_get (C := RX7) (T := TX7) (N := 26) X inX7 hP 0 (by decide) (zcM_0 _ _ _ _ _ _) rfl 0 (by decide) rfl (by decide +kernel) rfl dX7_isSheet_4 ?_
  refine lv_iconst (v := 0) hx hb dX7_isSheet_7 (by decide) ?_
  obtain ⟨g1, h⟩ := zg_some h
  refine z_iald X hP 1 0 (by decide) (zcM_1 _ _ _ _ _ _) rfl g1 dX7_isSheet_8 ?_
  refine lv_iconst (v := 1) hx hb dX7_isSheet_9 (by decide) ?_
  refine lv_isub hx hb dX7_isSheet_10 ?_
  refine lv_i2l hx hb dX7_isSheet_11 rfl ?_
  obtain ⟨u2, s2, e2, h⟩ := zb_some h
  refine z_calli hS (z_runS (As := [.long (x1).toInt64, .long (0 : Int64), .long ((((s).1 1 ((0 : Int32)).toNatClampNeg) - (1 : Int32))).toInt64]) (rest := []) X hG hA hE hP hS (kX7_isIn (l := l) (D := D) (a := a) (cI := cI) (cJ := cJ) (cC := cC) e2 _) (va_cwS 3 hts gX7_isSheet_X7_isIn rfl rfl rfl (by decide +kernel) ⟨Nat.le_of_ble_eq_true rfl, Nat.le_of_ble_eq_true rfl⟩) rfl hl.1 rfl (Nat.le_of_ble_eq_true rfl) dX7_isSheet_12) (fun H locs hP hS => ?_)
  obtain ⟨g3, h⟩ := zg_some h
  exact z_zret X hP hS hr hlocks (zbo_n g3) h dX7_isSheet_15
abbrev rmX7_isStack : Room := { frames := 1, cells := 0, slots := 0, locals := 25 }
set_option maxHeartbeats 4000000 in
set_option maxRecDepth 100000 in
theorem kX7_isStack {l : Launch} {D : va_G} {a : Nat → Nat} {cI cJ cC : ClassId} {x1 : Int32} {s τ : ZS} {r : Int32} (h : fX7_isStack x1 s = some (r, τ)) : zMi (zcM a cI cJ cC) 17 a D [(cI, .int), (cJ, .long), (cC, .char)] zEM l yX7_isStack wsX7_isStack rmX7_isStack [.ref (a 0), .int x1] s r τ := by
  refine z_start (cc := cX7_isStack) (maxL := 2) (ret := (some .boolean)) RX7 rfl (by decide) rfl (Nat.le_of_ble_eq_true rfl) ?_
  intro p e st m args below meth c ls H locs X hr hlocks hA hE hP hS hl
  obtain ⟨hx, hb, hml, hown, hts, -⟩ := id X
  have hG := zEM_good
  have inX7 : ∀ w ∈ u_ws RX7 TX7 26, w ∈ wsX7_isStack := by decide +kernel
  have hl : lv_has ls 2 [(0, .ref (a 0)), (1, .int x1)] := hl
  refine lv_iload_n hx hb dX7_isStack_0 rfl (lv_at hl 1 rfl) ?_
  refine lv_i2l hx hb dX7_isStack_1 rfl ?_
  refine lv_lconst (v := 0) hx hb dX7_isStack_2 (by decide) ?_
  refine lv_aload_n hx hb dX7_isStack_3 rfl (lv_at hl 0 rfl) ?_
  refine z_get (C := RX7) (T := TX7) (N := 26) X inX7 hP 0 (by decide) (zcM_0 _ _ _ _ _ _) rfl 0 (by decide) rfl (by decide +kernel) rfl dX7_isStack_4 ?_
  refine lv_iconst (v := 1) hx hb dX7_isStack_7 (by decide) ?_
  obtain ⟨g1, h⟩ := zg_some h
  refine z_iald X hP 1 0 (by decide) (zcM_1 _ _ _ _ _ _) rfl g1 dX7_isStack_8 ?_
  refine lv_iconst (v := 1) hx hb dX7_isStack_9 (by decide) ?_
  refine lv_isub hx hb dX7_isStack_10 ?_
  refine lv_i2l hx hb dX7_isStack_11 rfl ?_
  obtain ⟨u2, s2, e2, h⟩ := zb_some h
  refine z_calli hS (z_runS (As := [.long (x1).toInt64, .long (0 : Int64), .long ((((s).1 1 ((1 : Int32)).toNatClampNeg) - (1 : Int32))).toInt64]) (rest := []) X hG hA hE hP hS (kX7_isIn (l := l) (D := D) (a := a) (cI := cI) (cJ := cJ) (cC := cC) e2 _) (va_cwS 3 hts gX7_isStack_X7_isIn rfl rfl rfl (by decide +kernel) ⟨Nat.le_of_ble_eq_true rfl, Nat.le_of_ble_eq_true rfl⟩) rfl hl.1 rfl (Nat.le_of_ble_eq_true rfl) dX7_isStack_12) (fun H locs hP hS => ?_)
  obtain ⟨g3, h⟩ := zg_some h
  exact z_zret X hP hS hr hlocks (zbo_n g3) h dX7_isStack_15
abbrev rmX7_isLamp : Room := { frames := 1, cells := 0, slots := 0, locals := 25 }
set_option maxHeartbeats 4000000 in
set_option maxRecDepth 100000 in
theorem kX7_isLamp {l : Launch} {D : va_G} {a : Nat → Nat} {cI cJ cC : ClassId} {x0 : Int32} {s τ : ZS} {r : Int32} (h : fX7_isLamp x0 s = some (r, τ)) : zMi (zcM a cI cJ cC) 17 a D [(cI, .int), (cJ, .long), (cC, .char)] zEM l yX7_isLamp wsX7_isLamp rmX7_isLamp [.int x0] s r τ := by
  refine z_start (cc := cX7_isLamp) (maxL := 1) (ret := (some .boolean)) RX7 rfl (by decide) rfl (Nat.le_of_ble_eq_true rfl) ?_
  intro p e st m args below meth c ls H locs X hr hlocks hA hE hP hS hl
  obtain ⟨hx, hb, hml, hown, hts, -⟩ := id X
  have hG := zEM_good
  have hl : lv_has ls 1 [(0, .int x0)] := hl
  refine lv_iload_n hx hb dX7_isLamp_0 rfl (lv_at hl 0 rfl) ?_
  refine lv_i2l hx hb dX7_isLamp_1 rfl ?_
  refine lv_lconst (v := 0) hx hb dX7_isLamp_2 (by decide) ?_
  refine lv_ldc2 (own := RX7) (index := 66) (v := 2) hx hb hown (hts _ (by decide +kernel)) dX7_isLamp_3 ?_
  obtain ⟨u1, s1, e1, h⟩ := zb_some h
  refine z_calli hS (z_runS (As := [.long (x0).toInt64, .long (0 : Int64), .long (2 : Int64)]) (rest := []) X hG hA hE hP hS (kX7_isIn (l := l) (D := D) (a := a) (cI := cI) (cJ := cJ) (cC := cC) e1 _) (va_cwS 3 hts gX7_isLamp_X7_isIn rfl rfl rfl (by decide +kernel) ⟨Nat.le_of_ble_eq_true rfl, Nat.le_of_ble_eq_true rfl⟩) rfl hl.1 rfl (Nat.le_of_ble_eq_true rfl) dX7_isLamp_6) (fun H locs hP hS => ?_)
  obtain ⟨g2, h⟩ := zg_some h
  exact z_zret X hP hS hr hlocks (zbo_n g2) h dX7_isLamp_9
abbrev rmX7_isBand : Room := { frames := 1, cells := 0, slots := 0, locals := 25 }
set_option maxHeartbeats 4000000 in
set_option maxRecDepth 100000 in
theorem kX7_isBand {l : Launch} {D : va_G} {a : Nat → Nat} {cI cJ cC : ClassId} {x0 : Int32} {s τ : ZS} {r : Int32} (h : fX7_isBand x0 s = some (r, τ)) : zMi (zcM a cI cJ cC) 17 a D [(cI, .int), (cJ, .long), (cC, .char)] zEM l yX7_isBand wsX7_isBand rmX7_isBand [.int x0] s r τ := by
  refine z_start (cc := cX7_isBand) (maxL := 1) (ret := (some .boolean)) RX7 rfl (by decide) rfl (Nat.le_of_ble_eq_true rfl) ?_
  intro p e st m args below meth c ls H locs X hr hlocks hA hE hP hS hl
  obtain ⟨hx, hb, hml, hown, hts, -⟩ := id X
  have hG := zEM_good
  have hl : lv_has ls 1 [(0, .int x0)] := hl
  refine lv_iload_n hx hb dX7_isBand_0 rfl (lv_at hl 0 rfl) ?_
  refine lv_i2l hx hb dX7_isBand_1 rfl ?_
  refine lv_lconst (v := 0) hx hb dX7_isBand_2 (by decide) ?_
  refine lv_ldc2 (own := RX7) (index := 68) (v := 4) hx hb hown (hts _ (by decide +kernel)) dX7_isBand_3 ?_
  obtain ⟨u1, s1, e1, h⟩ := zb_some h
  refine z_calli hS (z_runS (As := [.long (x0).toInt64, .long (0 : Int64), .long (4 : Int64)]) (rest := []) X hG hA hE hP hS (kX7_isIn (l := l) (D := D) (a := a) (cI := cI) (cJ := cJ) (cC := cC) e1 _) (va_cwS 3 hts gX7_isBand_X7_isIn rfl rfl rfl (by decide +kernel) ⟨Nat.le_of_ble_eq_true rfl, Nat.le_of_ble_eq_true rfl⟩) rfl hl.1 rfl (Nat.le_of_ble_eq_true rfl) dX7_isBand_6) (fun H locs hP hS => ?_)
  obtain ⟨g2, h⟩ := zg_some h
  exact z_zret X hP hS hr hlocks (zbo_n g2) h dX7_isBand_9
abbrev rmX7_kindOf : Room := { frames := 0, cells := 0, slots := 0, locals := 0 }
set_option maxHeartbeats 4000000 in
set_option maxRecDepth 100000 in
theorem kX7_kindOf {l : Launch} {D : va_G} {a : Nat → Nat} {cI cJ cC : ClassId} {x1 : Int32} {s τ : ZS} {r : Int32} (h : fX7_kindOf x1 s = some (r, τ)) : zMi (zcM a cI cJ cC) 17 a D [(cI, .int), (cJ, .long), (cC, .char)] zEM l yX7_kindOf wsX7_kindOf rmX7_kindOf [.ref (a 0), .int x1] s r τ := by
  refine z_start (cc := cX7_kindOf) (maxL := 2) (ret := (some .int)) RX7 rfl (by decide) rfl (Nat.le_of_ble_eq_true rfl) ?_
  intro p e st m args below meth c ls H locs X hr hlocks hA hE hP hS hl
  obtain ⟨hx, hb, hml, hown, hts, -⟩ := id X
  have hG := zEM_good
  have inX7 : ∀ w ∈ u_ws RX7 TX7 26, w ∈ wsX7_kindOf := by decide +kernel
  have hl : lv_has ls 2 [(0, .ref (a 0)), (1, .int x1)] := hl
  refine lv_aload_n hx hb dX7_kindOf_0 rfl (lv_at hl 0 rfl) ?_
  refine z_get (C := RX7) (T := TX7) (N := 26) X inX7 hP 0 (by decide) (zcM_0 _ _ _ _ _ _) rfl 0 (by decide) rfl (by decide +kernel) rfl dX7_kindOf_1 ?_
  refine lv_iconst (v := 2) hx hb dX7_kindOf_4 (by decide) ?_
  refine lv_bipush (v := 7) hx hb dX7_kindOf_5 (by decide) ?_
  refine lv_iload_n hx hb dX7_kindOf_7 rfl (lv_at hl 1 rfl) ?_
  refine lv_imul hx hb dX7_kindOf_8 ?_
  refine lv_iadd hx hb dX7_kindOf_9 ?_
  obtain ⟨g1, h⟩ := zg_some h
  refine z_iald X hP 1 0 (by decide) (zcM_1 _ _ _ _ _ _) rfl g1 dX7_kindOf_10 ?_
  exact z_iret X hP hS hr hlocks h dX7_kindOf_11
abbrev rmX7_figureOf : Room := { frames := 0, cells := 0, slots := 0, locals := 0 }
set_option maxHeartbeats 4000000 in
set_option maxRecDepth 100000 in
theorem kX7_figureOf {l : Launch} {D : va_G} {a : Nat → Nat} {cI cJ cC : ClassId} {x1 : Int32} {s τ : ZS} {r : Int32} (h : fX7_figureOf x1 s = some (r, τ)) : zMi (zcM a cI cJ cC) 17 a D [(cI, .int), (cJ, .long), (cC, .char)] zEM l yX7_figureOf wsX7_figureOf rmX7_figureOf [.ref (a 0), .int x1] s r τ := by
  refine z_start (cc := cX7_figureOf) (maxL := 2) (ret := (some .int)) RX7 rfl (by decide) rfl (Nat.le_of_ble_eq_true rfl) ?_
  intro p e st m args below meth c ls H locs X hr hlocks hA hE hP hS hl
  obtain ⟨hx, hb, hml, hown, hts, -⟩ := id X
  have hG := zEM_good
  have inX7 : ∀ w ∈ u_ws RX7 TX7 26, w ∈ wsX7_figureOf := by decide +kernel
  have hl : lv_has ls 2 [(0, .ref (a 0)), (1, .int x1)] := hl
  refine lv_aload_n hx hb dX7_figureOf_0 rfl (lv_at hl 0 rfl) ?_
  refine z_get (C := RX7) (T := TX7) (N := 26) X inX7 hP 0 (by decide) (zcM_0 _ _ _ _ _ _) rfl 0 (by decide) rfl (by decide +kernel) rfl dX7_figureOf_1 ?_
  refine lv_iconst (v := 2) hx hb dX7_figureOf_4 (by decide) ?_
  refine lv_bipush (v := 7) hx hb dX7_figureOf_5 (by decide) ?_
  refine lv_iload_n hx hb dX7_figureOf_7 rfl (lv_at hl 1 rfl) ?_
  refine lv_imul hx hb dX7_figureOf_8 ?_
  refine lv_iadd hx hb dX7_figureOf_9 ?_
  refine lv_iconst (v := 1) hx hb dX7_figureOf_10 (by decide) ?_
  refine lv_iadd hx hb dX7_figureOf_11 ?_
  obtain ⟨g1, h⟩ := zg_some h
  refine z_iald X hP 1 0 (by decide) (zcM_1 _ _ _ _ _ _) rfl g1 dX7_figureOf_12 ?_
  exact z_iret X hP hS hr hlocks h dX7_figureOf_13
abbrev rmX7_numberOf : Room := { frames := 0, cells := 0, slots := 0, locals := 0 }
set_option maxHeartbeats 4000000 in
set_option maxRecDepth 100000 in
theorem kX7_numberOf {l : Launch} {D : va_G} {a : Nat → Nat} {cI cJ cC : ClassId} {x1 : Int32} {x2 : Int32} {s τ : ZS} {r : Int32} (h : fX7_numberOf x1 x2 s = some (r, τ)) : zMi (zcM a cI cJ cC) 17 a D [(cI, .int), (cJ, .long), (cC, .char)] zEM l yX7_numberOf wsX7_numberOf rmX7_numberOf [.ref (a 0), .int x1, .int x2] s r τ := by
  refine z_start (cc := cX7_numberOf) (maxL := 3) (ret := (some .int)) RX7 rfl (by decide) rfl (Nat.le_of_ble_eq_true rfl) ?_
  intro p e st m args below meth c ls H locs X hr hlocks hA hE hP hS hl
  obtain ⟨hx, hb, hml, hown, hts, -⟩ := id X
  have hG := zEM_good
  have inX7 : ∀ w ∈ u_ws RX7 TX7 26, w ∈ wsX7_numberOf := by decide +kernel
  have hl : lv_has ls 3 [(0, .ref (a 0)), (1, .int x1), (2, .int x2)] := hl
  refine lv_aload_n hx hb dX7_numberOf_0 rfl (lv_at hl 0 rfl) ?_
  refine z_get (C := RX7) (T := TX7) (N := 26) X inX7 hP 0 (by decide) (zcM_0 _ _ _ _ _ _) rfl 0 (by decide) rfl (by decide +kernel) rfl dX7_numberOf_1 ?_
  refine lv_iconst (v := 2) hx hb dX7_numberOf_4 (by decide) ?_
  refine lv_bipush (v := 7) hx hb dX7_numberOf_5 (by decide) ?_
  refine lv_iload_n hx hb dX7_numberOf_7 rfl (lv_at hl 1 rfl) ?_
  refine lv_imul hx hb dX7_numberOf_8 ?_
  refine lv_iadd hx hb dX7_numberOf_9 ?_
  refine lv_iconst (v := 2) hx hb dX7_numberOf_10 (by decide) ?_
  refine lv_iadd hx hb dX7_numberOf_11 ?_
  refine lv_iload_n hx hb dX7_numberOf_12 rfl (lv_at hl 2 rfl) ?_
  refine lv_iadd hx hb dX7_numberOf_13 ?_
  obtain ⟨g1, h⟩ := zg_some h
  refine z_iald X hP 1 0 (by decide) (zcM_1 _ _ _ _ _ _) rfl g1 dX7_numberOf_14 ?_
  exact z_iret X hP hS hr hlocks h dX7_numberOf_15
abbrev rmX7_size : Room := { frames := 0, cells := 0, slots := 0, locals := 0 }
set_option maxHeartbeats 4000000 in
set_option maxRecDepth 100000 in
theorem kX7_size {l : Launch} {D : va_G} {a : Nat → Nat} {cI cJ cC : ClassId} {x1 : Int32} {s τ : ZS} {r : Int32} (h : fX7_size x1 s = some (r, τ)) : zMi (zcM a cI cJ cC) 17 a D [(cI, .int), (cJ, .long), (cC, .char)] zEM l yX7_size wsX7_size rmX7_size [.ref (a 0), .int x1] s r τ := by
  refine z_start (cc := cX7_size) (maxL := 2) (ret := (some .int)) RX7 rfl (by decide) rfl (Nat.le_of_ble_eq_true rfl) ?_
  intro p e st m args below meth c ls H locs X hr hlocks hA hE hP hS hl
  obtain ⟨hx, hb, hml, hown, hts, -⟩ := id X
  have hG := zEM_good
  have inX7 : ∀ w ∈ u_ws RX7 TX7 26, w ∈ wsX7_size := by decide +kernel
  have hl : lv_has ls 2 [(0, .ref (a 0)), (1, .int x1)] := hl
  refine lv_aload_n hx hb dX7_size_0 rfl (lv_at hl 0 rfl) ?_
  refine z_get (C := RX7) (T := TX7) (N := 26) X inX7 hP 0 (by decide) (zcM_0 _ _ _ _ _ _) rfl 0 (by decide) rfl (by decide +kernel) rfl dX7_size_1 ?_
  refine lv_bipush (v := 58) hx hb dX7_size_4 (by decide) ?_
  refine lv_bipush (v := 7) hx hb dX7_size_6 (by decide) ?_
  refine lv_iload_n hx hb dX7_size_8 rfl (lv_at hl 1 rfl) ?_
  refine lv_imul hx hb dX7_size_9 ?_
  refine lv_iadd hx hb dX7_size_10 ?_
  obtain ⟨g1, h⟩ := zg_some h
  refine z_iald X hP 1 0 (by decide) (zcM_1 _ _ _ _ _ _) rfl g1 dX7_size_11 ?_
  exact z_iret X hP hS hr hlocks h dX7_size_12
abbrev rmX7_laid : Room := { frames := 0, cells := 0, slots := 0, locals := 0 }
set_option maxHeartbeats 4000000 in
set_option maxRecDepth 100000 in
theorem kX7_laid {l : Launch} {D : va_G} {a : Nat → Nat} {cI cJ cC : ClassId} {x1 : Int32} {x2 : Int32} {s τ : ZS} {r : Int32} (h : fX7_laid x1 x2 s = some (r, τ)) : zMi (zcM a cI cJ cC) 17 a D [(cI, .int), (cJ, .long), (cC, .char)] zEM l yX7_laid wsX7_laid rmX7_laid [.ref (a 0), .int x1, .int x2] s r τ := by
  refine z_start (cc := cX7_laid) (maxL := 3) (ret := (some .int)) RX7 rfl (by decide) rfl (Nat.le_of_ble_eq_true rfl) ?_
  intro p e st m args below meth c ls H locs X hr hlocks hA hE hP hS hl
  obtain ⟨hx, hb, hml, hown, hts, -⟩ := id X
  have hG := zEM_good
  have inX7 : ∀ w ∈ u_ws RX7 TX7 26, w ∈ wsX7_laid := by decide +kernel
  have hl : lv_has ls 3 [(0, .ref (a 0)), (1, .int x1), (2, .int x2)] := hl
  refine lv_aload_n hx hb dX7_laid_0 rfl (lv_at hl 0 rfl) ?_
  refine z_get (C := RX7) (T := TX7) (N := 26) X inX7 hP 0 (by decide) (zcM_0 _ _ _ _ _ _) rfl 0 (by decide) rfl (by decide +kernel) rfl dX7_laid_1 ?_
  refine lv_bipush (v := 58) hx hb dX7_laid_4 (by decide) ?_
  refine lv_bipush (v := 7) hx hb dX7_laid_6 (by decide) ?_
  refine lv_iload_n hx hb dX7_laid_8 rfl (lv_at hl 1 rfl) ?_
  refine lv_imul hx hb dX7_laid_9 ?_
  refine lv_iadd hx hb dX7_laid_10 ?_
  refine lv_iconst (v := 1) hx hb dX7_laid_11 (by decide) ?_
  refine lv_iadd hx hb dX7_laid_12 ?_
  refine lv_iload_n hx hb dX7_laid_13 rfl (lv_at hl 2 rfl) ?_
  refine lv_iadd hx hb dX7_laid_14 ?_
  obtain ⟨g1, h⟩ := zg_some h
  refine z_iald X hP 1 0 (by decide) (zcM_1 _ _ _ _ _ _) rfl g1 dX7_laid_15 ?_
  exact z_iret X hP hS hr hlocks h dX7_laid_16
abbrev rmX7_greatest : Room := { frames := 1, cells := 0, slots := 0, locals := 22 }
set_option maxHeartbeats 4000000 in
set_option maxRecDepth 100000 in
theorem kX7_greatest {l : Launch} {D : va_G} {a : Nat → Nat} {cI cJ cC : ClassId} {x1 : Int32} {s τ : ZS} {r : Int32} (h : fX7_greatest x1 s = some (r, τ)) : zMi (zcM a cI cJ cC) 17 a D [(cI, .int), (cJ, .long), (cC, .char)] zEM l yX7_greatest wsX7_greatest rmX7_greatest [.ref (a 0), .int x1] s r τ := by
  refine z_start (cc := cX7_greatest) (maxL := 4) (ret := (some .int)) RX7 rfl (by decide) rfl (Nat.le_of_ble_eq_true rfl) ?_
  intro p e st m args below meth c ls H locs X hr hlocks hA hE hP hS hl
  obtain ⟨hx, hb, hml, hown, hts, -⟩ := id X
  have hG := zEM_good
  have w29 : ∀ (k4 : Int32 → Int32 → Int32 → ZS → Option (Int32 × ZS)) (hk4 : ∀ (x1 : Int32) (x2 : Int32) (x3 : Int32) (s : ZS) (H : Heap) (locs : List Loc) (ls : Array Slot), k4 x1 x2 x3 s = some (r, τ) → va_P D vwCl (zW (zcM a cI cJ cC) 17 a s) H → va_S (zF 17 a st.heap.size) st.heap H locs → lv_has ls 4 [(0, .ref (a 0)), (1, .int x1), (2, .int x2), (3, .int x3)] → W p l e rmX7_greatest st m args below meth c H locs 0 0 (MQ below (va_Qi (fun (r' : Int32) (τ' : ZS) => r' = r ∧ τ' = τ) (zPost (zcM a cI cJ cC) 17 a D [(cI, .int), (cJ, .long), (cC, .char)]) (zF 17 a st.heap.size)) args st 0 0 (zF 17 a st.heap.size)) (F0 m 4 ls [])) (x1 : Int32) (x3 : Int32) (t0 : Int32) (s : ZS) (H : Heap) (locs : List Loc) (ls : Array Slot), fX7_greatest_29 k4 x1 x3 t0 s = some (r, τ) → va_P D vwCl (zW (zcM a cI cJ cC) 17 a s) H → va_S (zF 17 a st.heap.size) st.heap H locs → lv_has ls 4 [(0, .ref (a 0)), (1, .int x1), (3, .int x3)] → W p l e rmX7_greatest st m args below meth c H locs 0 0 (MQ below (va_Qi (fun (r' : Int32) (τ' : ZS) => r' = r ∧ τ' = τ) (zPost (zcM a cI cJ cC) 17 a D [(cI, .int), (cJ, .long), (cC, .char)]) (zF 17 a st.heap.size)) args st 0 0 (zF 17 a st.heap.size)) (F0 m 29 ls [.int t0]) := by
    intro k4 hk4 x1 x3 t0 s H locs ls h hP hS hl
    refine lv_istore_n (lv' := [(2, .int t0), (0, .ref (a 0)), (1, .int x1), (3, .int x3)]) hx hb dX7_greatest_29 rfl hl (by decide) rfl (fun ls hl => ?_)
    refine lv_iinc (v := (x3 + (1 : Int32))) (lv' := [(3, .int (x3 + (1 : Int32))), (2, .int t0), (0, .ref (a 0)), (1, .int x1)]) hx hb dX7_greatest_30 hl (k := 3) rfl rfl (by decide) rfl (fun ls hl => ?_)
    refine lv_goto (tgt := 4) hx hb dX7_greatest_33 (by decide) ?_
    exact hk4 (x1) (t0) ((x3 + (1 : Int32))) (s) _ _ _ h hP hS (lv_sub hl [2, 3, 1, 0] rfl)
  have w4 : ∀  (n : Nat) (x1 : Int32) (x2 : Int32) (x3 : Int32) (s : ZS) (H : Heap) (locs : List Loc) (ls : Array Slot), fX7_greatest_4n  n (x1, x2, x3, s) = some (r, τ) → va_P D vwCl (zW (zcM a cI cJ cC) 17 a s) H → va_S (zF 17 a st.heap.size) st.heap H locs → lv_has ls 4 [(0, .ref (a 0)), (1, .int x1), (2, .int x2), (3, .int x3)] → W p l e rmX7_greatest st m args below meth c H locs 0 0 (MQ below (va_Qi (fun (r' : Int32) (τ' : ZS) => r' = r ∧ τ' = τ) (zPost (zcM a cI cJ cC) 17 a D [(cI, .int), (cJ, .long), (cC, .char)]) (zF 17 a st.heap.size)) args st 0 0 (zF 17 a st.heap.size)) (F0 m 4 ls []) := by
    intro  n
    induction n with
    | zero => intro x1 x2 x3 s H locs ls h; exact zloop_0 h
    | succ n ih =>
      intro x1 x2 x3 s H locs ls h hP hS hl
      have h : fX7_greatest_4b  (fun x1 x2 x3 s => fX7_greatest_4n  n (x1, x2, x3, s)) x1 x2 x3 s = some (r, τ) := h
      refine lv_iload_n hx hb dX7_greatest_4 rfl (lv_at hl 3 rfl) ?_
      refine lv_iconst (v := 5) hx hb dX7_greatest_5 (by decide) ?_
      refine lv_icmp_ge (tgt := 36) hx hb dX7_greatest_6 (by decide) (fun c1 => ?_) (fun c1 => ?_)
      · have h := zif_t h c1
        refine lv_iload_n hx hb dX7_greatest_36 rfl (lv_at hl 2 rfl) ?_
        exact z_iret X hP hS hr hlocks h dX7_greatest_37
      · have h := zif_f h c1
        refine lv_aload_n hx hb dX7_greatest_9 rfl (lv_at hl 0 rfl) ?_
        refine lv_iload_n hx hb dX7_greatest_10 rfl (lv_at hl 1 rfl) ?_
        refine lv_iload_n hx hb dX7_greatest_11 rfl (lv_at hl 3 rfl) ?_
        obtain ⟨u2, s2, e2, h⟩ := zb_some h
        refine z_calli hS (z_runV (As := [.int x1, .int x3]) (rest := []) X hG hA hE hP hS 0 (kX7_numberOf (l := l) (D := D) (a := a) (cI := cI) (cJ := cJ) (cC := cC) e2 _) (cwV 2 hts gX7_greatest_X7_numberOf rfl rfl rfl (by decide +kernel) ⟨Nat.le_of_ble_eq_true rfl, Nat.le_of_ble_eq_true rfl⟩) (by decide) (zcM_0 _ _ _ _ _ _) rfl rfl rfl hl.1 rfl (Nat.le_of_ble_eq_true rfl) dX7_greatest_12) (fun H locs hP hS => ?_)
        refine lv_iload_n hx hb dX7_greatest_15 rfl (lv_at hl 2 rfl) ?_
        refine lv_icmp_le (tgt := 28) hx hb dX7_greatest_16 (by decide) (fun c3 => ?_) (fun c3 => ?_)
        · have h := zif_t h c3
          refine lv_iload_n hx hb dX7_greatest_28 rfl (lv_at hl 2 rfl) ?_
          exact w29 (fun x1 x2 x3 s => fX7_greatest_4n  n (x1, x2, x3, s)) (fun x1 x2 x3 s H locs ls h hP hS hl => ih x1 x2 x3 s H locs ls h hP hS hl)  (x1) (x3) (x2) (s2) _ _ _ h hP hS (lv_sub hl [0, 1, 3] rfl)
        · have h := zif_f h c3
          refine lv_aload_n hx hb dX7_greatest_19 rfl (lv_at hl 0 rfl) ?_
          refine lv_iload_n hx hb dX7_greatest_20 rfl (lv_at hl 1 rfl) ?_
          refine lv_iload_n hx hb dX7_greatest_21 rfl (lv_at hl 3 rfl) ?_
          obtain ⟨u4, s4, e4, h⟩ := zb_some h
          refine z_calli hS (z_runV (As := [.int x1, .int x3]) (rest := []) X hG hA hE hP hS 0 (kX7_numberOf (l := l) (D := D) (a := a) (cI := cI) (cJ := cJ) (cC := cC) e4 _) (cwV 2 hts gX7_greatest_X7_numberOf rfl rfl rfl (by decide +kernel) ⟨Nat.le_of_ble_eq_true rfl, Nat.le_of_ble_eq_true rfl⟩) (by decide) (zcM_0 _ _ _ _ _ _) rfl rfl rfl hl.1 rfl (Nat.le_of_ble_eq_true rfl) dX7_greatest_22) (fun H locs hP hS => ?_)
          refine lv_goto (tgt := 29) hx hb dX7_greatest_25 (by decide) ?_
          exact w29 (fun x1 x2 x3 s => fX7_greatest_4n  n (x1, x2, x3, s)) (fun x1 x2 x3 s H locs ls h hP hS hl => ih x1 x2 x3 s H locs ls h hP hS hl)  (x1) (x3) (u4) (s4) _ _ _ h hP hS (lv_sub hl [0, 1, 3] rfl)
  have hl : lv_has ls 4 [(0, .ref (a 0)), (1, .int x1)] := hl
  refine lv_iconst (v := 0) hx hb dX7_greatest_0 (by decide) ?_
  refine lv_istore_n (lv' := [(2, .int (0 : Int32)), (0, .ref (a 0)), (1, .int x1)]) hx hb dX7_greatest_1 rfl hl (by decide) rfl (fun ls hl => ?_)
  refine lv_iconst (v := 0) hx hb dX7_greatest_2 (by decide) ?_
  refine lv_istore_n (lv' := [(3, .int (0 : Int32)), (2, .int (0 : Int32)), (0, .ref (a 0)), (1, .int x1)]) hx hb dX7_greatest_3 rfl hl (by decide) rfl (fun ls hl => ?_)
  exact w4  zN (x1) ((0 : Int32)) ((0 : Int32)) (s) _ _ _ h hP hS (lv_sub hl [2, 3, 1, 0] rfl)
abbrev rmX7_lets : Room := { frames := 2, cells := 0, slots := 0, locals := 45 }
set_option maxHeartbeats 4000000 in
set_option maxRecDepth 100000 in
theorem kX7_lets {l : Launch} {D : va_G} {a : Nat → Nat} {cI cJ cC : ClassId} {x1 : Int32} {x2 : Int32} {s τ : ZS} {r : Int32} (h : fX7_lets x1 x2 s = some (r, τ)) : zMi (zcM a cI cJ cC) 17 a D [(cI, .int), (cJ, .long), (cC, .char)] zEM l yX7_lets wsX7_lets rmX7_lets [.ref (a 0), .int x1, .int x2] s r τ := by
  refine z_start (cc := cX7_lets) (maxL := 4) (ret := (some .int)) RX7 rfl (by decide) rfl (Nat.le_of_ble_eq_true rfl) ?_
  intro p e st m args below meth c ls H locs X hr hlocks hA hE hP hS hl
  obtain ⟨hx, hb, hml, hown, hts, -⟩ := id X
  have hG := zEM_good
  have hl : lv_has ls 4 [(0, .ref (a 0)), (1, .int x1), (2, .int x2)] := hl
  refine lv_aload_n hx hb dX7_lets_0 rfl (lv_at hl 0 rfl) ?_
  refine lv_iload_n hx hb dX7_lets_1 rfl (lv_at hl 1 rfl) ?_
  refine lv_iload_n hx hb dX7_lets_2 rfl (lv_at hl 2 rfl) ?_
  obtain ⟨u1, s1, e1, h⟩ := zb_some h
  refine z_calli hS (z_runV (As := [.int x1, .int x2]) (rest := []) X hG hA hE hP hS 0 (kX7_numberOf (l := l) (D := D) (a := a) (cI := cI) (cJ := cJ) (cC := cC) e1 _) (cwV 2 hts gX7_lets_X7_numberOf rfl rfl rfl (by decide +kernel) ⟨Nat.le_of_ble_eq_true rfl, Nat.le_of_ble_eq_true rfl⟩) (by decide) (zcM_0 _ _ _ _ _ _) rfl rfl rfl hl.1 rfl (Nat.le_of_ble_eq_true rfl) dX7_lets_3) (fun H locs hP hS => ?_)
  refine lv_istore_n (lv' := [(3, .int u1), (0, .ref (a 0)), (1, .int x1), (2, .int x2)]) hx hb dX7_lets_6 rfl hl (by decide) rfl (fun ls hl => ?_)
  refine lv_aload_n hx hb dX7_lets_7 rfl (lv_at hl 1 rfl) ?_
  refine lv_iload_n hx hb dX7_lets_8 rfl (lv_at hl 2 rfl) ?_
  obtain ⟨u2, s2, e2, h⟩ := zb_some h
  refine z_calli hS (z_runV (As := [.int x1]) (rest := []) X hG hA hE hP hS 0 (kX7_kindOf (l := l) (D := D) (a := a) (cI := cI) (cJ := cJ) (cC := cC) e2 _) (cwV 1 hts gX7_lets_X7_kindOf rfl rfl rfl (by decide +kernel) ⟨Nat.le_of_ble_eq_true rfl, Nat.le_of_ble_eq_true rfl⟩) (by decide) (zcM_0 _ _ _ _ _ _) rfl rfl rfl hl.1 rfl (Nat.le_of_ble_eq_true rfl) dX7_lets_9) (fun H locs hP hS => ?_)
  by_cases c3 : u2 = (1 : Int32)
  · have h := zif_t h c3
    refine lv_tableIn (tgt := 48) hx hb dX7_lets_12 (by rw [c3]; decide) (by rw [c3]; decide) (by rw [c3]; rfl) (by decide) ?_
    refine lv_iload_n hx hb dX7_lets_48 rfl (lv_at hl 0 rfl) ?_
    refine lv_iload_n hx hb dX7_lets_49 rfl (lv_at hl 0 rfl) ?_
    refine lv_imul hx hb dX7_lets_50 ?_
    exact z_iret X hP hS hr hlocks h dX7_lets_51
  have h := zif_f h c3
  by_cases c4 : u2 = (2 : Int32)
  · have h := zif_t h c4
    refine lv_tableIn (tgt := 52) hx hb dX7_lets_12 (by rw [c4]; decide) (by rw [c4]; decide) (by rw [c4]; rfl) (by decide) ?_
    refine lv_iload_n hx hb dX7_lets_52 rfl (lv_at hl 0 rfl) ?_
    refine lv_aload_n hx hb dX7_lets_53 rfl (lv_at hl 1 rfl) ?_
    refine lv_iload_n hx hb dX7_lets_54 rfl (lv_at hl 2 rfl) ?_
    obtain ⟨u5, s5, e5, h⟩ := zb_some h
    refine z_calli hS (z_runV (As := [.int x1]) (rest := [.int u1]) X hG hA hE hP hS 0 (kX7_figureOf (l := l) (D := D) (a := a) (cI := cI) (cJ := cJ) (cC := cC) e5 _) (cwV 1 hts gX7_lets_X7_figureOf rfl rfl rfl (by decide +kernel) ⟨Nat.le_of_ble_eq_true rfl, Nat.le_of_ble_eq_true rfl⟩) (by decide) (zcM_0 _ _ _ _ _ _) rfl rfl rfl hl.1 rfl (Nat.le_of_ble_eq_true rfl) dX7_lets_55) (fun H locs hP hS => ?_)
    refine lv_imul hx hb dX7_lets_58 ?_
    exact z_iret X hP hS hr hlocks h dX7_lets_59
  have h := zif_f h c4
  by_cases c6 : u2 = (3 : Int32)
  · have h := zif_t h c6
    refine lv_tableIn (tgt := 60) hx hb dX7_lets_12 (by rw [c6]; decide) (by rw [c6]; decide) (by rw [c6]; rfl) (by decide) ?_
    refine lv_bipush (v := 100) hx hb dX7_lets_60 (by decide) ?_
    refine lv_iload_n hx hb dX7_lets_62 rfl (lv_at hl 0 rfl) ?_
    refine lv_aload_n hx hb dX7_lets_63 rfl (lv_at hl 1 rfl) ?_
    refine lv_iload_n hx hb dX7_lets_64 rfl (lv_at hl 2 rfl) ?_
    obtain ⟨u7, s7, e7, h⟩ := zb_some h
    refine z_calli hS (z_runV (As := [.int x1]) (rest := [.int u1, .int (100 : Int32)]) X hG hA hE hP hS 0 (kX7_figureOf (l := l) (D := D) (a := a) (cI := cI) (cJ := cJ) (cC := cC) e7 _) (cwV 1 hts gX7_lets_X7_figureOf rfl rfl rfl (by decide +kernel) ⟨Nat.le_of_ble_eq_true rfl, Nat.le_of_ble_eq_true rfl⟩) (by decide) (zcM_0 _ _ _ _ _ _) rfl rfl rfl hl.1 rfl (Nat.le_of_ble_eq_true rfl) dX7_lets_65) (fun H locs hP hS => ?_)
    refine lv_imul hx hb dX7_lets_68 ?_
    refine lv_isub hx hb dX7_lets_69 ?_
    exact z_iret X hP hS hr hlocks h dX7_lets_70
  have h := zif_f h c6
  by_cases c8 : u2 = (4 : Int32)
  · have h := zif_t h c8
    refine lv_tableIn (tgt := 71) hx hb dX7_lets_12 (by rw [c8]; decide) (by rw [c8]; decide) (by rw [c8]; rfl) (by decide) ?_
    refine lv_aload_n hx hb dX7_lets_71 rfl (lv_at hl 1 rfl) ?_
    refine lv_iload_n hx hb dX7_lets_72 rfl (lv_at hl 2 rfl) ?_
    obtain ⟨u9, s9, e9, h⟩ := zb_some h
    refine z_calli hS (z_runV (As := [.int x1]) (rest := []) X hG hA hE hP hS 0 (kX7_figureOf (l := l) (D := D) (a := a) (cI := cI) (cJ := cJ) (cC := cC) e9 _) (cwV 1 hts gX7_lets_X7_figureOf rfl rfl rfl (by decide +kernel) ⟨Nat.le_of_ble_eq_true rfl, Nat.le_of_ble_eq_true rfl⟩) (by decide) (zcM_0 _ _ _ _ _ _) rfl rfl rfl hl.1 rfl (Nat.le_of_ble_eq_true rfl) dX7_lets_73) (fun H locs hP hS => ?_)
    refine lv_iconst (v := 5) hx hb dX7_lets_76 (by decide) ?_
    obtain ⟨g10, h⟩ := zg_some h
    refine lv_irem hx hb dX7_lets_77 (zne_ne g10) ?_
    refine lv_iload_n hx hb dX7_lets_78 rfl (lv_at hl 3 rfl) ?_
    refine lv_icmp_ne (tgt := 86) hx hb dX7_lets_79 (by decide) (fun c11 => ?_) (fun c11 => ?_)
    · have h := zif_f h c11
      refine lv_iload_n hx hb dX7_lets_86 rfl (lv_at hl 0 rfl) ?_
      refine lv_iload_n hx hb dX7_lets_87 rfl (lv_at hl 0 rfl) ?_
      refine lv_imul hx hb dX7_lets_88 ?_
      exact z_iret X hP hS hr hlocks h dX7_lets_89
    · have h := zif_t h c11
      refine lv_iconst (v := 0) hx hb dX7_lets_82 (by decide) ?_
      refine lv_goto (tgt := 89) hx hb dX7_lets_83 (by decide) ?_
      exact z_iret X hP hS hr hlocks h dX7_lets_89
  have h := zif_f h c8
  by_cases c12 : u2 = (5 : Int32)
  · have h := zif_t h c12
    refine lv_tableIn (tgt := 90) hx hb dX7_lets_12 (by rw [c12]; decide) (by rw [c12]; decide) (by rw [c12]; rfl) (by decide) ?_
    refine lv_bipush (v := 10) hx hb dX7_lets_90 (by decide) ?_
    refine lv_aload_n hx hb dX7_lets_92 rfl (lv_at hl 1 rfl) ?_
    refine lv_iload_n hx hb dX7_lets_93 rfl (lv_at hl 2 rfl) ?_
    obtain ⟨u13, s13, e13, h⟩ := zb_some h
    refine z_calli hS (z_runV (As := [.int x1]) (rest := [.int (10 : Int32)]) X hG hA hE hP hS 0 (kX7_greatest (l := l) (D := D) (a := a) (cI := cI) (cJ := cJ) (cC := cC) e13 _) (cwV 1 hts gX7_lets_X7_greatest rfl rfl rfl (by decide +kernel) ⟨Nat.le_of_ble_eq_true rfl, Nat.le_of_ble_eq_true rfl⟩) (by decide) (zcM_0 _ _ _ _ _ _) rfl rfl rfl hl.1 rfl (Nat.le_of_ble_eq_true rfl) dX7_lets_94) (fun H locs hP hS => ?_)
    refine lv_imul hx hb dX7_lets_97 ?_
    exact z_iret X hP hS hr hlocks h dX7_lets_98
  have h := zif_f h c12
  refine lv_tableOut (tgt := 99) hx hb dX7_lets_12 (by have := lv_neT (a := 1) c3 rfl; have := lv_neT (a := 2) c4 rfl; have := lv_neT (a := 3) c6 rfl; have := lv_neT (a := 4) c8 rfl; have := lv_neT (a := 5) c12 rfl; omega) (by decide) ?_
  refine lv_bipush (v := 10) hx hb dX7_lets_99 (by decide) ?_
  refine lv_iload_n hx hb dX7_lets_101 rfl (lv_at hl 0 rfl) ?_
  refine lv_imul hx hb dX7_lets_102 ?_
  exact z_iret X hP hS hr hlocks h dX7_lets_103
abbrev rmX7_begins : Room := { frames := 0, cells := 0, slots := 0, locals := 0 }
set_option maxHeartbeats 4000000 in
set_option maxRecDepth 100000 in
theorem kX7_begins {l : Launch} {D : va_G} {a : Nat → Nat} {cI cJ cC : ClassId}  {s τ : ZS} {r : Unit} (h : fX7_begins  s = some (r, τ)) : zMv (zcM a cI cJ cC) 17 a D [(cI, .int), (cJ, .long), (cC, .char)] zEM l yX7_begins wsX7_begins rmX7_begins [.ref (a 0)] s r τ := by
  refine z_start (cc := cX7_begins) (maxL := 2) (ret := none) RX7 rfl (by decide) rfl (Nat.le_of_ble_eq_true rfl) ?_
  intro p e st m args below meth c ls H locs X hr hlocks hA hE hP hS hl
  obtain ⟨hx, hb, hml, hown, hts, -⟩ := id X
  have hG := zEM_good
  have inX7 : ∀ w ∈ u_ws RX7 TX7 26, w ∈ wsX7_begins := by decide +kernel
  have w7 : ∀  (n : Nat) (x1 : Int32) (s : ZS) (H : Heap) (locs : List Loc) (ls : Array Slot), fX7_begins_7n  n (x1, s) = some (r, τ) → va_P D vwCl (zW (zcM a cI cJ cC) 17 a s) H → va_S (zF 17 a st.heap.size) st.heap H locs → lv_has ls 2 [(0, .ref (a 0)), (1, .int x1)] → W p l e rmX7_begins st m args below meth c H locs 0 0 (MQ below (va_Qv (fun (τ' : ZS) => τ' = τ) (zPost (zcM a cI cJ cC) 17 a D [(cI, .int), (cJ, .long), (cC, .char)]) (zF 17 a st.heap.size)) args st 0 0 (zF 17 a st.heap.size)) (F0 m 7 ls []) := by
    intro  n
    induction n with
    | zero => intro x1 s H locs ls h; exact zloop_0 h
    | succ n ih =>
      intro x1 s H locs ls h hP hS hl
      have h : fX7_begins_7b  (fun x1 s => fX7_begins_7n  n (x1, s)) x1 s = some (r, τ) := h
      refine lv_iload_n hx hb dX7_begins_7 rfl (lv_at hl 1 rfl) ?_
      refine lv_iconst (v := 5) hx hb dX7_begins_8 (by decide) ?_
      refine lv_icmp_ge (tgt := 25) hx hb dX7_begins_9 (by decide) (fun c1 => ?_) (fun c1 => ?_)
      · have h := zif_t h c1
        exact z_vret X hP hS hr hlocks h dX7_begins_25
      · have h := zif_f h c1
        refine lv_aload_n hx hb dX7_begins_12 rfl (lv_at hl 0 rfl) ?_
        refine z_get (C := RX7) (T := TX7) (N := 26) X inX7 hP 0 (by decide) (zcM_0 _ _ _ _ _ _) rfl 3 (by decide) rfl (by decide +kernel) rfl dX7_begins_13 ?_
        refine lv_iload_n hx hb dX7_begins_16 rfl (lv_at hl 1 rfl) ?_
        refine lv_lconst (v := 1) hx hb dX7_begins_17 (by decide) ?_
        obtain ⟨g2, h⟩ := zg_some h
        refine z_last X hA hP hS 3 1 (by decide) (zcM_3 _ _ _ _) rfl g2 dX7_begins_18 (fun H locs hP hS => ?_)
        refine lv_iinc (v := (x1 + (1 : Int32))) (lv' := [(1, .int (x1 + (1 : Int32))), (0, .ref (a 0))]) hx hb dX7_begins_19 hl (k := 1) rfl rfl (by decide) rfl (fun ls hl => ?_)
        refine lv_goto (tgt := 7) hx hb dX7_begins_22 (by decide) ?_
        exact ih ((x1 + (1 : Int32))) ((zL s 3 (x1).toNatClampNeg (1 : Int64))) _ _ _ h hP hS (lv_sub hl [1, 0] rfl)
  have hl : lv_has ls 2 [(0, .ref (a 0))] := hl
  refine lv_aload_n hx hb dX7_begins_0 rfl (lv_at hl 0 rfl) ?_
  refine lv_lconst (v := 1) hx hb dX7_begins_1 (by decide) ?_
  refine z_putL (ty := .long) (x := (1 : Int64)) (C := RX7) (T := TX7) (N := 26) X inX7 tyX7 tyX7_ok nmX7 hA hP hS 0 (by decide) (zcM_0 _ _ _ _ _ _) rfl 4 (by decide) rfl (by decide +kernel) rfl (by decide +kernel) rfl rfl (Nat.le_of_ble_eq_true rfl) rfl dX7_begins_2 (fun H locs hP hS => ?_)
  refine lv_iconst (v := 0) hx hb dX7_begins_5 (by decide) ?_
  refine lv_istore_n (lv' := [(1, .int (0 : Int32)), (0, .ref (a 0))]) hx hb dX7_begins_6 rfl hl (by decide) rfl (fun ls hl => ?_)
  exact w7  zN ((0 : Int32)) ((zL s 0 4 (1 : Int64))) _ _ _ h hP hS (lv_sub hl [1, 0] rfl)
abbrev rmX7_lays : Room := { frames := 3, cells := 0, slots := 0, locals := 68 }
set_option maxHeartbeats 4000000 in
set_option maxRecDepth 100000 in
theorem kX7_lays {l : Launch} {D : va_G} {a : Nat → Nat} {cI cJ cC : ClassId} {x1 : Int32} {s τ : ZS} {r : Unit} (h : fX7_lays x1 s = some (r, τ)) : zMv (zcM a cI cJ cC) 17 a D [(cI, .int), (cJ, .long), (cC, .char)] zEM l yX7_lays wsX7_lays rmX7_lays [.ref (a 0), .int x1] s r τ := by
  refine z_start (cc := cX7_lays) (maxL := 3) (ret := none) RX7 rfl (by decide) rfl (Nat.le_of_ble_eq_true rfl) ?_
  intro p e st m args below meth c ls H locs X hr hlocks hA hE hP hS hl
  obtain ⟨hx, hb, hml, hown, hts, -⟩ := id X
  have hG := zEM_good
  have inX7 : ∀ w ∈ u_ws RX7 TX7 26, w ∈ wsX7_lays := by decide +kernel
  have w14 : ∀  (n : Nat) (x1 : Int32) (x2 : Int32) (s : ZS) (H : Heap) (locs : List Loc) (ls : Array Slot), fX7_lays_14n  n (x1, x2, s) = some (r, τ) → va_P D vwCl (zW (zcM a cI cJ cC) 17 a s) H → va_S (zF 17 a st.heap.size) st.heap H locs → lv_has ls 3 [(0, .ref (a 0)), (1, .int x1), (2, .int x2)] → W p l e rmX7_lays st m args below meth c H locs 0 0 (MQ below (va_Qv (fun (τ' : ZS) => τ' = τ) (zPost (zcM a cI cJ cC) 17 a D [(cI, .int), (cJ, .long), (cC, .char)]) (zF 17 a st.heap.size)) args st 0 0 (zF 17 a st.heap.size)) (F0 m 14 ls []) := by
    intro  n
    induction n with
    | zero => intro x1 x2 s H locs ls h; exact zloop_0 h
    | succ n ih =>
      intro x1 x2 s H locs ls h hP hS hl
      have h : fX7_lays_14b  (fun x1 x2 s => fX7_lays_14n  n (x1, x2, s)) x1 x2 s = some (r, τ) := h
      refine lv_iload_n hx hb dX7_lays_14 rfl (lv_at hl 2 rfl) ?_
      refine lv_iconst (v := 5) hx hb dX7_lays_15 (by decide) ?_
      refine lv_icmp_ge (tgt := 41) hx hb dX7_lays_16 (by decide) (fun c1 => ?_) (fun c1 => ?_)
      · have h := zif_t h c1
        exact z_vret X hP hS hr hlocks h dX7_lays_41
      · have h := zif_f h c1
        refine lv_aload_n hx hb dX7_lays_19 rfl (lv_at hl 0 rfl) ?_
        refine z_get (C := RX7) (T := TX7) (N := 26) X inX7 hP 0 (by decide) (zcM_0 _ _ _ _ _ _) rfl 3 (by decide) rfl (by decide +kernel) rfl dX7_lays_20 ?_
        refine lv_iload_n hx hb dX7_lays_23 rfl (lv_at hl 2 rfl) ?_
        refine lv_dup2_11 hx hb dX7_lays_24 rfl rfl ?_
        obtain ⟨g2, h⟩ := zg_some h
        refine z_lald X hP 3 1 (by decide) (zcM_3 _ _ _ _ _ _) rfl g2 dX7_lays_25 ?_
        refine lv_aload_n hx hb dX7_lays_26 rfl (lv_at hl 0 rfl) ?_
        refine lv_iload_n hx hb dX7_lays_27 rfl (lv_at hl 1 rfl) ?_
        refine lv_iload_n hx hb dX7_lays_28 rfl (lv_at hl 2 rfl) ?_
        obtain ⟨u3, s3, e3, h⟩ := zb_some h
        refine z_calli hS (z_runV (As := [.int x1, .int x2]) (rest := [.long ((s).2 3 (x2).toNatClampNeg), .int x2, .ref (a 3)]) X hG hA hE hP hS 0 (kX7_lets (l := l) (D := D) (a := a) (cI := cI) (cJ := cJ) (cC := cC) e3 _) (cwV 2 hts gX7_lays_X7_lets rfl rfl rfl (by decide +kernel) ⟨Nat.le_of_ble_eq_true rfl, Nat.le_of_ble_eq_true rfl⟩) (by decide) (zcM_0 _ _ _ _ _ _) rfl rfl rfl hl.1 rfl (Nat.le_of_ble_eq_true rfl) dX7_lays_29) (fun H locs hP hS => ?_)
        refine lv_i2l hx hb dX7_lays_32 rfl ?_
        refine lv_lmul hx hb dX7_lays_33 ?_
        obtain ⟨g4, h⟩ := zg_some h
        refine z_last X hA hP hS 3 1 (by decide) (zcM_3 _ _ _ _) rfl g4 dX7_lays_34 (fun H locs hP hS => ?_)
        refine lv_iinc (v := (x2 + (1 : Int32))) (lv' := [(2, .int (x2 + (1 : Int32))), (0, .ref (a 0)), (1, .int x1)]) hx hb dX7_lays_35 hl (k := 2) rfl rfl (by decide) rfl (fun ls hl => ?_)
        refine lv_goto (tgt := 14) hx hb dX7_lays_38 (by decide) ?_
        exact ih (x1) ((x2 + (1 : Int32))) ((zL s3 3 (x2).toNatClampNeg (((s).2 3 (x2).toNatClampNeg) * (u3).toInt64))) _ _ _ h hP hS (lv_sub hl [1, 2, 0] rfl)
  have hl : lv_has ls 3 [(0, .ref (a 0)), (1, .int x1)] := hl
  refine lv_aload_n hx hb dX7_lays_0 rfl (lv_at hl 0 rfl) ?_
  refine lv_dup hx hb dX7_lays_1 rfl ?_
  refine z_get (C := RX7) (T := TX7) (N := 26) X inX7 hP 0 (by decide) (zcM_0 _ _ _ _ _ _) rfl 4 (by decide) rfl (by decide +kernel) rfl dX7_lays_2 ?_
  refine lv_ldc2 (own := RX7) (index := 88) (v := 100) hx hb hown (hts _ (by decide +kernel)) dX7_lays_5 ?_
  refine lv_lmul hx hb dX7_lays_8 ?_
  refine z_putL (ty := .long) (x := (((s).2 0 4) * (100 : Int64))) (C := RX7) (T := TX7) (N := 26) X inX7 tyX7 tyX7_ok nmX7 hA hP hS 0 (by decide) (zcM_0 _ _ _ _ _ _) rfl 4 (by decide) rfl (by decide +kernel) rfl (by decide +kernel) rfl rfl (Nat.le_of_ble_eq_true rfl) rfl dX7_lays_9 (fun H locs hP hS => ?_)
  refine lv_iconst (v := 0) hx hb dX7_lays_12 (by decide) ?_
  refine lv_istore_n (lv' := [(2, .int (0 : Int32)), (0, .ref (a 0)), (1, .int x1)]) hx hb dX7_lays_13 rfl hl (by decide) rfl (fun ls hl => ?_)
  exact w14  zN (x1) ((0 : Int32)) ((zL s 0 4 (((s).2 0 4) * (100 : Int64)))) _ _ _ h hP hS (lv_sub hl [1, 2, 0] rfl)
abbrev rmX7_shines : Room := { frames := 4, cells := 0, slots := 0, locals := 90 }
set_option maxHeartbeats 4000000 in
set_option maxRecDepth 100000 in
theorem kX7_shines {l : Launch} {D : va_G} {a : Nat → Nat} {cI cJ cC : ClassId} {x1 : Int32} {s τ : ZS} {r : Unit} (h : fX7_shines x1 s = some (r, τ)) : zMv (zcM a cI cJ cC) 17 a D [(cI, .int), (cJ, .long), (cC, .char)] zEM l yX7_shines wsX7_shines rmX7_shines [.ref (a 0), .int x1] s r τ := by
  refine z_start (cc := cX7_shines) (maxL := 3) (ret := none) RX7 rfl (by decide) rfl (Nat.le_of_ble_eq_true rfl) ?_
  intro p e st m args below meth c ls H locs X hr hlocks hA hE hP hS hl
  obtain ⟨hx, hb, hml, hown, hts, -⟩ := id X
  have hG := zEM_good
  have w6 : ∀  (n : Nat) (x1 : Int32) (x2 : Int32) (s : ZS) (H : Heap) (locs : List Loc) (ls : Array Slot), fX7_shines_6n  n (x1, x2, s) = some (r, τ) → va_P D vwCl (zW (zcM a cI cJ cC) 17 a s) H → va_S (zF 17 a st.heap.size) st.heap H locs → lv_has ls 3 [(0, .ref (a 0)), (1, .int x1), (2, .int x2)] → W p l e rmX7_shines st m args below meth c H locs 0 0 (MQ below (va_Qv (fun (τ' : ZS) => τ' = τ) (zPost (zcM a cI cJ cC) 17 a D [(cI, .int), (cJ, .long), (cC, .char)]) (zF 17 a st.heap.size)) args st 0 0 (zF 17 a st.heap.size)) (F0 m 6 ls []) := by
    intro  n
    induction n with
    | zero => intro x1 x2 s H locs ls h; exact zloop_0 h
    | succ n ih =>
      intro x1 x2 s H locs ls h hP hS hl
      have h : fX7_shines_6b  (fun x1 x2 s => fX7_shines_6n  n (x1, x2, s)) x1 x2 s = some (r, τ) := h
      refine lv_iload_n hx hb dX7_shines_6 rfl (lv_at hl 2 rfl) ?_
      refine lv_aload_n hx hb dX7_shines_7 rfl (lv_at hl 0 rfl) ?_
      refine lv_iload_n hx hb dX7_shines_8 rfl (lv_at hl 1 rfl) ?_
      obtain ⟨u1, s1, e1, h⟩ := zb_some h
      refine z_calli hS (z_runV (As := [.int x1]) (rest := [.int x2]) X hG hA hE hP hS 0 (kX7_size (l := l) (D := D) (a := a) (cI := cI) (cJ := cJ) (cC := cC) e1 _) (cwV 1 hts gX7_shines_X7_size rfl rfl rfl (by decide +kernel) ⟨Nat.le_of_ble_eq_true rfl, Nat.le_of_ble_eq_true rfl⟩) (by decide) (zcM_0 _ _ _ _ _ _) rfl rfl rfl hl.1 rfl (Nat.le_of_ble_eq_true rfl) dX7_shines_9) (fun H locs hP hS => ?_)
      refine lv_icmp_ge (tgt := 31) hx hb dX7_shines_12 (by decide) (fun c2 => ?_) (fun c2 => ?_)
      · have h := zif_t h c2
        exact z_vret X hP hS hr hlocks h dX7_shines_31
      · have h := zif_f h c2
        refine lv_aload_n hx hb dX7_shines_15 rfl (lv_at hl 0 rfl) ?_
        refine lv_aload_n hx hb dX7_shines_16 rfl (lv_at hl 0 rfl) ?_
        refine lv_iload_n hx hb dX7_shines_17 rfl (lv_at hl 1 rfl) ?_
        refine lv_iload_n hx hb dX7_shines_18 rfl (lv_at hl 2 rfl) ?_
        obtain ⟨u3, s3, e3, h⟩ := zb_some h
        refine z_calli hS (z_runV (As := [.int x1, .int x2]) (rest := [.ref (a 0)]) X hG hA hE hP hS 0 (kX7_laid (l := l) (D := D) (a := a) (cI := cI) (cJ := cJ) (cC := cC) e3 _) (cwV 2 hts gX7_shines_X7_laid rfl rfl rfl (by decide +kernel) ⟨Nat.le_of_ble_eq_true rfl, Nat.le_of_ble_eq_true rfl⟩) (by decide) (zcM_0 _ _ _ _ _ _) rfl rfl rfl hl.1 rfl (Nat.le_of_ble_eq_true rfl) dX7_shines_19) (fun H locs hP hS => ?_)
        obtain ⟨u4, s4, e4, h⟩ := zb_some h
        refine z_callv hS (z_runV (As := [.int u3]) (rest := []) X hG hA hE hP hS 0 (kX7_lays (l := l) (D := D) (a := a) (cI := cI) (cJ := cJ) (cC := cC) e4 _) (cwV 1 hts gX7_shines_X7_lays rfl rfl rfl (by decide +kernel) ⟨Nat.le_of_ble_eq_true rfl, Nat.le_of_ble_eq_true rfl⟩) (by decide) (zcM_0 _ _ _ _ _ _) rfl rfl rfl hl.1 rfl (Nat.le_of_ble_eq_true rfl) dX7_shines_22) (fun H locs hP hS => ?_)
        refine lv_iinc (v := (x2 + (1 : Int32))) (lv' := [(2, .int (x2 + (1 : Int32))), (0, .ref (a 0)), (1, .int x1)]) hx hb dX7_shines_25 hl (k := 2) rfl rfl (by decide) rfl (fun ls hl => ?_)
        refine lv_goto (tgt := 6) hx hb dX7_shines_28 (by decide) ?_
        exact ih (x1) ((x2 + (1 : Int32))) (s4) _ _ _ h hP hS (lv_sub hl [1, 2, 0] rfl)
  have hl : lv_has ls 3 [(0, .ref (a 0)), (1, .int x1)] := hl
  refine lv_aload_n hx hb dX7_shines_0 rfl (lv_at hl 0 rfl) ?_
  obtain ⟨u1, s1, e1, h⟩ := zb_some h
  refine z_callv hS (z_runV (As := []) (rest := []) X hG hA hE hP hS 0 (kX7_begins (l := l) (D := D) (a := a) (cI := cI) (cJ := cJ) (cC := cC) e1 _) (cwV 0 hts gX7_shines_X7_begins rfl rfl rfl (by decide +kernel) ⟨Nat.le_of_ble_eq_true rfl, Nat.le_of_ble_eq_true rfl⟩) (by decide) (zcM_0 _ _ _ _ _ _) rfl rfl rfl hl.1 rfl (Nat.le_of_ble_eq_true rfl) dX7_shines_1) (fun H locs hP hS => ?_)
  refine lv_iconst (v := 0) hx hb dX7_shines_4 (by decide) ?_
  refine lv_istore_n (lv' := [(2, .int (0 : Int32)), (0, .ref (a 0)), (1, .int x1)]) hx hb dX7_shines_5 rfl hl (by decide) rfl (fun ls hl => ?_)
  exact w6  zN (x1) ((0 : Int32)) (s1) _ _ _ h hP hS (lv_sub hl [1, 2, 0] rfl)
abbrev rmX7_seen : Room := { frames := 0, cells := 0, slots := 0, locals := 0 }
set_option maxHeartbeats 4000000 in
set_option maxRecDepth 100000 in
theorem kX7_seen {l : Launch} {D : va_G} {a : Nat → Nat} {cI cJ cC : ClassId} {x1 : Int32} {x2 : Int32} {x3 : Int32} {s τ : ZS} {r : Int64} (h : fX7_seen x1 x2 x3 s = some (r, τ)) : zMl (zcM a cI cJ cC) 17 a D [(cI, .int), (cJ, .long), (cC, .char)] zEM l yX7_seen wsX7_seen rmX7_seen [.ref (a 0), .int x1, .int x2, .int x3] s r τ := by
  refine z_start (cc := cX7_seen) (maxL := 9) (ret := (some .long)) RX7 rfl (by decide) rfl (Nat.le_of_ble_eq_true rfl) ?_
  intro p e st m args below meth c ls H locs X hr hlocks hA hE hP hS hl
  obtain ⟨hx, hb, hml, hown, hts, -⟩ := id X
  have hG := zEM_good
  have inX7 : ∀ w ∈ u_ws RX7 TX7 26, w ∈ wsX7_seen := by decide +kernel
  have w38 : ∀ (k6 : Int32 → Int32 → Int32 → Int64 → Int32 → ZS → Option (Int64 × ZS)) (hk6 : ∀ (x1 : Int32) (x2 : Int32) (x3 : Int32) (x4 : Int64) (x6 : Int32) (s : ZS) (H : Heap) (locs : List Loc) (ls : Array Slot), k6 x1 x2 x3 x4 x6 s = some (r, τ) → va_P D vwCl (zW (zcM a cI cJ cC) 17 a s) H → va_S (zF 17 a st.heap.size) st.heap H locs → lv_has ls 9 [(0, .ref (a 0)), (1, .int x1), (2, .int x2), (3, .int x3), (4, .long x4), (6, .int x6)] → W p l e rmX7_seen st m args below meth c H locs 0 0 (MQ below (va_Ql (fun (r' : Int64) (τ' : ZS) => r' = r ∧ τ' = τ) (zPost (zcM a cI cJ cC) 17 a D [(cI, .int), (cJ, .long), (cC, .char)]) (zF 17 a st.heap.size)) args st 0 0 (zF 17 a st.heap.size)) (F0 m 6 ls [])) (x1 : Int32) (x2 : Int32) (x3 : Int32) (x4 : Int64) (x6 : Int32) (t0 : Int64) (s : ZS) (H : Heap) (locs : List Loc) (ls : Array Slot), fX7_seen_38 k6 x1 x2 x3 x4 x6 t0 s = some (r, τ) → va_P D vwCl (zW (zcM a cI cJ cC) 17 a s) H → va_S (zF 17 a st.heap.size) st.heap H locs → lv_has ls 9 [(0, .ref (a 0)), (1, .int x1), (2, .int x2), (3, .int x3), (4, .long x4), (6, .int x6)] → W p l e rmX7_seen st m args below meth c H locs 0 0 (MQ below (va_Ql (fun (r' : Int64) (τ' : ZS) => r' = r ∧ τ' = τ) (zPost (zcM a cI cJ cC) 17 a D [(cI, .int), (cJ, .long), (cC, .char)]) (zF 17 a st.heap.size)) args st 0 0 (zF 17 a st.heap.size)) (F0 m 38 ls [.long t0]) := by
    intro k6 hk6 x1 x2 x3 x4 x6 t0 s H locs ls h hP hS hl
    refine lv_lstore (lv' := [(7, .long t0), (0, .ref (a 0)), (1, .int x1), (2, .int x2), (3, .int x3), (4, .long x4), (6, .int x6)]) hx hb dX7_seen_38 hl (by decide) rfl (fun ls hl => ?_)
    refine lv_lload hx hb dX7_seen_40 (lv_at hl 5 rfl) ?_
    refine lv_aload_n hx hb dX7_seen_42 rfl (lv_at hl 1 rfl) ?_
    refine z_get (C := RX7) (T := TX7) (N := 26) X inX7 hP 0 (by decide) (zcM_0 _ _ _ _ _ _) rfl 0 (by decide) rfl (by decide +kernel) rfl dX7_seen_43 ?_
    refine lv_bipush (v := 100) hx hb dX7_seen_46 (by decide) ?_
    refine lv_iconst (v := 5) hx hb dX7_seen_48 (by decide) ?_
    refine lv_iload_n hx hb dX7_seen_49 rfl (lv_at hl 2 rfl) ?_
    refine lv_imul hx hb dX7_seen_50 ?_
    refine lv_iadd hx hb dX7_seen_51 ?_
    refine lv_iload hx hb dX7_seen_52 (lv_at hl 6 rfl) ?_
    refine lv_iadd hx hb dX7_seen_54 ?_
    obtain ⟨g1, h⟩ := zg_some h
    refine z_iald X hP 1 0 (by decide) (zcM_1 _ _ _ _ _ _) rfl g1 dX7_seen_55 ?_
    refine lv_aload_n hx hb dX7_seen_56 rfl (lv_at hl 1 rfl) ?_
    refine z_get (C := RX7) (T := TX7) (N := 26) X inX7 hP 0 (by decide) (zcM_0 _ _ _ _ _ _) rfl 0 (by decide) rfl (by decide +kernel) rfl dX7_seen_57 ?_
    refine lv_bipush (v := 115) hx hb dX7_seen_60 (by decide) ?_
    refine lv_iconst (v := 5) hx hb dX7_seen_62 (by decide) ?_
    refine lv_iload_n hx hb dX7_seen_63 rfl (lv_at hl 4 rfl) ?_
    refine lv_imul hx hb dX7_seen_64 ?_
    refine lv_iadd hx hb dX7_seen_65 ?_
    refine lv_iload hx hb dX7_seen_66 (lv_at hl 6 rfl) ?_
    refine lv_iadd hx hb dX7_seen_68 ?_
    obtain ⟨g2, h⟩ := zg_some h
    refine z_iald X hP 1 0 (by decide) (zcM_1 _ _ _ _ _ _) rfl g2 dX7_seen_69 ?_
    refine lv_imul hx hb dX7_seen_70 ?_
    refine lv_i2l hx hb dX7_seen_71 rfl ?_
    refine lv_lload hx hb dX7_seen_72 (lv_at hl 0 rfl) ?_
    refine lv_lmul hx hb dX7_seen_74 ?_
    refine lv_aload_n hx hb dX7_seen_75 rfl (lv_at hl 1 rfl) ?_
    refine z_get (C := RX7) (T := TX7) (N := 26) X inX7 hP 0 (by decide) (zcM_0 _ _ _ _ _ _) rfl 3 (by decide) rfl (by decide +kernel) rfl dX7_seen_76 ?_
    refine lv_iload hx hb dX7_seen_79 (lv_at hl 6 rfl) ?_
    obtain ⟨g3, h⟩ := zg_some h
    refine z_lald X hP 3 1 (by decide) (zcM_3 _ _ _ _ _ _) rfl g3 dX7_seen_81 ?_
    refine lv_lmul hx hb dX7_seen_82 ?_
    refine lv_ladd hx hb dX7_seen_83 ?_
    refine lv_lstore (lv' := [(4, .long (x4 + ((((((s).1 1 ((((100 : Int32) + ((5 : Int32) * x1)) + x6)).toNatClampNeg) * ((s).1 1 ((((115 : Int32) + ((5 : Int32) * x3)) + x6)).toNatClampNeg))).toInt64 * t0) * ((s).2 3 (x6).toNatClampNeg)))), (7, .long t0), (0, .ref (a 0)), (1, .int x1), (2, .int x2), (3, .int x3), (6, .int x6)]) hx hb dX7_seen_84 hl (by decide) rfl (fun ls hl => ?_)
    refine lv_iinc (v := (x6 + (1 : Int32))) (lv' := [(6, .int (x6 + (1 : Int32))), (4, .long (x4 + ((((((s).1 1 ((((100 : Int32) + ((5 : Int32) * x1)) + x6)).toNatClampNeg) * ((s).1 1 ((((115 : Int32) + ((5 : Int32) * x3)) + x6)).toNatClampNeg))).toInt64 * t0) * ((s).2 3 (x6).toNatClampNeg)))), (7, .long t0), (0, .ref (a 0)), (1, .int x1), (2, .int x2), (3, .int x3)]) hx hb dX7_seen_86 hl (k := 6) rfl rfl (by decide) rfl (fun ls hl => ?_)
    refine lv_goto (tgt := 6) hx hb dX7_seen_89 (by decide) ?_
    exact hk6 (x1) (x2) (x3) ((x4 + ((((((s).1 1 ((((100 : Int32) + ((5 : Int32) * x1)) + x6)).toNatClampNeg) * ((s).1 1 ((((115 : Int32) + ((5 : Int32) * x3)) + x6)).toNatClampNeg))).toInt64 * t0) * ((s).2 3 (x6).toNatClampNeg)))) ((x6 + (1 : Int32))) (s) _ _ _ h hP hS (lv_sub hl [3, 4, 5, 6, 1, 0] rfl)
  have w6 : ∀  (n : Nat) (x1 : Int32) (x2 : Int32) (x3 : Int32) (x4 : Int64) (x6 : Int32) (s : ZS) (H : Heap) (locs : List Loc) (ls : Array Slot), fX7_seen_6n  n (x1, x2, x3, x4, x6, s) = some (r, τ) → va_P D vwCl (zW (zcM a cI cJ cC) 17 a s) H → va_S (zF 17 a st.heap.size) st.heap H locs → lv_has ls 9 [(0, .ref (a 0)), (1, .int x1), (2, .int x2), (3, .int x3), (4, .long x4), (6, .int x6)] → W p l e rmX7_seen st m args below meth c H locs 0 0 (MQ below (va_Ql (fun (r' : Int64) (τ' : ZS) => r' = r ∧ τ' = τ) (zPost (zcM a cI cJ cC) 17 a D [(cI, .int), (cJ, .long), (cC, .char)]) (zF 17 a st.heap.size)) args st 0 0 (zF 17 a st.heap.size)) (F0 m 6 ls []) := by
    intro  n
    induction n with
    | zero => intro x1 x2 x3 x4 x6 s H locs ls h; exact zloop_0 h
    | succ n ih =>
      intro x1 x2 x3 x4 x6 s H locs ls h hP hS hl
      have h : fX7_seen_6b  (fun x1 x2 x3 x4 x6 s => fX7_seen_6n  n (x1, x2, x3, x4, x6, s)) x1 x2 x3 x4 x6 s = some (r, τ) := h
      refine lv_iload hx hb dX7_seen_6 (lv_at hl 5 rfl) ?_
      refine lv_iconst (v := 5) hx hb dX7_seen_8 (by decide) ?_
      refine lv_icmp_ge (tgt := 92) hx hb dX7_seen_9 (by decide) (fun c1 => ?_) (fun c1 => ?_)
      · have h := zif_t h c1
        refine lv_lload hx hb dX7_seen_92 (lv_at hl 4 rfl) ?_
        exact z_lret X hP hS hr hlocks h dX7_seen_94
      · have h := zif_f h c1
        refine lv_iload_n hx hb dX7_seen_12 rfl (lv_at hl 2 rfl) ?_
        refine lv_if_ne (tgt := 20) hx hb dX7_seen_13 (by decide) (fun c2 => ?_) (fun c2 => ?_)
        · have h := zif_f h c2
          refine lv_iload hx hb dX7_seen_20 (lv_at hl 5 rfl) ?_
          refine lv_iconst (v := 2) hx hb dX7_seen_22 (by decide) ?_
          refine lv_icmp_ge (tgt := 35) hx hb dX7_seen_23 (by decide) (fun c3 => ?_) (fun c3 => ?_)
          · have h := zif_t h c3
            refine lv_ldc2 (own := RX7) (index := 106) (v := 10) hx hb hown (hts _ (by decide +kernel)) dX7_seen_35 ?_
            exact w38 (fun x1 x2 x3 x4 x6 s => fX7_seen_6n  n (x1, x2, x3, x4, x6, s)) (fun x1 x2 x3 x4 x6 s H locs ls h hP hS hl => ih x1 x2 x3 x4 x6 s H locs ls h hP hS hl)  (x1) (x2) (x3) (x4) (x6) ((10 : Int64)) (s) _ _ _ h hP hS (lv_sub hl [0, 1, 2, 3, 4, 5] rfl)
          · have h := zif_f h c3
            refine lv_ldc2 (own := RX7) (index := 106) (v := 10) hx hb hown (hts _ (by decide +kernel)) dX7_seen_26 ?_
            refine lv_iload_n hx hb dX7_seen_29 rfl (lv_at hl 2 rfl) ?_
            refine lv_i2l hx hb dX7_seen_30 rfl ?_
            refine lv_lsub hx hb dX7_seen_31 ?_
            refine lv_goto (tgt := 38) hx hb dX7_seen_32 (by decide) ?_
            exact w38 (fun x1 x2 x3 x4 x6 s => fX7_seen_6n  n (x1, x2, x3, x4, x6, s)) (fun x1 x2 x3 x4 x6 s H locs ls h hP hS hl => ih x1 x2 x3 x4 x6 s H locs ls h hP hS hl)  (x1) (x2) (x3) (x4) (x6) (((10 : Int64) - (x2).toInt64)) (s) _ _ _ h hP hS (lv_sub hl [0, 1, 2, 3, 4, 5] rfl)
        · have h := zif_t h c2
          refine lv_lconst (v := 1) hx hb dX7_seen_16 (by decide) ?_
          refine lv_goto (tgt := 38) hx hb dX7_seen_17 (by decide) ?_
          exact w38 (fun x1 x2 x3 x4 x6 s => fX7_seen_6n  n (x1, x2, x3, x4, x6, s)) (fun x1 x2 x3 x4 x6 s H locs ls h hP hS hl => ih x1 x2 x3 x4 x6 s H locs ls h hP hS hl)  (x1) (x2) (x3) (x4) (x6) ((1 : Int64)) (s) _ _ _ h hP hS (lv_sub hl [0, 1, 2, 3, 4, 5] rfl)
  have hl : lv_has ls 9 [(0, .ref (a 0)), (1, .int x1), (2, .int x2), (3, .int x3)] := hl
  refine lv_lconst (v := 0) hx hb dX7_seen_0 (by decide) ?_
  refine lv_lstore (lv' := [(4, .long (0 : Int64)), (0, .ref (a 0)), (1, .int x1), (2, .int x2), (3, .int x3)]) hx hb dX7_seen_1 hl (by decide) rfl (fun ls hl => ?_)
  refine lv_iconst (v := 0) hx hb dX7_seen_3 (by decide) ?_
  refine lv_istore (lv' := [(6, .int (0 : Int32)), (4, .long (0 : Int64)), (0, .ref (a 0)), (1, .int x1), (2, .int x2), (3, .int x3)]) hx hb dX7_seen_4 hl (by decide) rfl (fun ls hl => ?_)
  exact w6  zN (x1) (x2) (x3) ((0 : Int64)) ((0 : Int32)) (s) _ _ _ h hP hS (lv_sub hl [2, 3, 4, 5, 1, 0] rfl)
abbrev rmX7_shadeOf : Room := { frames := 1, cells := 0, slots := 0, locals := 28 }
set_option maxHeartbeats 4000000 in
set_option maxRecDepth 100000 in
theorem kX7_shadeOf {l : Launch} {D : va_G} {a : Nat → Nat} {cI cJ cC : ClassId} {x1 : Int32} {x2 : Int32} {x3 : Int32} {s τ : ZS} {r : Int32} (h : fX7_shadeOf x1 x2 x3 s = some (r, τ)) : zMi (zcM a cI cJ cC) 17 a D [(cI, .int), (cJ, .long), (cC, .char)] zEM l yX7_shadeOf wsX7_shadeOf rmX7_shadeOf [.ref (a 0), .int x1, .int x2, .int x3] s r τ := by
  refine z_start (cc := cX7_shadeOf) (maxL := 4) (ret := (some .int)) RX7 rfl (by decide) rfl (Nat.le_of_ble_eq_true rfl) ?_
  intro p e st m args below meth c ls H locs X hr hlocks hA hE hP hS hl
  obtain ⟨hx, hb, hml, hown, hts, -⟩ := id X
  have hG := zEM_good
  have inX7 : ∀ w ∈ u_ws RX7 TX7 26, w ∈ wsX7_shadeOf := by decide +kernel
  have w26 : ∀  (t0 : Int64) (t1 : Int64) (s : ZS) (H : Heap) (locs : List Loc) (ls : Array Slot), fX7_shadeOf_26  t0 t1 s = some (r, τ) → va_P D vwCl (zW (zcM a cI cJ cC) 17 a s) H → va_S (zF 17 a st.heap.size) st.heap H locs → lv_has ls 4 [] → W p l e rmX7_shadeOf st m args below meth c H locs 0 0 (MQ below (va_Qi (fun (r' : Int32) (τ' : ZS) => r' = r ∧ τ' = τ) (zPost (zcM a cI cJ cC) 17 a D [(cI, .int), (cJ, .long), (cC, .char)]) (zF 17 a st.heap.size)) args st 0 0 (zF 17 a st.heap.size)) (F0 m 26 ls [.long t1, .long t0]) := by
    intro  t0 t1 s H locs ls h hP hS hl
    obtain ⟨g1, h⟩ := zg_some h
    refine lv_ldiv hx hb dX7_shadeOf_26 (znl_ne g1) ?_
    refine lv_l2i hx hb dX7_shadeOf_27 rfl ?_
    exact z_iret X hP hS hr hlocks h dX7_shadeOf_28
  have hl : lv_has ls 4 [(0, .ref (a 0)), (1, .int x1), (2, .int x2), (3, .int x3)] := hl
  refine lv_aload_n hx hb dX7_shadeOf_0 rfl (lv_at hl 0 rfl) ?_
  refine lv_iload_n hx hb dX7_shadeOf_1 rfl (lv_at hl 1 rfl) ?_
  refine lv_iload_n hx hb dX7_shadeOf_2 rfl (lv_at hl 2 rfl) ?_
  refine lv_iload_n hx hb dX7_shadeOf_3 rfl (lv_at hl 3 rfl) ?_
  obtain ⟨u1, s1, e1, h⟩ := zb_some h
  refine z_calll hS (z_runV (As := [.int x1, .int x2, .int x3]) (rest := []) X hG hA hE hP hS 0 (kX7_seen (l := l) (D := D) (a := a) (cI := cI) (cJ := cJ) (cC := cC) e1 _) (cwV 3 hts gX7_shadeOf_X7_seen rfl rfl rfl (by decide +kernel) ⟨Nat.le_of_ble_eq_true rfl, Nat.le_of_ble_eq_true rfl⟩) (by decide) (zcM_0 _ _ _ _ _ _) rfl rfl rfl hl.1 rfl (Nat.le_of_ble_eq_true rfl) dX7_shadeOf_4) (fun H locs hP hS => ?_)
  refine lv_iload_n hx hb dX7_shadeOf_7 rfl (lv_at hl 2 rfl) ?_
  refine lv_if_ne (tgt := 18) hx hb dX7_shadeOf_8 (by decide) (fun c2 => ?_) (fun c2 => ?_)
  · have h := zif_f h c2
    refine lv_ldc2 (own := RX7) (index := 106) (v := 10) hx hb hown (hts _ (by decide +kernel)) dX7_shadeOf_18 ?_
    refine lv_aload_n hx hb dX7_shadeOf_21 rfl (lv_at hl 0 rfl) ?_
    refine z_get (C := RX7) (T := TX7) (N := 26) X inX7 hP 0 (by decide) (zcM_0 _ _ _ _ _ _) rfl 4 (by decide) rfl (by decide +kernel) rfl dX7_shadeOf_22 ?_
    refine lv_lmul hx hb dX7_shadeOf_25 ?_
    exact w26   (u1) (((10 : Int64) * ((s1).2 0 4))) (s1) _ _ _ h hP hS (lv_sub hl [] rfl)
  · have h := zif_t h c2
    refine lv_aload_n hx hb dX7_shadeOf_11 rfl (lv_at hl 0 rfl) ?_
    refine z_get (C := RX7) (T := TX7) (N := 26) X inX7 hP 0 (by decide) (zcM_0 _ _ _ _ _ _) rfl 4 (by decide) rfl (by decide +kernel) rfl dX7_shadeOf_12 ?_
    refine lv_goto (tgt := 26) hx hb dX7_shadeOf_15 (by decide) ?_
    exact w26   (u1) (((s1).2 0 4)) (s1) _ _ _ h hP hS (lv_sub hl [] rfl)
abbrev rmX7_findShades : Room := { frames := 2, cells := 0, slots := 0, locals := 51 }
set_option maxHeartbeats 4000000 in
set_option maxRecDepth 100000 in
theorem kX7_findShades {l : Launch} {D : va_G} {a : Nat → Nat} {cI cJ cC : ClassId} {x1 : Int32} {s τ : ZS} {r : Unit} (h : fX7_findShades x1 s = some (r, τ)) : zMv (zcM a cI cJ cC) 17 a D [(cI, .int), (cJ, .long), (cC, .char)] zEM l yX7_findShades wsX7_findShades rmX7_findShades [.ref (a 0), .int x1] s r τ := by
  refine z_start (cc := cX7_findShades) (maxL := 3) (ret := none) RX7 rfl (by decide) rfl (Nat.le_of_ble_eq_true rfl) ?_
  intro p e st m args below meth c ls H locs X hr hlocks hA hE hP hS hl
  obtain ⟨hx, hb, hml, hown, hts, -⟩ := id X
  have hG := zEM_good
  have inX7 : ∀ w ∈ u_ws RX7 TX7 26, w ∈ wsX7_findShades := by decide +kernel
  have w2 : ∀  (n : Nat) (x1 : Int32) (x2 : Int32) (s : ZS) (H : Heap) (locs : List Loc) (ls : Array Slot), fX7_findShades_2n  n (x1, x2, s) = some (r, τ) → va_P D vwCl (zW (zcM a cI cJ cC) 17 a s) H → va_S (zF 17 a st.heap.size) st.heap H locs → lv_has ls 3 [(0, .ref (a 0)), (1, .int x1), (2, .int x2)] → W p l e rmX7_findShades st m args below meth c H locs 0 0 (MQ below (va_Qv (fun (τ' : ZS) => τ' = τ) (zPost (zcM a cI cJ cC) 17 a D [(cI, .int), (cJ, .long), (cC, .char)]) (zF 17 a st.heap.size)) args st 0 0 (zF 17 a st.heap.size)) (F0 m 2 ls []) := by
    intro  n
    induction n with
    | zero => intro x1 x2 s H locs ls h; exact zloop_0 h
    | succ n ih =>
      intro x1 x2 s H locs ls h hP hS hl
      have h : fX7_findShades_2b  (fun x1 x2 s => fX7_findShades_2n  n (x1, x2, s)) x1 x2 s = some (r, τ) := h
      refine lv_iload_n hx hb dX7_findShades_2 rfl (lv_at hl 2 rfl) ?_
      refine lv_iconst (v := 3) hx hb dX7_findShades_3 (by decide) ?_
      refine lv_icmp_ge (tgt := 26) hx hb dX7_findShades_4 (by decide) (fun c1 => ?_) (fun c1 => ?_)
      · have h := zif_t h c1
        exact z_vret X hP hS hr hlocks h dX7_findShades_26
      · have h := zif_f h c1
        refine lv_aload_n hx hb dX7_findShades_7 rfl (lv_at hl 0 rfl) ?_
        refine z_get (C := RX7) (T := TX7) (N := 26) X inX7 hP 0 (by decide) (zcM_0 _ _ _ _ _ _) rfl 5 (by decide) rfl (by decide +kernel) rfl dX7_findShades_8 ?_
        refine lv_iload_n hx hb dX7_findShades_11 rfl (lv_at hl 2 rfl) ?_
        refine lv_aload_n hx hb dX7_findShades_12 rfl (lv_at hl 0 rfl) ?_
        refine lv_iload_n hx hb dX7_findShades_13 rfl (lv_at hl 1 rfl) ?_
        refine lv_iconst (v := 0) hx hb dX7_findShades_14 (by decide) ?_
        refine lv_iload_n hx hb dX7_findShades_15 rfl (lv_at hl 2 rfl) ?_
        obtain ⟨u2, s2, e2, h⟩ := zb_some h
        refine z_calli hS (z_runV (As := [.int x1, .int (0 : Int32), .int x2]) (rest := [.int x2, .ref (a 4)]) X hG hA hE hP hS 0 (kX7_shadeOf (l := l) (D := D) (a := a) (cI := cI) (cJ := cJ) (cC := cC) e2 _) (cwV 3 hts gX7_findShades_X7_shadeOf rfl rfl rfl (by decide +kernel) ⟨Nat.le_of_ble_eq_true rfl, Nat.le_of_ble_eq_true rfl⟩) (by decide) (zcM_0 _ _ _ _ _ _) rfl rfl rfl hl.1 rfl (Nat.le_of_ble_eq_true rfl) dX7_findShades_16) (fun H locs hP hS => ?_)
        obtain ⟨g3, h⟩ := zg_some h
        refine z_iast X hA hP hS 4 0 (by decide) (zcM_4 _ _ _ _) rfl g3 dX7_findShades_19 (fun H locs hP hS => ?_)
        refine lv_iinc (v := (x2 + (1 : Int32))) (lv' := [(2, .int (x2 + (1 : Int32))), (0, .ref (a 0)), (1, .int x1)]) hx hb dX7_findShades_20 hl (k := 2) rfl rfl (by decide) rfl (fun ls hl => ?_)
        refine lv_goto (tgt := 2) hx hb dX7_findShades_23 (by decide) ?_
        exact ih (x1) ((x2 + (1 : Int32))) ((zI s2 4 (x2).toNatClampNeg u2)) _ _ _ h hP hS (lv_sub hl [1, 2, 0] rfl)
  have hl : lv_has ls 3 [(0, .ref (a 0)), (1, .int x1)] := hl
  refine lv_iconst (v := 0) hx hb dX7_findShades_0 (by decide) ?_
  refine lv_istore_n (lv' := [(2, .int (0 : Int32)), (0, .ref (a 0)), (1, .int x1)]) hx hb dX7_findShades_1 rfl hl (by decide) rfl (fun ls hl => ?_)
  exact w2  zN (x1) ((0 : Int32)) (s) _ _ _ h hP hS (lv_sub hl [1, 2, 0] rfl)
abbrev rmX7_keepShades : Room := { frames := 0, cells := 0, slots := 0, locals := 0 }
set_option maxHeartbeats 4000000 in
set_option maxRecDepth 100000 in
theorem kX7_keepShades {l : Launch} {D : va_G} {a : Nat → Nat} {cI cJ cC : ClassId}  {s τ : ZS} {r : Unit} (h : fX7_keepShades  s = some (r, τ)) : zMv (zcM a cI cJ cC) 17 a D [(cI, .int), (cJ, .long), (cC, .char)] zEM l yX7_keepShades wsX7_keepShades rmX7_keepShades [.ref (a 0)] s r τ := by
  refine z_start (cc := cX7_keepShades) (maxL := 2) (ret := none) RX7 rfl (by decide) rfl (Nat.le_of_ble_eq_true rfl) ?_
  intro p e st m args below meth c ls H locs X hr hlocks hA hE hP hS hl
  obtain ⟨hx, hb, hml, hown, hts, -⟩ := id X
  have hG := zEM_good
  have inX7 : ∀ w ∈ u_ws RX7 TX7 26, w ∈ wsX7_keepShades := by decide +kernel
  have w2 : ∀  (n : Nat) (x1 : Int32) (s : ZS) (H : Heap) (locs : List Loc) (ls : Array Slot), fX7_keepShades_2n  n (x1, s) = some (r, τ) → va_P D vwCl (zW (zcM a cI cJ cC) 17 a s) H → va_S (zF 17 a st.heap.size) st.heap H locs → lv_has ls 2 [(0, .ref (a 0)), (1, .int x1)] → W p l e rmX7_keepShades st m args below meth c H locs 0 0 (MQ below (va_Qv (fun (τ' : ZS) => τ' = τ) (zPost (zcM a cI cJ cC) 17 a D [(cI, .int), (cJ, .long), (cC, .char)]) (zF 17 a st.heap.size)) args st 0 0 (zF 17 a st.heap.size)) (F0 m 2 ls []) := by
    intro  n
    induction n with
    | zero => intro x1 s H locs ls h; exact zloop_0 h
    | succ n ih =>
      intro x1 s H locs ls h hP hS hl
      have h : fX7_keepShades_2b  (fun x1 s => fX7_keepShades_2n  n (x1, s)) x1 s = some (r, τ) := h
      refine lv_iload_n hx hb dX7_keepShades_2 rfl (lv_at hl 1 rfl) ?_
      refine lv_iconst (v := 3) hx hb dX7_keepShades_3 (by decide) ?_
      refine lv_icmp_ge (tgt := 25) hx hb dX7_keepShades_4 (by decide) (fun c1 => ?_) (fun c1 => ?_)
      · have h := zif_t h c1
        exact z_vret X hP hS hr hlocks h dX7_keepShades_25
      · have h := zif_f h c1
        refine lv_aload_n hx hb dX7_keepShades_7 rfl (lv_at hl 0 rfl) ?_
        refine z_get (C := RX7) (T := TX7) (N := 26) X inX7 hP 0 (by decide) (zcM_0 _ _ _ _ _ _) rfl 6 (by decide) rfl (by decide +kernel) rfl dX7_keepShades_8 ?_
        refine lv_iload_n hx hb dX7_keepShades_11 rfl (lv_at hl 1 rfl) ?_
        refine lv_aload_n hx hb dX7_keepShades_12 rfl (lv_at hl 0 rfl) ?_
        refine z_get (C := RX7) (T := TX7) (N := 26) X inX7 hP 0 (by decide) (zcM_0 _ _ _ _ _ _) rfl 5 (by decide) rfl (by decide +kernel) rfl dX7_keepShades_13 ?_
        refine lv_iload_n hx hb dX7_keepShades_16 rfl (lv_at hl 1 rfl) ?_
        obtain ⟨g2, h⟩ := zg_some h
        refine z_iald X hP 4 0 (by decide) (zcM_4 _ _ _ _ _ _) rfl g2 dX7_keepShades_17 ?_
        obtain ⟨g3, h⟩ := zg_some h
        refine z_iast X hA hP hS 5 0 (by decide) (zcM_5 _ _ _ _) rfl g3 dX7_keepShades_18 (fun H locs hP hS => ?_)
        refine lv_iinc (v := (x1 + (1 : Int32))) (lv' := [(1, .int (x1 + (1 : Int32))), (0, .ref (a 0))]) hx hb dX7_keepShades_19 hl (k := 1) rfl rfl (by decide) rfl (fun ls hl => ?_)
        refine lv_goto (tgt := 2) hx hb dX7_keepShades_22 (by decide) ?_
        exact ih ((x1 + (1 : Int32))) ((zI s 5 (x1).toNatClampNeg ((s).1 4 (x1).toNatClampNeg))) _ _ _ h hP hS (lv_sub hl [1, 0] rfl)
  have hl : lv_has ls 2 [(0, .ref (a 0))] := hl
  refine lv_iconst (v := 0) hx hb dX7_keepShades_0 (by decide) ?_
  refine lv_istore_n (lv' := [(1, .int (0 : Int32)), (0, .ref (a 0))]) hx hb dX7_keepShades_1 rfl hl (by decide) rfl (fun ls hl => ?_)
  exact w2  zN ((0 : Int32)) (s) _ _ _ h hP hS (lv_sub hl [1, 0] rfl)
abbrev rmX7_apartFrom : Room := { frames := 0, cells := 0, slots := 0, locals := 0 }
set_option maxHeartbeats 4000000 in
set_option maxRecDepth 100000 in
theorem kX7_apartFrom {l : Launch} {D : va_G} {a : Nat → Nat} {cI cJ cC : ClassId} {x1 : Int32} {x2 : Int32} {s τ : ZS} {r : Int32} (h : fX7_apartFrom x1 x2 s = some (r, τ)) : zMi (zcM a cI cJ cC) 17 a D [(cI, .int), (cJ, .long), (cC, .char)] zEM l yX7_apartFrom wsX7_apartFrom rmX7_apartFrom [.ref (a 0), .int x1, .int x2] s r τ := by
  refine z_start (cc := cX7_apartFrom) (maxL := 3) (ret := (some .int)) RX7 rfl (by decide) rfl (Nat.le_of_ble_eq_true rfl) ?_
  intro p e st m args below meth c ls H locs X hr hlocks hA hE hP hS hl
  obtain ⟨hx, hb, hml, hown, hts, -⟩ := id X
  have hG := zEM_good
  have hl : lv_has ls 3 [(0, .ref (a 0)), (1, .int x1), (2, .int x2)] := hl
  refine lv_iload_n hx hb dX7_apartFrom_0 rfl (lv_at hl 1 rfl) ?_
  refine lv_iload_n hx hb dX7_apartFrom_1 rfl (lv_at hl 2 rfl) ?_
  refine lv_icmp_le (tgt := 11) hx hb dX7_apartFrom_2 (by decide) (fun c1 => ?_) (fun c1 => ?_)
  · have h := zif_t h c1
    refine lv_iload_n hx hb dX7_apartFrom_11 rfl (lv_at hl 2 rfl) ?_
    refine lv_iload_n hx hb dX7_apartFrom_12 rfl (lv_at hl 1 rfl) ?_
    refine lv_isub hx hb dX7_apartFrom_13 ?_
    exact z_iret X hP hS hr hlocks h dX7_apartFrom_14
  · have h := zif_f h c1
    refine lv_iload_n hx hb dX7_apartFrom_5 rfl (lv_at hl 1 rfl) ?_
    refine lv_iload_n hx hb dX7_apartFrom_6 rfl (lv_at hl 2 rfl) ?_
    refine lv_isub hx hb dX7_apartFrom_7 ?_
    refine lv_goto (tgt := 14) hx hb dX7_apartFrom_8 (by decide) ?_
    exact z_iret X hP hS hr hlocks h dX7_apartFrom_14
