abbrev rmX7_sees : Room := { frames := 5, cells := 0, slots := 0, locals := 112 }
set_option maxHeartbeats 4000000 in
set_option maxRecDepth 100000 in
theorem kX7_sees {l : Launch} {D : va_G} {a : Nat → Nat} {cI cJ cC : ClassId} {x1 : Int32} {x2 : Int32} {x3 : Int32} {x4 : Int32} {x5 : Int32} {s τ : ZS} {r : Int64} (h : fX7_sees x1 x2 x3 x4 x5 s = some (r, τ)) : zMl (zcM a cI cJ cC) 17 a D [(cI, .int), (cJ, .long), (cC, .char)] zEM l yX7_sees wsX7_sees rmX7_sees [.ref (a 0), .int x1, .int x2, .int x3, .int x4, .int x5] s r τ := by
  refine z_start (cc := cX7_sees) (maxL := 6) (ret := (some .long)) RX7 rfl (by decide) rfl (Nat.le_of_ble_eq_true rfl) ?_
  intro p e st m args below meth c ls H locs X hr hlocks hA hE hP hS hl
  obtain ⟨hx, hb, hml, hown, hts, -⟩ := id X
  have hG := zEM_good
  have inX7 : ∀ w ∈ u_ws RX7 TX7 26, w ∈ wsX7_sees := by decide +kernel
  have w87 : ∀  (x5 : Int32) (t0 : Int64) (t1 : Int64) (s : ZS) (H : Heap) (locs : List Loc) (ls : Array Slot), fX7_sees_87  x5 t0 t1 s = some (r, τ) → va_P D vwCl (zW (zcM a cI cJ cC) 17 a s) H → va_S (zF 17 a st.heap.size) st.heap H locs → lv_has ls 6 [(5, .int x5)] → W p l e rmX7_sees st m args below meth c H locs 0 0 (MQ below (va_Ql (fun (r' : Int64) (τ' : ZS) => r' = r ∧ τ' = τ) (zPost (zcM a cI cJ cC) 17 a D [(cI, .int), (cJ, .long), (cC, .char)]) (zF 17 a st.heap.size)) args st 0 0 (zF 17 a st.heap.size)) (F0 m 87 ls [.long t1, .long t0]) := by
    intro  x5 t0 t1 s H locs ls h hP hS hl
    refine lv_iload hx hb dX7_sees_87 (lv_at hl 0 rfl) ?_
    obtain ⟨u1, s1, e1, h⟩ := zb_some h
    refine z_calll hS (z_runS (As := [.long t0, .long t1, .int x5]) (rest := []) X hG hA hE hP hS (kX7_partOf (l := l) (D := D) (a := a) (cI := cI) (cJ := cJ) (cC := cC) e1 _) (va_cwS 3 hts gX7_sees_X7_partOf rfl rfl rfl (by decide +kernel) ⟨Nat.le_of_ble_eq_true rfl, Nat.le_of_ble_eq_true rfl⟩) rfl hl.1 rfl (Nat.le_of_ble_eq_true rfl) dX7_sees_89) (fun H locs hP hS => ?_)
    exact z_lret X hP hS hr hlocks h dX7_sees_92
  have hl : lv_has ls 6 [(0, .ref (a 0)), (1, .int x1), (2, .int x2), (3, .int x3), (4, .int x4), (5, .int x5)] := hl
  refine lv_aload_n hx hb dX7_sees_0 rfl (lv_at hl 0 rfl) ?_
  refine lv_iload_n hx hb dX7_sees_1 rfl (lv_at hl 1 rfl) ?_
  obtain ⟨u1, s1, e1, h⟩ := zb_some h
  refine z_calli hS (z_runV (As := [.int x1]) (rest := []) X hG hA hE hP hS 0 (kX7_isStack (l := l) (D := D) (a := a) (cI := cI) (cJ := cJ) (cC := cC) e1 _) (cwV 1 hts gX7_sees_X7_isStack rfl rfl rfl (by decide +kernel) ⟨Nat.le_of_ble_eq_true rfl, Nat.le_of_ble_eq_true rfl⟩) (by decide) (zcM_0 _ _ _ _ _ _) rfl rfl rfl hl.1 rfl (Nat.le_of_ble_eq_true rfl) dX7_sees_2) (fun H locs hP hS => ?_)
  refine lv_if_eq (tgt := 51) hx hb dX7_sees_5 (by decide) (fun c2 => ?_) (fun c2 => ?_)
  · have h := zif_t h c2
    refine lv_ldc2 (own := RX7) (index := 181) (v := -9223372036854775808) hx hb hown (hts _ (by decide +kernel)) dX7_sees_51 ?_
    exact z_lret X hP hS hr hlocks h dX7_sees_54
  · have h := zif_f h c2
    refine lv_iload_n hx hb dX7_sees_8 rfl (lv_at hl 2 rfl) ?_
    obtain ⟨u3, s3, e3, h⟩ := zb_some h
    refine z_calli hS (z_runS (As := [.int x2]) (rest := []) X hG hA hE hP hS (kX7_isLamp (l := l) (D := D) (a := a) (cI := cI) (cJ := cJ) (cC := cC) e3 _) (va_cwS 1 hts gX7_sees_X7_isLamp rfl rfl rfl (by decide +kernel) ⟨Nat.le_of_ble_eq_true rfl, Nat.le_of_ble_eq_true rfl⟩) rfl hl.1 rfl (Nat.le_of_ble_eq_true rfl) dX7_sees_9) (fun H locs hP hS => ?_)
    refine lv_if_eq (tgt := 51) hx hb dX7_sees_12 (by decide) (fun c4 => ?_) (fun c4 => ?_)
    · have h := zif_t h c4
      refine lv_ldc2 (own := RX7) (index := 181) (v := -9223372036854775808) hx hb hown (hts _ (by decide +kernel)) dX7_sees_51 ?_
      exact z_lret X hP hS hr hlocks h dX7_sees_54
    · have h := zif_f h c4
      refine lv_iload_n hx hb dX7_sees_15 rfl (lv_at hl 3 rfl) ?_
      refine lv_i2l hx hb dX7_sees_16 rfl ?_
      refine lv_lconst (v := 0) hx hb dX7_sees_17 (by decide) ?_
      refine lv_ldc2 (own := RX7) (index := 106) (v := 10) hx hb hown (hts _ (by decide +kernel)) dX7_sees_18 ?_
      obtain ⟨u5, s5, e5, h⟩ := zb_some h
      refine z_calli hS (z_runS (As := [.long (x3).toInt64, .long (0 : Int64), .long (10 : Int64)]) (rest := []) X hG hA hE hP hS (kX7_isIn (l := l) (D := D) (a := a) (cI := cI) (cJ := cJ) (cC := cC) e5 _) (va_cwS 3 hts gX7_sees_X7_isIn rfl rfl rfl (by decide +kernel) ⟨Nat.le_of_ble_eq_true rfl, Nat.le_of_ble_eq_true rfl⟩) rfl hl.1 rfl (Nat.le_of_ble_eq_true rfl) dX7_sees_21) (fun H locs hP hS => ?_)
      refine lv_if_eq (tgt := 51) hx hb dX7_sees_24 (by decide) (fun c6 => ?_) (fun c6 => ?_)
      · have h := zif_t h c6
        refine lv_ldc2 (own := RX7) (index := 181) (v := -9223372036854775808) hx hb hown (hts _ (by decide +kernel)) dX7_sees_51 ?_
        exact z_lret X hP hS hr hlocks h dX7_sees_54
      · have h := zif_f h c6
        refine lv_iload hx hb dX7_sees_27 (lv_at hl 4 rfl) ?_
        refine lv_i2l hx hb dX7_sees_29 rfl ?_
        refine lv_lconst (v := 0) hx hb dX7_sees_30 (by decide) ?_
        refine lv_ldc2 (own := RX7) (index := 66) (v := 2) hx hb hown (hts _ (by decide +kernel)) dX7_sees_31 ?_
        obtain ⟨u7, s7, e7, h⟩ := zb_some h
        refine z_calli hS (z_runS (As := [.long (x4).toInt64, .long (0 : Int64), .long (2 : Int64)]) (rest := []) X hG hA hE hP hS (kX7_isIn (l := l) (D := D) (a := a) (cI := cI) (cJ := cJ) (cC := cC) e7 _) (va_cwS 3 hts gX7_sees_X7_isIn rfl rfl rfl (by decide +kernel) ⟨Nat.le_of_ble_eq_true rfl, Nat.le_of_ble_eq_true rfl⟩) rfl hl.1 rfl (Nat.le_of_ble_eq_true rfl) dX7_sees_34) (fun H locs hP hS => ?_)
        refine lv_if_eq (tgt := 51) hx hb dX7_sees_37 (by decide) (fun c8 => ?_) (fun c8 => ?_)
        · have h := zif_t h c8
          refine lv_ldc2 (own := RX7) (index := 181) (v := -9223372036854775808) hx hb hown (hts _ (by decide +kernel)) dX7_sees_51 ?_
          exact z_lret X hP hS hr hlocks h dX7_sees_54
        · have h := zif_f h c8
          refine lv_iload hx hb dX7_sees_40 (lv_at hl 5 rfl) ?_
          refine lv_i2l hx hb dX7_sees_42 rfl ?_
          refine lv_lconst (v := 0) hx hb dX7_sees_43 (by decide) ?_
          refine lv_lconst (v := 1) hx hb dX7_sees_44 (by decide) ?_
          obtain ⟨u9, s9, e9, h⟩ := zb_some h
          refine z_calli hS (z_runS (As := [.long (x5).toInt64, .long (0 : Int64), .long (1 : Int64)]) (rest := []) X hG hA hE hP hS (kX7_isIn (l := l) (D := D) (a := a) (cI := cI) (cJ := cJ) (cC := cC) e9 _) (va_cwS 3 hts gX7_sees_X7_isIn rfl rfl rfl (by decide +kernel) ⟨Nat.le_of_ble_eq_true rfl, Nat.le_of_ble_eq_true rfl⟩) rfl hl.1 rfl (Nat.le_of_ble_eq_true rfl) dX7_sees_45) (fun H locs hP hS => ?_)
          refine lv_if_ne (tgt := 55) hx hb dX7_sees_48 (by decide) (fun c10 => ?_) (fun c10 => ?_)
          · have h := zif_f h c10
            refine lv_aload_n hx hb dX7_sees_55 rfl (lv_at hl 0 rfl) ?_
            refine lv_iload_n hx hb dX7_sees_56 rfl (lv_at hl 1 rfl) ?_
            obtain ⟨u11, s11, e11, h⟩ := zb_some h
            refine z_callv hS (z_runV (As := [.int x1]) (rest := []) X hG hA hE hP hS 0 (kX7_shines (l := l) (D := D) (a := a) (cI := cI) (cJ := cJ) (cC := cC) e11 _) (cwV 1 hts gX7_sees_X7_shines rfl rfl rfl (by decide +kernel) ⟨Nat.le_of_ble_eq_true rfl, Nat.le_of_ble_eq_true rfl⟩) (by decide) (zcM_0 _ _ _ _ _ _) rfl rfl rfl hl.1 rfl (Nat.le_of_ble_eq_true rfl) dX7_sees_57) (fun H locs hP hS => ?_)
            refine lv_aload_n hx hb dX7_sees_60 rfl (lv_at hl 0 rfl) ?_
            refine lv_iload_n hx hb dX7_sees_61 rfl (lv_at hl 2 rfl) ?_
            refine lv_iload_n hx hb dX7_sees_62 rfl (lv_at hl 3 rfl) ?_
            refine lv_iload hx hb dX7_sees_63 (lv_at hl 4 rfl) ?_
            obtain ⟨u12, s12, e12, h⟩ := zb_some h
            refine z_calll hS (z_runV (As := [.int x2, .int x3, .int x4]) (rest := []) X hG hA hE hP hS 0 (kX7_seen (l := l) (D := D) (a := a) (cI := cI) (cJ := cJ) (cC := cC) e12 _) (cwV 3 hts gX7_sees_X7_seen rfl rfl rfl (by decide +kernel) ⟨Nat.le_of_ble_eq_true rfl, Nat.le_of_ble_eq_true rfl⟩) (by decide) (zcM_0 _ _ _ _ _ _) rfl rfl rfl hl.1 rfl (Nat.le_of_ble_eq_true rfl) dX7_sees_65) (fun H locs hP hS => ?_)
            refine lv_iload_n hx hb dX7_sees_68 rfl (lv_at hl 3 rfl) ?_
            refine lv_if_ne (tgt := 79) hx hb dX7_sees_69 (by decide) (fun c13 => ?_) (fun c13 => ?_)
            · have h := zif_f h c13
              refine lv_ldc2 (own := RX7) (index := 106) (v := 10) hx hb hown (hts _ (by decide +kernel)) dX7_sees_79 ?_
              refine lv_aload_n hx hb dX7_sees_82 rfl (lv_at hl 0 rfl) ?_
              refine z_get (C := RX7) (T := TX7) (N := 26) X inX7 hP 0 (by decide) (zcM_0 _ _ _ _ _ _) rfl 4 (by decide) rfl (by decide +kernel) rfl dX7_sees_83 ?_
              refine lv_lmul hx hb dX7_sees_86 ?_
              exact w87   (x5) (u12) (((10 : Int64) * ((s12).2 0 4))) (s12) _ _ _ h hP hS (lv_sub hl [5] rfl)
            · have h := zif_t h c13
              refine lv_aload_n hx hb dX7_sees_72 rfl (lv_at hl 0 rfl) ?_
              refine z_get (C := RX7) (T := TX7) (N := 26) X inX7 hP 0 (by decide) (zcM_0 _ _ _ _ _ _) rfl 4 (by decide) rfl (by decide +kernel) rfl dX7_sees_73 ?_
              refine lv_goto (tgt := 87) hx hb dX7_sees_76 (by decide) ?_
              exact w87   (x5) (u12) (((s12).2 0 4)) (s12) _ _ _ h hP hS (lv_sub hl [5] rfl)
          · have h := zif_t h c10
            refine lv_ldc2 (own := RX7) (index := 181) (v := -9223372036854775808) hx hb hown (hts _ (by decide +kernel)) dX7_sees_51 ?_
            exact z_lret X hP hS hr hlocks h dX7_sees_54
abbrev rmX7_shade : Room := { frames := 5, cells := 0, slots := 0, locals := 112 }
set_option maxHeartbeats 4000000 in
set_option maxRecDepth 100000 in
theorem kX7_shade {l : Launch} {D : va_G} {a : Nat → Nat} {cI cJ cC : ClassId} {x1 : Int32} {x2 : Int32} {x3 : Int32} {x4 : Int32} {s τ : ZS} {r : Int32} (h : fX7_shade x1 x2 x3 x4 s = some (r, τ)) : zMi (zcM a cI cJ cC) 17 a D [(cI, .int), (cJ, .long), (cC, .char)] zEM l yX7_shade wsX7_shade rmX7_shade [.ref (a 0), .int x1, .int x2, .int x3, .int x4] s r τ := by
  refine z_start (cc := cX7_shade) (maxL := 5) (ret := (some .int)) RX7 rfl (by decide) rfl (Nat.le_of_ble_eq_true rfl) ?_
  intro p e st m args below meth c ls H locs X hr hlocks hA hE hP hS hl
  obtain ⟨hx, hb, hml, hown, hts, -⟩ := id X
  have hG := zEM_good
  have hl : lv_has ls 5 [(0, .ref (a 0)), (1, .int x1), (2, .int x2), (3, .int x3), (4, .int x4)] := hl
  refine lv_aload_n hx hb dX7_shade_0 rfl (lv_at hl 0 rfl) ?_
  refine lv_iload_n hx hb dX7_shade_1 rfl (lv_at hl 1 rfl) ?_
  obtain ⟨u1, s1, e1, h⟩ := zb_some h
  refine z_calli hS (z_runV (As := [.int x1]) (rest := []) X hG hA hE hP hS 0 (kX7_isStack (l := l) (D := D) (a := a) (cI := cI) (cJ := cJ) (cC := cC) e1 _) (cwV 1 hts gX7_shade_X7_isStack rfl rfl rfl (by decide +kernel) ⟨Nat.le_of_ble_eq_true rfl, Nat.le_of_ble_eq_true rfl⟩) (by decide) (zcM_0 _ _ _ _ _ _) rfl rfl rfl hl.1 rfl (Nat.le_of_ble_eq_true rfl) dX7_shade_2) (fun H locs hP hS => ?_)
  refine lv_if_eq (tgt := 40) hx hb dX7_shade_5 (by decide) (fun c2 => ?_) (fun c2 => ?_)
  · have h := zif_t h c2
    refine lv_iconst (v := -1) hx hb dX7_shade_40 (by decide) ?_
    exact z_iret X hP hS hr hlocks h dX7_shade_41
  · have h := zif_f h c2
    refine lv_iload_n hx hb dX7_shade_8 rfl (lv_at hl 2 rfl) ?_
    obtain ⟨u3, s3, e3, h⟩ := zb_some h
    refine z_calli hS (z_runS (As := [.int x2]) (rest := []) X hG hA hE hP hS (kX7_isLamp (l := l) (D := D) (a := a) (cI := cI) (cJ := cJ) (cC := cC) e3 _) (va_cwS 1 hts gX7_shade_X7_isLamp rfl rfl rfl (by decide +kernel) ⟨Nat.le_of_ble_eq_true rfl, Nat.le_of_ble_eq_true rfl⟩) rfl hl.1 rfl (Nat.le_of_ble_eq_true rfl) dX7_shade_9) (fun H locs hP hS => ?_)
    refine lv_if_eq (tgt := 40) hx hb dX7_shade_12 (by decide) (fun c4 => ?_) (fun c4 => ?_)
    · have h := zif_t h c4
      refine lv_iconst (v := -1) hx hb dX7_shade_40 (by decide) ?_
      exact z_iret X hP hS hr hlocks h dX7_shade_41
    · have h := zif_f h c4
      refine lv_iload_n hx hb dX7_shade_15 rfl (lv_at hl 3 rfl) ?_
      refine lv_i2l hx hb dX7_shade_16 rfl ?_
      refine lv_lconst (v := 0) hx hb dX7_shade_17 (by decide) ?_
      refine lv_ldc2 (own := RX7) (index := 106) (v := 10) hx hb hown (hts _ (by decide +kernel)) dX7_shade_18 ?_
      obtain ⟨u5, s5, e5, h⟩ := zb_some h
      refine z_calli hS (z_runS (As := [.long (x3).toInt64, .long (0 : Int64), .long (10 : Int64)]) (rest := []) X hG hA hE hP hS (kX7_isIn (l := l) (D := D) (a := a) (cI := cI) (cJ := cJ) (cC := cC) e5 _) (va_cwS 3 hts gX7_shade_X7_isIn rfl rfl rfl (by decide +kernel) ⟨Nat.le_of_ble_eq_true rfl, Nat.le_of_ble_eq_true rfl⟩) rfl hl.1 rfl (Nat.le_of_ble_eq_true rfl) dX7_shade_21) (fun H locs hP hS => ?_)
      refine lv_if_eq (tgt := 40) hx hb dX7_shade_24 (by decide) (fun c6 => ?_) (fun c6 => ?_)
      · have h := zif_t h c6
        refine lv_iconst (v := -1) hx hb dX7_shade_40 (by decide) ?_
        exact z_iret X hP hS hr hlocks h dX7_shade_41
      · have h := zif_f h c6
        refine lv_iload hx hb dX7_shade_27 (lv_at hl 4 rfl) ?_
        refine lv_i2l hx hb dX7_shade_29 rfl ?_
        refine lv_lconst (v := 0) hx hb dX7_shade_30 (by decide) ?_
        refine lv_ldc2 (own := RX7) (index := 66) (v := 2) hx hb hown (hts _ (by decide +kernel)) dX7_shade_31 ?_
        obtain ⟨u7, s7, e7, h⟩ := zb_some h
        refine z_calli hS (z_runS (As := [.long (x4).toInt64, .long (0 : Int64), .long (2 : Int64)]) (rest := []) X hG hA hE hP hS (kX7_isIn (l := l) (D := D) (a := a) (cI := cI) (cJ := cJ) (cC := cC) e7 _) (va_cwS 3 hts gX7_shade_X7_isIn rfl rfl rfl (by decide +kernel) ⟨Nat.le_of_ble_eq_true rfl, Nat.le_of_ble_eq_true rfl⟩) rfl hl.1 rfl (Nat.le_of_ble_eq_true rfl) dX7_shade_34) (fun H locs hP hS => ?_)
        refine lv_if_ne (tgt := 42) hx hb dX7_shade_37 (by decide) (fun c8 => ?_) (fun c8 => ?_)
        · have h := zif_f h c8
          refine lv_aload_n hx hb dX7_shade_42 rfl (lv_at hl 0 rfl) ?_
          refine lv_iload_n hx hb dX7_shade_43 rfl (lv_at hl 1 rfl) ?_
          obtain ⟨u9, s9, e9, h⟩ := zb_some h
          refine z_callv hS (z_runV (As := [.int x1]) (rest := []) X hG hA hE hP hS 0 (kX7_shines (l := l) (D := D) (a := a) (cI := cI) (cJ := cJ) (cC := cC) e9 _) (cwV 1 hts gX7_shade_X7_shines rfl rfl rfl (by decide +kernel) ⟨Nat.le_of_ble_eq_true rfl, Nat.le_of_ble_eq_true rfl⟩) (by decide) (zcM_0 _ _ _ _ _ _) rfl rfl rfl hl.1 rfl (Nat.le_of_ble_eq_true rfl) dX7_shade_44) (fun H locs hP hS => ?_)
          refine lv_aload_n hx hb dX7_shade_47 rfl (lv_at hl 0 rfl) ?_
          refine lv_iload_n hx hb dX7_shade_48 rfl (lv_at hl 2 rfl) ?_
          refine lv_iload_n hx hb dX7_shade_49 rfl (lv_at hl 3 rfl) ?_
          refine lv_iload hx hb dX7_shade_50 (lv_at hl 4 rfl) ?_
          obtain ⟨u10, s10, e10, h⟩ := zb_some h
          refine z_calli hS (z_runV (As := [.int x2, .int x3, .int x4]) (rest := []) X hG hA hE hP hS 0 (kX7_shadeOf (l := l) (D := D) (a := a) (cI := cI) (cJ := cJ) (cC := cC) e10 _) (cwV 3 hts gX7_shade_X7_shadeOf rfl rfl rfl (by decide +kernel) ⟨Nat.le_of_ble_eq_true rfl, Nat.le_of_ble_eq_true rfl⟩) (by decide) (zcM_0 _ _ _ _ _ _) rfl rfl rfl hl.1 rfl (Nat.le_of_ble_eq_true rfl) dX7_shade_52) (fun H locs hP hS => ?_)
          exact z_iret X hP hS hr hlocks h dX7_shade_55
        · have h := zif_t h c8
          refine lv_iconst (v := -1) hx hb dX7_shade_40 (by decide) ?_
          exact z_iret X hP hS hr hlocks h dX7_shade_41
abbrev rmX7_findSeen : Room := { frames := 5, cells := 0, slots := 0, locals := 112 }
set_option maxHeartbeats 4000000 in
set_option maxRecDepth 100000 in
theorem kX7_findSeen {l : Launch} {D : va_G} {a : Nat → Nat} {cI cJ cC : ClassId} {x1 : Int32} {x2 : Int32} {s τ : ZS} {r : Unit} (h : fX7_findSeen x1 x2 s = some (r, τ)) : zMv (zcM a cI cJ cC) 17 a D [(cI, .int), (cJ, .long), (cC, .char)] zEM l yX7_findSeen wsX7_findSeen rmX7_findSeen [.ref (a 0), .int x1, .int x2] s r τ := by
  refine z_start (cc := cX7_findSeen) (maxL := 6) (ret := none) RX7 rfl (by decide) rfl (Nat.le_of_ble_eq_true rfl) ?_
  intro p e st m args below meth c ls H locs X hr hlocks hA hE hP hS hl
  obtain ⟨hx, hb, hml, hown, hts, -⟩ := id X
  have hG := zEM_good
  have inX7 : ∀ w ∈ u_ws RX7 TX7 26, w ∈ wsX7_findSeen := by decide +kernel
  have w36 : ∀  (n : Nat) (x2 : Int32) (x3 : Int64) (x5 : Int32) (s : ZS) (H : Heap) (locs : List Loc) (ls : Array Slot), fX7_findSeen_36n  n (x2, x3, x5, s) = some (r, τ) → va_P D vwCl (zW (zcM a cI cJ cC) 17 a s) H → va_S (zF 17 a st.heap.size) st.heap H locs → lv_has ls 6 [(0, .ref (a 0)), (2, .int x2), (3, .long x3), (5, .int x5)] → W p l e rmX7_findSeen st m args below meth c H locs 0 0 (MQ below (va_Qv (fun (τ' : ZS) => τ' = τ) (zPost (zcM a cI cJ cC) 17 a D [(cI, .int), (cJ, .long), (cC, .char)]) (zF 17 a st.heap.size)) args st 0 0 (zF 17 a st.heap.size)) (F0 m 36 ls []) := by
    intro  n
    induction n with
    | zero => intro x2 x3 x5 s H locs ls h; exact zloop_0 h
    | succ n ih =>
      intro x2 x3 x5 s H locs ls h hP hS hl
      have h : fX7_findSeen_36b  (fun x2 x3 x5 s => fX7_findSeen_36n  n (x2, x3, x5, s)) x2 x3 x5 s = some (r, τ) := h
      refine lv_iload hx hb dX7_findSeen_36 (lv_at hl 3 rfl) ?_
      refine lv_iconst (v := 3) hx hb dX7_findSeen_38 (by decide) ?_
      refine lv_icmp_ge (tgt := 65) hx hb dX7_findSeen_39 (by decide) (fun c1 => ?_) (fun c1 => ?_)
      · have h := zif_t h c1
        exact z_vret X hP hS hr hlocks h dX7_findSeen_65
      · have h := zif_f h c1
        refine lv_aload_n hx hb dX7_findSeen_42 rfl (lv_at hl 0 rfl) ?_
        refine z_get (C := RX7) (T := TX7) (N := 26) X inX7 hP 0 (by decide) (zcM_0 _ _ _ _ _ _) rfl 16 (by decide) rfl (by decide +kernel) rfl dX7_findSeen_43 ?_
        refine lv_iload hx hb dX7_findSeen_46 (lv_at hl 3 rfl) ?_
        refine lv_aload_n hx hb dX7_findSeen_48 rfl (lv_at hl 0 rfl) ?_
        refine lv_iload_n hx hb dX7_findSeen_49 rfl (lv_at hl 1 rfl) ?_
        refine lv_iconst (v := 0) hx hb dX7_findSeen_50 (by decide) ?_
        refine lv_iload hx hb dX7_findSeen_51 (lv_at hl 3 rfl) ?_
        obtain ⟨u2, s2, e2, h⟩ := zb_some h
        refine z_calll hS (z_runV (As := [.int x2, .int (0 : Int32), .int x5]) (rest := [.int x5, .ref (a 11)]) X hG hA hE hP hS 0 (kX7_seen (l := l) (D := D) (a := a) (cI := cI) (cJ := cJ) (cC := cC) e2 _) (cwV 3 hts gX7_findSeen_X7_seen rfl rfl rfl (by decide +kernel) ⟨Nat.le_of_ble_eq_true rfl, Nat.le_of_ble_eq_true rfl⟩) (by decide) (zcM_0 _ _ _ _ _ _) rfl rfl rfl hl.1 rfl (Nat.le_of_ble_eq_true rfl) dX7_findSeen_53) (fun H locs hP hS => ?_)
        refine lv_lload_n hx hb dX7_findSeen_56 rfl (lv_at hl 2 rfl) ?_
        refine lv_lmul hx hb dX7_findSeen_57 ?_
        obtain ⟨g3, h⟩ := zg_some h
        refine z_last X hA hP hS 11 1 (by decide) (zcM_11 _ _ _ _) rfl g3 dX7_findSeen_58 (fun H locs hP hS => ?_)
        refine lv_iinc (v := (x5 + (1 : Int32))) (lv' := [(5, .int (x5 + (1 : Int32))), (0, .ref (a 0)), (2, .int x2), (3, .long x3)]) hx hb dX7_findSeen_59 hl (k := 3) rfl rfl (by decide) rfl (fun ls hl => ?_)
        refine lv_goto (tgt := 36) hx hb dX7_findSeen_62 (by decide) ?_
        exact ih (x2) (x3) ((x5 + (1 : Int32))) ((zL s2 11 (x5).toNatClampNeg (u2 * x3))) _ _ _ h hP hS (lv_sub hl [1, 2, 3, 0] rfl)
  have w14 : ∀  (n : Nat) (x2 : Int32) (x3 : Int64) (x5 : Int32) (s : ZS) (H : Heap) (locs : List Loc) (ls : Array Slot), fX7_findSeen_14n  n (x2, x3, x5, s) = some (r, τ) → va_P D vwCl (zW (zcM a cI cJ cC) 17 a s) H → va_S (zF 17 a st.heap.size) st.heap H locs → lv_has ls 6 [(0, .ref (a 0)), (2, .int x2), (3, .long x3), (5, .int x5)] → W p l e rmX7_findSeen st m args below meth c H locs 0 0 (MQ below (va_Qv (fun (τ' : ZS) => τ' = τ) (zPost (zcM a cI cJ cC) 17 a D [(cI, .int), (cJ, .long), (cC, .char)]) (zF 17 a st.heap.size)) args st 0 0 (zF 17 a st.heap.size)) (F0 m 14 ls []) := by
    intro  n
    induction n with
    | zero => intro x2 x3 x5 s H locs ls h; exact zloop_0 h
    | succ n ih =>
      intro x2 x3 x5 s H locs ls h hP hS hl
      have h : fX7_findSeen_14b  (fun x2 x3 x5 s => fX7_findSeen_14n  n (x2, x3, x5, s)) x2 x3 x5 s = some (r, τ) := h
      refine lv_iload hx hb dX7_findSeen_14 (lv_at hl 3 rfl) ?_
      refine lv_bipush (v := 6) hx hb dX7_findSeen_16 (by decide) ?_
      refine lv_icmp_ge (tgt := 33) hx hb dX7_findSeen_18 (by decide) (fun c1 => ?_) (fun c1 => ?_)
      · have h := zif_t h c1
        refine lv_iconst (v := 0) hx hb dX7_findSeen_33 (by decide) ?_
        refine lv_istore (lv' := [(5, .int (0 : Int32)), (0, .ref (a 0)), (2, .int x2), (3, .long x3)]) hx hb dX7_findSeen_34 hl (by decide) rfl (fun ls hl => ?_)
        exact w36  zN (x2) (x3) ((0 : Int32)) (s) _ _ _ h hP hS (lv_sub hl [1, 2, 3, 0] rfl)
      · have h := zif_f h c1
        refine lv_lload_n hx hb dX7_findSeen_21 rfl (lv_at hl 2 rfl) ?_
        refine lv_ldc2 (own := RX7) (index := 88) (v := 100) hx hb hown (hts _ (by decide +kernel)) dX7_findSeen_22 ?_
        refine lv_lmul hx hb dX7_findSeen_25 ?_
        refine lv_lstore_n (lv' := [(3, .long (x3 * (100 : Int64))), (0, .ref (a 0)), (2, .int x2), (5, .int x5)]) hx hb dX7_findSeen_26 rfl hl (by decide) rfl (fun ls hl => ?_)
        refine lv_iinc (v := (x5 + (1 : Int32))) (lv' := [(5, .int (x5 + (1 : Int32))), (3, .long (x3 * (100 : Int64))), (0, .ref (a 0)), (2, .int x2)]) hx hb dX7_findSeen_27 hl (k := 3) rfl rfl (by decide) rfl (fun ls hl => ?_)
        refine lv_goto (tgt := 14) hx hb dX7_findSeen_30 (by decide) ?_
        exact ih (x2) ((x3 * (100 : Int64))) ((x5 + (1 : Int32))) (s) _ _ _ h hP hS (lv_sub hl [2, 3, 1, 0] rfl)
  have hl : lv_has ls 6 [(0, .ref (a 0)), (1, .int x1), (2, .int x2)] := hl
  refine lv_aload_n hx hb dX7_findSeen_0 rfl (lv_at hl 0 rfl) ?_
  refine lv_iload_n hx hb dX7_findSeen_1 rfl (lv_at hl 1 rfl) ?_
  obtain ⟨u1, s1, e1, h⟩ := zb_some h
  refine z_callv hS (z_runV (As := [.int x1]) (rest := []) X hG hA hE hP hS 0 (kX7_shines (l := l) (D := D) (a := a) (cI := cI) (cJ := cJ) (cC := cC) e1 _) (cwV 1 hts gX7_findSeen_X7_shines rfl rfl rfl (by decide +kernel) ⟨Nat.le_of_ble_eq_true rfl, Nat.le_of_ble_eq_true rfl⟩) (by decide) (zcM_0 _ _ _ _ _ _) rfl rfl rfl hl.1 rfl (Nat.le_of_ble_eq_true rfl) dX7_findSeen_2) (fun H locs hP hS => ?_)
  refine lv_lconst (v := 1) hx hb dX7_findSeen_5 (by decide) ?_
  refine lv_lstore_n (lv' := [(3, .long (1 : Int64)), (0, .ref (a 0)), (1, .int x1), (2, .int x2)]) hx hb dX7_findSeen_6 rfl hl (by decide) rfl (fun ls hl => ?_)
  refine lv_aload_n hx hb dX7_findSeen_7 rfl (lv_at hl 1 rfl) ?_
  refine lv_iload_n hx hb dX7_findSeen_8 rfl (lv_at hl 2 rfl) ?_
  obtain ⟨u2, s2, e2, h⟩ := zb_some h
  refine z_calli hS (z_runV (As := [.int x1]) (rest := []) X hG hA hE hP hS 0 (kX7_size (l := l) (D := D) (a := a) (cI := cI) (cJ := cJ) (cC := cC) e2 _) (cwV 1 hts gX7_findSeen_X7_size rfl rfl rfl (by decide +kernel) ⟨Nat.le_of_ble_eq_true rfl, Nat.le_of_ble_eq_true rfl⟩) (by decide) (zcM_0 _ _ _ _ _ _) rfl rfl rfl hl.1 rfl (Nat.le_of_ble_eq_true rfl) dX7_findSeen_9) (fun H locs hP hS => ?_)
  refine lv_istore (lv' := [(5, .int u2), (3, .long (1 : Int64)), (0, .ref (a 0)), (1, .int x1), (2, .int x2)]) hx hb dX7_findSeen_12 hl (by decide) rfl (fun ls hl => ?_)
  exact w14  zN (x2) ((1 : Int64)) (u2) (s2) _ _ _ h hP hS (lv_sub hl [2, 4, 1, 0] rfl)
abbrev rmX7_areAlike : Room := { frames := 6, cells := 0, slots := 0, locals := 137 }
set_option maxHeartbeats 4000000 in
set_option maxRecDepth 100000 in
theorem kX7_areAlike {l : Launch} {D : va_G} {a : Nat → Nat} {cI cJ cC : ClassId} {x1 : Int32} {x2 : Int32} {x3 : Int32} {s τ : ZS} {r : Int32} (h : fX7_areAlike x1 x2 x3 s = some (r, τ)) : zMi (zcM a cI cJ cC) 17 a D [(cI, .int), (cJ, .long), (cC, .char)] zEM l yX7_areAlike wsX7_areAlike rmX7_areAlike [.ref (a 0), .int x1, .int x2, .int x3] s r τ := by
  refine z_start (cc := cX7_areAlike) (maxL := 10) (ret := (some .boolean)) RX7 rfl (by decide) rfl (Nat.le_of_ble_eq_true rfl) ?_
  intro p e st m args below meth c ls H locs X hr hlocks hA hE hP hS hl
  obtain ⟨hx, hb, hml, hown, hts, -⟩ := id X
  have hG := zEM_good
  have inX7 : ∀ w ∈ u_ws RX7 TX7 26, w ∈ wsX7_areAlike := by decide +kernel
  have hl : lv_has ls 10 [(0, .ref (a 0)), (1, .int x1), (2, .int x2), (3, .int x3)] := hl
  refine lv_aload_n hx hb dX7_areAlike_0 rfl (lv_at hl 0 rfl) ?_
  refine lv_iload_n hx hb dX7_areAlike_1 rfl (lv_at hl 1 rfl) ?_
  refine lv_iload_n hx hb dX7_areAlike_2 rfl (lv_at hl 3 rfl) ?_
  obtain ⟨u1, s1, e1, h⟩ := zb_some h
  refine z_callv hS (z_runV (As := [.int x1, .int x3]) (rest := []) X hG hA hE hP hS 0 (kX7_findSeen (l := l) (D := D) (a := a) (cI := cI) (cJ := cJ) (cC := cC) e1 _) (cwV 2 hts gX7_areAlike_X7_findSeen rfl rfl rfl (by decide +kernel) ⟨Nat.le_of_ble_eq_true rfl, Nat.le_of_ble_eq_true rfl⟩) (by decide) (zcM_0 _ _ _ _ _ _) rfl rfl rfl hl.1 rfl (Nat.le_of_ble_eq_true rfl) dX7_areAlike_3) (fun H locs hP hS => ?_)
  refine lv_aload_n hx hb dX7_areAlike_6 rfl (lv_at hl 0 rfl) ?_
  refine z_get (C := RX7) (T := TX7) (N := 26) X inX7 hP 0 (by decide) (zcM_0 _ _ _ _ _ _) rfl 16 (by decide) rfl (by decide +kernel) rfl dX7_areAlike_7 ?_
  refine lv_iconst (v := 0) hx hb dX7_areAlike_10 (by decide) ?_
  obtain ⟨g2, h⟩ := zg_some h
  refine z_lald X hP 11 1 (by decide) (zcM_11 _ _ _ _ _ _) rfl g2 dX7_areAlike_11 ?_
  refine lv_lstore (lv' := [(4, .long ((s1).2 11 ((0 : Int32)).toNatClampNeg)), (0, .ref (a 0)), (1, .int x1), (2, .int x2), (3, .int x3)]) hx hb dX7_areAlike_12 hl (by decide) rfl (fun ls hl => ?_)
  refine lv_aload_n hx hb dX7_areAlike_14 rfl (lv_at hl 1 rfl) ?_
  refine z_get (C := RX7) (T := TX7) (N := 26) X inX7 hP 0 (by decide) (zcM_0 _ _ _ _ _ _) rfl 16 (by decide) rfl (by decide +kernel) rfl dX7_areAlike_15 ?_
  refine lv_iconst (v := 1) hx hb dX7_areAlike_18 (by decide) ?_
  obtain ⟨g3, h⟩ := zg_some h
  refine z_lald X hP 11 1 (by decide) (zcM_11 _ _ _ _ _ _) rfl g3 dX7_areAlike_19 ?_
  refine lv_lstore (lv' := [(6, .long ((s1).2 11 ((1 : Int32)).toNatClampNeg)), (4, .long ((s1).2 11 ((0 : Int32)).toNatClampNeg)), (0, .ref (a 0)), (1, .int x1), (2, .int x2), (3, .int x3)]) hx hb dX7_areAlike_20 hl (by decide) rfl (fun ls hl => ?_)
  refine lv_aload_n hx hb dX7_areAlike_22 rfl (lv_at hl 2 rfl) ?_
  refine z_get (C := RX7) (T := TX7) (N := 26) X inX7 hP 0 (by decide) (zcM_0 _ _ _ _ _ _) rfl 16 (by decide) rfl (by decide +kernel) rfl dX7_areAlike_23 ?_
  refine lv_iconst (v := 2) hx hb dX7_areAlike_26 (by decide) ?_
  obtain ⟨g4, h⟩ := zg_some h
  refine z_lald X hP 11 1 (by decide) (zcM_11 _ _ _ _ _ _) rfl g4 dX7_areAlike_27 ?_
  refine lv_lstore (lv' := [(8, .long ((s1).2 11 ((2 : Int32)).toNatClampNeg)), (6, .long ((s1).2 11 ((1 : Int32)).toNatClampNeg)), (4, .long ((s1).2 11 ((0 : Int32)).toNatClampNeg)), (0, .ref (a 0)), (1, .int x1), (2, .int x2), (3, .int x3)]) hx hb dX7_areAlike_28 hl (by decide) rfl (fun ls hl => ?_)
  refine lv_aload_n hx hb dX7_areAlike_30 rfl (lv_at hl 3 rfl) ?_
  refine lv_iload_n hx hb dX7_areAlike_31 rfl (lv_at hl 5 rfl) ?_
  refine lv_iload_n hx hb dX7_areAlike_32 rfl (lv_at hl 6 rfl) ?_
  obtain ⟨u5, s5, e5, h⟩ := zb_some h
  refine z_callv hS (z_runV (As := [.int x2, .int x3]) (rest := []) X hG hA hE hP hS 0 (kX7_findSeen (l := l) (D := D) (a := a) (cI := cI) (cJ := cJ) (cC := cC) e5 _) (cwV 2 hts gX7_areAlike_X7_findSeen rfl rfl rfl (by decide +kernel) ⟨Nat.le_of_ble_eq_true rfl, Nat.le_of_ble_eq_true rfl⟩) (by decide) (zcM_0 _ _ _ _ _ _) rfl rfl rfl hl.1 rfl (Nat.le_of_ble_eq_true rfl) dX7_areAlike_33) (fun H locs hP hS => ?_)
  refine lv_lload hx hb dX7_areAlike_36 (lv_at hl 2 rfl) ?_
  refine lv_aload_n hx hb dX7_areAlike_38 rfl (lv_at hl 3 rfl) ?_
  refine z_get (C := RX7) (T := TX7) (N := 26) X inX7 hP 0 (by decide) (zcM_0 _ _ _ _ _ _) rfl 16 (by decide) rfl (by decide +kernel) rfl dX7_areAlike_39 ?_
  refine lv_iconst (v := 0) hx hb dX7_areAlike_42 (by decide) ?_
  obtain ⟨g6, h⟩ := zg_some h
  refine z_lald X hP 11 1 (by decide) (zcM_11 _ _ _ _ _ _) rfl g6 dX7_areAlike_43 ?_
  refine W.lcmp hx hb dX7_areAlike_44 ?_
  refine lv_if_ne (tgt := 76) hx hb dX7_areAlike_45 (by decide) (fun c7 => ?_) (fun c7 => ?_)
  · have h := zif_f h c7
    refine lv_iconst (v := 0) hx hb dX7_areAlike_76 (by decide) ?_
    exact z_zret X hP hS hr hlocks (by decide) h dX7_areAlike_77
  · have h := zif_t h c7
    refine lv_lload hx hb dX7_areAlike_48 (lv_at hl 1 rfl) ?_
    refine lv_aload_n hx hb dX7_areAlike_50 rfl (lv_at hl 3 rfl) ?_
    refine z_get (C := RX7) (T := TX7) (N := 26) X inX7 hP 0 (by decide) (zcM_0 _ _ _ _ _ _) rfl 16 (by decide) rfl (by decide +kernel) rfl dX7_areAlike_51 ?_
    refine lv_iconst (v := 1) hx hb dX7_areAlike_54 (by decide) ?_
    obtain ⟨g8, h⟩ := zg_some h
    refine z_lald X hP 11 1 (by decide) (zcM_11 _ _ _ _ _ _) rfl g8 dX7_areAlike_55 ?_
    refine W.lcmp hx hb dX7_areAlike_56 ?_
    refine lv_if_ne (tgt := 76) hx hb dX7_areAlike_57 (by decide) (fun c9 => ?_) (fun c9 => ?_)
    · have h := zif_f h c9
      refine lv_iconst (v := 0) hx hb dX7_areAlike_76 (by decide) ?_
      exact z_zret X hP hS hr hlocks (by decide) h dX7_areAlike_77
    · have h := zif_t h c9
      refine lv_lload hx hb dX7_areAlike_60 (lv_at hl 0 rfl) ?_
      refine lv_aload_n hx hb dX7_areAlike_62 rfl (lv_at hl 3 rfl) ?_
      refine z_get (C := RX7) (T := TX7) (N := 26) X inX7 hP 0 (by decide) (zcM_0 _ _ _ _ _ _) rfl 16 (by decide) rfl (by decide +kernel) rfl dX7_areAlike_63 ?_
      refine lv_iconst (v := 2) hx hb dX7_areAlike_66 (by decide) ?_
      obtain ⟨g10, h⟩ := zg_some h
      refine z_lald X hP 11 1 (by decide) (zcM_11 _ _ _ _ _ _) rfl g10 dX7_areAlike_67 ?_
      refine W.lcmp hx hb dX7_areAlike_68 ?_
      refine lv_if_ne (tgt := 76) hx hb dX7_areAlike_69 (by decide) (fun c11 => ?_) (fun c11 => ?_)
      · have h := zif_f h c11
        refine lv_iconst (v := 0) hx hb dX7_areAlike_76 (by decide) ?_
        exact z_zret X hP hS hr hlocks (by decide) h dX7_areAlike_77
      · have h := zif_t h c11
        refine lv_iconst (v := 1) hx hb dX7_areAlike_72 (by decide) ?_
        refine lv_goto (tgt := 77) hx hb dX7_areAlike_73 (by decide) ?_
        exact z_zret X hP hS hr hlocks (by decide) h dX7_areAlike_77
abbrev rmX7_alike : Room := { frames := 7, cells := 0, slots := 0, locals := 166 }
set_option maxHeartbeats 4000000 in
set_option maxRecDepth 100000 in
theorem kX7_alike {l : Launch} {D : va_G} {a : Nat → Nat} {cI cJ cC : ClassId} {x1 : Int32} {x2 : Int32} {x3 : Int32} {s τ : ZS} {r : Int32} (h : fX7_alike x1 x2 x3 s = some (r, τ)) : zMi (zcM a cI cJ cC) 17 a D [(cI, .int), (cJ, .long), (cC, .char)] zEM l yX7_alike wsX7_alike rmX7_alike [.ref (a 0), .int x1, .int x2, .int x3] s r τ := by
  refine z_start (cc := cX7_alike) (maxL := 4) (ret := (some .int)) RX7 rfl (by decide) rfl (Nat.le_of_ble_eq_true rfl) ?_
  intro p e st m args below meth c ls H locs X hr hlocks hA hE hP hS hl
  obtain ⟨hx, hb, hml, hown, hts, -⟩ := id X
  have hG := zEM_good
  have hl : lv_has ls 4 [(0, .ref (a 0)), (1, .int x1), (2, .int x2), (3, .int x3)] := hl
  refine lv_aload_n hx hb dX7_alike_0 rfl (lv_at hl 0 rfl) ?_
  refine lv_iload_n hx hb dX7_alike_1 rfl (lv_at hl 1 rfl) ?_
  obtain ⟨u1, s1, e1, h⟩ := zb_some h
  refine z_calli hS (z_runV (As := [.int x1]) (rest := []) X hG hA hE hP hS 0 (kX7_isStack (l := l) (D := D) (a := a) (cI := cI) (cJ := cJ) (cC := cC) e1 _) (cwV 1 hts gX7_alike_X7_isStack rfl rfl rfl (by decide +kernel) ⟨Nat.le_of_ble_eq_true rfl, Nat.le_of_ble_eq_true rfl⟩) (by decide) (zcM_0 _ _ _ _ _ _) rfl rfl rfl hl.1 rfl (Nat.le_of_ble_eq_true rfl) dX7_alike_2) (fun H locs hP hS => ?_)
  refine lv_if_eq (tgt := 23) hx hb dX7_alike_5 (by decide) (fun c2 => ?_) (fun c2 => ?_)
  · have h := zif_t h c2
    refine lv_iconst (v := -1) hx hb dX7_alike_23 (by decide) ?_
    exact z_iret X hP hS hr hlocks h dX7_alike_24
  · have h := zif_f h c2
    refine lv_aload_n hx hb dX7_alike_8 rfl (lv_at hl 0 rfl) ?_
    refine lv_iload_n hx hb dX7_alike_9 rfl (lv_at hl 2 rfl) ?_
    obtain ⟨u3, s3, e3, h⟩ := zb_some h
    refine z_calli hS (z_runV (As := [.int x2]) (rest := []) X hG hA hE hP hS 0 (kX7_isStack (l := l) (D := D) (a := a) (cI := cI) (cJ := cJ) (cC := cC) e3 _) (cwV 1 hts gX7_alike_X7_isStack rfl rfl rfl (by decide +kernel) ⟨Nat.le_of_ble_eq_true rfl, Nat.le_of_ble_eq_true rfl⟩) (by decide) (zcM_0 _ _ _ _ _ _) rfl rfl rfl hl.1 rfl (Nat.le_of_ble_eq_true rfl) dX7_alike_10) (fun H locs hP hS => ?_)
    refine lv_if_eq (tgt := 23) hx hb dX7_alike_13 (by decide) (fun c4 => ?_) (fun c4 => ?_)
    · have h := zif_t h c4
      refine lv_iconst (v := -1) hx hb dX7_alike_23 (by decide) ?_
      exact z_iret X hP hS hr hlocks h dX7_alike_24
    · have h := zif_f h c4
      refine lv_iload_n hx hb dX7_alike_16 rfl (lv_at hl 3 rfl) ?_
      obtain ⟨u5, s5, e5, h⟩ := zb_some h
      refine z_calli hS (z_runS (As := [.int x3]) (rest := []) X hG hA hE hP hS (kX7_isLamp (l := l) (D := D) (a := a) (cI := cI) (cJ := cJ) (cC := cC) e5 _) (va_cwS 1 hts gX7_alike_X7_isLamp rfl rfl rfl (by decide +kernel) ⟨Nat.le_of_ble_eq_true rfl, Nat.le_of_ble_eq_true rfl⟩) rfl hl.1 rfl (Nat.le_of_ble_eq_true rfl) dX7_alike_17) (fun H locs hP hS => ?_)
      refine lv_if_ne (tgt := 25) hx hb dX7_alike_20 (by decide) (fun c6 => ?_) (fun c6 => ?_)
      · have h := zif_f h c6
        refine lv_aload_n hx hb dX7_alike_25 rfl (lv_at hl 0 rfl) ?_
        refine lv_iload_n hx hb dX7_alike_26 rfl (lv_at hl 1 rfl) ?_
        refine lv_iload_n hx hb dX7_alike_27 rfl (lv_at hl 2 rfl) ?_
        refine lv_iload_n hx hb dX7_alike_28 rfl (lv_at hl 3 rfl) ?_
        obtain ⟨u7, s7, e7, h⟩ := zb_some h
        refine z_calli hS (z_runV (As := [.int x1, .int x2, .int x3]) (rest := []) X hG hA hE hP hS 0 (kX7_areAlike (l := l) (D := D) (a := a) (cI := cI) (cJ := cJ) (cC := cC) e7 _) (cwV 3 hts gX7_alike_X7_areAlike rfl rfl rfl (by decide +kernel) ⟨Nat.le_of_ble_eq_true rfl, Nat.le_of_ble_eq_true rfl⟩) (by decide) (zcM_0 _ _ _ _ _ _) rfl rfl rfl hl.1 rfl (Nat.le_of_ble_eq_true rfl) dX7_alike_29) (fun H locs hP hS => ?_)
        refine lv_if_eq (tgt := 39) hx hb dX7_alike_32 (by decide) (fun c8 => ?_) (fun c8 => ?_)
        · have h := zif_t h c8
          refine lv_iconst (v := 0) hx hb dX7_alike_39 (by decide) ?_
          exact z_iret X hP hS hr hlocks h dX7_alike_40
        · have h := zif_f h c8
          refine lv_iconst (v := 1) hx hb dX7_alike_35 (by decide) ?_
          refine lv_goto (tgt := 40) hx hb dX7_alike_36 (by decide) ?_
          exact z_iret X hP hS hr hlocks h dX7_alike_40
      · have h := zif_t h c6
        refine lv_iconst (v := -1) hx hb dX7_alike_23 (by decide) ?_
        exact z_iret X hP hS hr hlocks h dX7_alike_24
abbrev rmX7_isFalse : Room := { frames := 7, cells := 0, slots := 0, locals := 166 }
set_option maxHeartbeats 4000000 in
set_option maxRecDepth 100000 in
theorem kX7_isFalse {l : Launch} {D : va_G} {a : Nat → Nat} {cI cJ cC : ClassId} {x1 : Int32} {x2 : Int32} {x3 : Int32} {s τ : ZS} {r : Int32} (h : fX7_isFalse x1 x2 x3 s = some (r, τ)) : zMi (zcM a cI cJ cC) 17 a D [(cI, .int), (cJ, .long), (cC, .char)] zEM l yX7_isFalse wsX7_isFalse rmX7_isFalse [.ref (a 0), .int x1, .int x2, .int x3] s r τ := by
  refine z_start (cc := cX7_isFalse) (maxL := 4) (ret := (some .boolean)) RX7 rfl (by decide) rfl (Nat.le_of_ble_eq_true rfl) ?_
  intro p e st m args below meth c ls H locs X hr hlocks hA hE hP hS hl
  obtain ⟨hx, hb, hml, hown, hts, -⟩ := id X
  have hG := zEM_good
  have hl : lv_has ls 4 [(0, .ref (a 0)), (1, .int x1), (2, .int x2), (3, .int x3)] := hl
  refine lv_aload_n hx hb dX7_isFalse_0 rfl (lv_at hl 0 rfl) ?_
  refine lv_iload_n hx hb dX7_isFalse_1 rfl (lv_at hl 1 rfl) ?_
  refine lv_iload_n hx hb dX7_isFalse_2 rfl (lv_at hl 2 rfl) ?_
  refine lv_iload_n hx hb dX7_isFalse_3 rfl (lv_at hl 3 rfl) ?_
  obtain ⟨u1, s1, e1, h⟩ := zb_some h
  refine z_calli hS (z_runV (As := [.int x1, .int x2, .int x3]) (rest := []) X hG hA hE hP hS 0 (kX7_areAlike (l := l) (D := D) (a := a) (cI := cI) (cJ := cJ) (cC := cC) e1 _) (cwV 3 hts gX7_isFalse_X7_areAlike rfl rfl rfl (by decide +kernel) ⟨Nat.le_of_ble_eq_true rfl, Nat.le_of_ble_eq_true rfl⟩) (by decide) (zcM_0 _ _ _ _ _ _) rfl rfl rfl hl.1 rfl (Nat.le_of_ble_eq_true rfl) dX7_isFalse_4) (fun H locs hP hS => ?_)
  refine lv_if_ne (tgt := 12) hx hb dX7_isFalse_7 (by decide) (fun c2 => ?_) (fun c2 => ?_)
  · have h := zif_f h c2
    refine lv_aload_n hx hb dX7_isFalse_12 rfl (lv_at hl 0 rfl) ?_
    refine lv_iload_n hx hb dX7_isFalse_13 rfl (lv_at hl 1 rfl) ?_
    refine lv_iload_n hx hb dX7_isFalse_14 rfl (lv_at hl 2 rfl) ?_
    refine lv_iconst (v := 0) hx hb dX7_isFalse_15 (by decide) ?_
    obtain ⟨u3, s3, e3, h⟩ := zb_some h
    refine z_calli hS (z_runV (As := [.int x1, .int x2, .int (0 : Int32)]) (rest := []) X hG hA hE hP hS 0 (kX7_areAlike (l := l) (D := D) (a := a) (cI := cI) (cJ := cJ) (cC := cC) e3 _) (cwV 3 hts gX7_isFalse_X7_areAlike rfl rfl rfl (by decide +kernel) ⟨Nat.le_of_ble_eq_true rfl, Nat.le_of_ble_eq_true rfl⟩) (by decide) (zcM_0 _ _ _ _ _ _) rfl rfl rfl hl.1 rfl (Nat.le_of_ble_eq_true rfl) dX7_isFalse_16) (fun H locs hP hS => ?_)
    refine lv_if_eq (tgt := 42) hx hb dX7_isFalse_19 (by decide) (fun c4 => ?_) (fun c4 => ?_)
    · have h := zif_t h c4
      refine lv_iconst (v := 1) hx hb dX7_isFalse_42 (by decide) ?_
      refine lv_goto (tgt := 47) hx hb dX7_isFalse_43 (by decide) ?_
      exact z_zret X hP hS hr hlocks (by decide) h dX7_isFalse_47
    · have h := zif_f h c4
      refine lv_aload_n hx hb dX7_isFalse_22 rfl (lv_at hl 0 rfl) ?_
      refine lv_iload_n hx hb dX7_isFalse_23 rfl (lv_at hl 1 rfl) ?_
      refine lv_iload_n hx hb dX7_isFalse_24 rfl (lv_at hl 2 rfl) ?_
      refine lv_iconst (v := 1) hx hb dX7_isFalse_25 (by decide) ?_
      obtain ⟨u5, s5, e5, h⟩ := zb_some h
      refine z_calli hS (z_runV (As := [.int x1, .int x2, .int (1 : Int32)]) (rest := []) X hG hA hE hP hS 0 (kX7_areAlike (l := l) (D := D) (a := a) (cI := cI) (cJ := cJ) (cC := cC) e5 _) (cwV 3 hts gX7_isFalse_X7_areAlike rfl rfl rfl (by decide +kernel) ⟨Nat.le_of_ble_eq_true rfl, Nat.le_of_ble_eq_true rfl⟩) (by decide) (zcM_0 _ _ _ _ _ _) rfl rfl rfl hl.1 rfl (Nat.le_of_ble_eq_true rfl) dX7_isFalse_26) (fun H locs hP hS => ?_)
      refine lv_if_eq (tgt := 42) hx hb dX7_isFalse_29 (by decide) (fun c6 => ?_) (fun c6 => ?_)
      · have h := zif_t h c6
        refine lv_iconst (v := 1) hx hb dX7_isFalse_42 (by decide) ?_
        refine lv_goto (tgt := 47) hx hb dX7_isFalse_43 (by decide) ?_
        exact z_zret X hP hS hr hlocks (by decide) h dX7_isFalse_47
      · have h := zif_f h c6
        refine lv_aload_n hx hb dX7_isFalse_32 rfl (lv_at hl 0 rfl) ?_
        refine lv_iload_n hx hb dX7_isFalse_33 rfl (lv_at hl 1 rfl) ?_
        refine lv_iload_n hx hb dX7_isFalse_34 rfl (lv_at hl 2 rfl) ?_
        refine lv_iconst (v := 2) hx hb dX7_isFalse_35 (by decide) ?_
        obtain ⟨u7, s7, e7, h⟩ := zb_some h
        refine z_calli hS (z_runV (As := [.int x1, .int x2, .int (2 : Int32)]) (rest := []) X hG hA hE hP hS 0 (kX7_areAlike (l := l) (D := D) (a := a) (cI := cI) (cJ := cJ) (cC := cC) e7 _) (cwV 3 hts gX7_isFalse_X7_areAlike rfl rfl rfl (by decide +kernel) ⟨Nat.le_of_ble_eq_true rfl, Nat.le_of_ble_eq_true rfl⟩) (by decide) (zcM_0 _ _ _ _ _ _) rfl rfl rfl hl.1 rfl (Nat.le_of_ble_eq_true rfl) dX7_isFalse_36) (fun H locs hP hS => ?_)
        refine lv_if_ne (tgt := 46) hx hb dX7_isFalse_39 (by decide) (fun c8 => ?_) (fun c8 => ?_)
        · have h := zif_f h c8
          refine lv_iconst (v := 0) hx hb dX7_isFalse_46 (by decide) ?_
          exact z_zret X hP hS hr hlocks (by decide) h dX7_isFalse_47
        · have h := zif_t h c8
          refine lv_iconst (v := 1) hx hb dX7_isFalse_42 (by decide) ?_
          refine lv_goto (tgt := 47) hx hb dX7_isFalse_43 (by decide) ?_
          exact z_zret X hP hS hr hlocks (by decide) h dX7_isFalse_47
  · have h := zif_t h c2
    refine lv_iconst (v := 0) hx hb dX7_isFalse_10 (by decide) ?_
    exact z_zret X hP hS hr hlocks (by decide) h dX7_isFalse_11
abbrev rmX7_falsePairs : Room := { frames := 8, cells := 0, slots := 0, locals := 189 }
set_option maxHeartbeats 4000000 in
set_option maxRecDepth 100000 in
theorem kX7_falsePairs {l : Launch} {D : va_G} {a : Nat → Nat} {cI cJ cC : ClassId} {x1 : Int32} {x2 : Int32} {s τ : ZS} {r : Int32} (h : fX7_falsePairs x1 x2 s = some (r, τ)) : zMi (zcM a cI cJ cC) 17 a D [(cI, .int), (cJ, .long), (cC, .char)] zEM l yX7_falsePairs wsX7_falsePairs rmX7_falsePairs [.ref (a 0), .int x1, .int x2] s r τ := by
  refine z_start (cc := cX7_falsePairs) (maxL := 7) (ret := (some .int)) RX7 rfl (by decide) rfl (Nat.le_of_ble_eq_true rfl) ?_
  intro p e st m args below meth c ls H locs X hr hlocks hA hE hP hS hl
  obtain ⟨hx, hb, hml, hown, hts, -⟩ := id X
  have hG := zEM_good
  have inX7 : ∀ w ∈ u_ws RX7 TX7 26, w ∈ wsX7_falsePairs := by decide +kernel
  have w93 : ∀ (k45 : Int32 → Int32 → Int32 → Int32 → Int32 → Int32 → ZS → Option (Int32 × ZS)) (hk45 : ∀ (x1 : Int32) (x2 : Int32) (x3 : Int32) (x4 : Int32) (x5 : Int32) (x6 : Int32) (s : ZS) (H : Heap) (locs : List Loc) (ls : Array Slot), k45 x1 x2 x3 x4 x5 x6 s = some (r, τ) → va_P D vwCl (zW (zcM a cI cJ cC) 17 a s) H → va_S (zF 17 a st.heap.size) st.heap H locs → lv_has ls 7 [(0, .ref (a 0)), (1, .int x1), (2, .int x2), (3, .int x3), (4, .int x4), (5, .int x5), (6, .int x6)] → W p l e rmX7_falsePairs st m args below meth c H locs 0 0 (MQ below (va_Qi (fun (r' : Int32) (τ' : ZS) => r' = r ∧ τ' = τ) (zPost (zcM a cI cJ cC) 17 a D [(cI, .int), (cJ, .long), (cC, .char)]) (zF 17 a st.heap.size)) args st 0 0 (zF 17 a st.heap.size)) (F0 m 45 ls [])) (x1 : Int32) (x2 : Int32) (x3 : Int32) (x4 : Int32) (x5 : Int32) (x6 : Int32) (s : ZS) (H : Heap) (locs : List Loc) (ls : Array Slot), fX7_falsePairs_93 k45 x1 x2 x3 x4 x5 x6 s = some (r, τ) → va_P D vwCl (zW (zcM a cI cJ cC) 17 a s) H → va_S (zF 17 a st.heap.size) st.heap H locs → lv_has ls 7 [(0, .ref (a 0)), (1, .int x1), (2, .int x2), (3, .int x3), (4, .int x4), (5, .int x5), (6, .int x6)] → W p l e rmX7_falsePairs st m args below meth c H locs 0 0 (MQ below (va_Qi (fun (r' : Int32) (τ' : ZS) => r' = r ∧ τ' = τ) (zPost (zcM a cI cJ cC) 17 a D [(cI, .int), (cJ, .long), (cC, .char)]) (zF 17 a st.heap.size)) args st 0 0 (zF 17 a st.heap.size)) (F0 m 93 ls []) := by
    intro k45 hk45 x1 x2 x3 x4 x5 x6 s H locs ls h hP hS hl
    refine lv_iinc (v := (x6 + (1 : Int32))) (lv' := [(6, .int (x6 + (1 : Int32))), (0, .ref (a 0)), (1, .int x1), (2, .int x2), (3, .int x3), (4, .int x4), (5, .int x5)]) hx hb dX7_falsePairs_93 hl (k := 6) rfl rfl (by decide) rfl (fun ls hl => ?_)
    refine lv_goto (tgt := 45) hx hb dX7_falsePairs_96 (by decide) ?_
    exact hk45 (x1) (x2) (x3) (x4) (x5) ((x6 + (1 : Int32))) (s) _ _ _ h hP hS (lv_sub hl [1, 2, 3, 4, 5, 6, 0] rfl)
  have w88 : ∀ (k93 : Int32 → Int32 → Int32 → Int32 → Int32 → Int32 → ZS → Option (Int32 × ZS)) (hk93 : ∀ (x1 : Int32) (x2 : Int32) (x3 : Int32) (x4 : Int32) (x5 : Int32) (x6 : Int32) (s : ZS) (H : Heap) (locs : List Loc) (ls : Array Slot), k93 x1 x2 x3 x4 x5 x6 s = some (r, τ) → va_P D vwCl (zW (zcM a cI cJ cC) 17 a s) H → va_S (zF 17 a st.heap.size) st.heap H locs → lv_has ls 7 [(0, .ref (a 0)), (1, .int x1), (2, .int x2), (3, .int x3), (4, .int x4), (5, .int x5), (6, .int x6)] → W p l e rmX7_falsePairs st m args below meth c H locs 0 0 (MQ below (va_Qi (fun (r' : Int32) (τ' : ZS) => r' = r ∧ τ' = τ) (zPost (zcM a cI cJ cC) 17 a D [(cI, .int), (cJ, .long), (cC, .char)]) (zF 17 a st.heap.size)) args st 0 0 (zF 17 a st.heap.size)) (F0 m 93 ls [])) (x1 : Int32) (x2 : Int32) (x3 : Int32) (x5 : Int32) (x6 : Int32) (t0 : Int32) (s : ZS) (H : Heap) (locs : List Loc) (ls : Array Slot), fX7_falsePairs_88 k93 x1 x2 x3 x5 x6 t0 s = some (r, τ) → va_P D vwCl (zW (zcM a cI cJ cC) 17 a s) H → va_S (zF 17 a st.heap.size) st.heap H locs → lv_has ls 7 [(0, .ref (a 0)), (1, .int x1), (2, .int x2), (3, .int x3), (5, .int x5), (6, .int x6)] → W p l e rmX7_falsePairs st m args below meth c H locs 0 0 (MQ below (va_Qi (fun (r' : Int32) (τ' : ZS) => r' = r ∧ τ' = τ) (zPost (zcM a cI cJ cC) 17 a D [(cI, .int), (cJ, .long), (cC, .char)]) (zF 17 a st.heap.size)) args st 0 0 (zF 17 a st.heap.size)) (F0 m 88 ls [.int t0]) := by
    intro k93 hk93 x1 x2 x3 x5 x6 t0 s H locs ls h hP hS hl
    refine lv_istore (lv' := [(4, .int t0), (0, .ref (a 0)), (1, .int x1), (2, .int x2), (3, .int x3), (5, .int x5), (6, .int x6)]) hx hb dX7_falsePairs_88 hl (by decide) rfl (fun ls hl => ?_)
    refine lv_iinc (v := (x3 + (1 : Int32))) (lv' := [(3, .int (x3 + (1 : Int32))), (4, .int t0), (0, .ref (a 0)), (1, .int x1), (2, .int x2), (5, .int x5), (6, .int x6)]) hx hb dX7_falsePairs_90 hl (k := 4) rfl rfl (by decide) rfl (fun ls hl => ?_)
    exact hk93 (x1) (x2) ((x3 + (1 : Int32))) (t0) (x5) (x6) (s) _ _ _ h hP hS (lv_sub hl [2, 3, 4, 0, 1, 5, 6] rfl)
  have w45 : ∀ (k28 : Int32 → Int32 → Int32 → Int32 → Int32 → ZS → Option (Int32 × ZS)) (hk28 : ∀ (x1 : Int32) (x2 : Int32) (x3 : Int32) (x4 : Int32) (x5 : Int32) (s : ZS) (H : Heap) (locs : List Loc) (ls : Array Slot), k28 x1 x2 x3 x4 x5 s = some (r, τ) → va_P D vwCl (zW (zcM a cI cJ cC) 17 a s) H → va_S (zF 17 a st.heap.size) st.heap H locs → lv_has ls 7 [(0, .ref (a 0)), (1, .int x1), (2, .int x2), (3, .int x3), (4, .int x4), (5, .int x5)] → W p l e rmX7_falsePairs st m args below meth c H locs 0 0 (MQ below (va_Qi (fun (r' : Int32) (τ' : ZS) => r' = r ∧ τ' = τ) (zPost (zcM a cI cJ cC) 17 a D [(cI, .int), (cJ, .long), (cC, .char)]) (zF 17 a st.heap.size)) args st 0 0 (zF 17 a st.heap.size)) (F0 m 28 ls [])) (n : Nat) (x1 : Int32) (x2 : Int32) (x3 : Int32) (x4 : Int32) (x5 : Int32) (x6 : Int32) (s : ZS) (H : Heap) (locs : List Loc) (ls : Array Slot), fX7_falsePairs_45n k28 n (x1, x2, x3, x4, x5, x6, s) = some (r, τ) → va_P D vwCl (zW (zcM a cI cJ cC) 17 a s) H → va_S (zF 17 a st.heap.size) st.heap H locs → lv_has ls 7 [(0, .ref (a 0)), (1, .int x1), (2, .int x2), (3, .int x3), (4, .int x4), (5, .int x5), (6, .int x6)] → W p l e rmX7_falsePairs st m args below meth c H locs 0 0 (MQ below (va_Qi (fun (r' : Int32) (τ' : ZS) => r' = r ∧ τ' = τ) (zPost (zcM a cI cJ cC) 17 a D [(cI, .int), (cJ, .long), (cC, .char)]) (zF 17 a st.heap.size)) args st 0 0 (zF 17 a st.heap.size)) (F0 m 45 ls []) := by
    intro k28 hk28 n
    induction n with
    | zero => intro x1 x2 x3 x4 x5 x6 s H locs ls h; exact zloop_0 h
    | succ n ih =>
      intro x1 x2 x3 x4 x5 x6 s H locs ls h hP hS hl
      have h : fX7_falsePairs_45b k28 (fun x1 x2 x3 x4 x5 x6 s => fX7_falsePairs_45n k28 n (x1, x2, x3, x4, x5, x6, s)) x1 x2 x3 x4 x5 x6 s = some (r, τ) := h
      refine lv_iload hx hb dX7_falsePairs_45 (lv_at hl 6 rfl) ?_
      refine lv_aload_n hx hb dX7_falsePairs_47 rfl (lv_at hl 0 rfl) ?_
      refine z_get (C := RX7) (T := TX7) (N := 26) X inX7 hP 0 (by decide) (zcM_0 _ _ _ _ _ _) rfl 0 (by decide) rfl (by decide +kernel) rfl dX7_falsePairs_48 ?_
      refine lv_iconst (v := 1) hx hb dX7_falsePairs_51 (by decide) ?_
      obtain ⟨g1, h⟩ := zg_some h
      refine z_iald X hP 1 0 (by decide) (zcM_1 _ _ _ _ _ _) rfl g1 dX7_falsePairs_52 ?_
      refine lv_icmp_ge (tgt := 99) hx hb dX7_falsePairs_53 (by decide) (fun c2 => ?_) (fun c2 => ?_)
      · have h := zif_t h c2
        refine lv_iinc (v := (x5 + (1 : Int32))) (lv' := [(5, .int (x5 + (1 : Int32))), (0, .ref (a 0)), (1, .int x1), (2, .int x2), (3, .int x3), (4, .int x4), (6, .int x6)]) hx hb dX7_falsePairs_99 hl (k := 5) rfl rfl (by decide) rfl (fun ls hl => ?_)
        refine lv_goto (tgt := 28) hx hb dX7_falsePairs_102 (by decide) ?_
        exact hk28 (x1) (x2) (x3) (x4) ((x5 + (1 : Int32))) (s) _ _ _ h hP hS (lv_sub hl [1, 2, 3, 4, 5, 0] rfl)
      · have h := zif_f h c2
        refine lv_aload_n hx hb dX7_falsePairs_56 rfl (lv_at hl 0 rfl) ?_
        refine lv_iload hx hb dX7_falsePairs_57 (lv_at hl 5 rfl) ?_
        refine lv_iload hx hb dX7_falsePairs_59 (lv_at hl 6 rfl) ?_
        refine lv_iload_n hx hb dX7_falsePairs_61 rfl (lv_at hl 1 rfl) ?_
        obtain ⟨u3, s3, e3, h⟩ := zb_some h
        refine z_calli hS (z_runV (As := [.int x5, .int x6, .int x1]) (rest := []) X hG hA hE hP hS 0 (kX7_isFalse (l := l) (D := D) (a := a) (cI := cI) (cJ := cJ) (cC := cC) e3 _) (cwV 3 hts gX7_falsePairs_X7_isFalse rfl rfl rfl (by decide +kernel) ⟨Nat.le_of_ble_eq_true rfl, Nat.le_of_ble_eq_true rfl⟩) (by decide) (zcM_0 _ _ _ _ _ _) rfl rfl rfl hl.1 rfl (Nat.le_of_ble_eq_true rfl) dX7_falsePairs_62) (fun H locs hP hS => ?_)
        refine lv_if_ne (tgt := 71) hx hb dX7_falsePairs_65 (by decide) (fun c4 => ?_) (fun c4 => ?_)
        · have h := zif_f h c4
          refine lv_iload_n hx hb dX7_falsePairs_71 rfl (lv_at hl 3 rfl) ?_
          refine lv_if_ne (tgt := 86) hx hb dX7_falsePairs_72 (by decide) (fun c5 => ?_) (fun c5 => ?_)
          · have h := zif_f h c5
            refine lv_iload hx hb dX7_falsePairs_86 (lv_at hl 4 rfl) ?_
            exact w88 (fX7_falsePairs_93 (fun x1 x2 x3 x4 x5 x6 s => fX7_falsePairs_45n k28 n (x1, x2, x3, x4, x5, x6, s))) (fun x1 x2 x3 x4 x5 x6 s H locs ls h hP hS hl => w93 (fun x1 x2 x3 x4 x5 x6 s => fX7_falsePairs_45n k28 n (x1, x2, x3, x4, x5, x6, s)) (fun x1 x2 x3 x4 x5 x6 s H locs ls h hP hS hl => ih x1 x2 x3 x4 x5 x6 s H locs ls h hP hS hl)  x1 x2 x3 x4 x5 x6 s H locs ls h hP hS hl)  (x1) (x2) (x3) (x5) (x6) (x4) (s3) _ _ _ h hP hS (lv_sub hl [0, 1, 2, 3, 5, 6] rfl)
          · have h := zif_t h c5
            refine lv_bipush (v := 10) hx hb dX7_falsePairs_75 (by decide) ?_
            refine lv_iload hx hb dX7_falsePairs_77 (lv_at hl 5 rfl) ?_
            refine lv_imul hx hb dX7_falsePairs_79 ?_
            refine lv_iload hx hb dX7_falsePairs_80 (lv_at hl 6 rfl) ?_
            refine lv_iadd hx hb dX7_falsePairs_82 ?_
            refine lv_goto (tgt := 88) hx hb dX7_falsePairs_83 (by decide) ?_
            exact w88 (fX7_falsePairs_93 (fun x1 x2 x3 x4 x5 x6 s => fX7_falsePairs_45n k28 n (x1, x2, x3, x4, x5, x6, s))) (fun x1 x2 x3 x4 x5 x6 s H locs ls h hP hS hl => w93 (fun x1 x2 x3 x4 x5 x6 s => fX7_falsePairs_45n k28 n (x1, x2, x3, x4, x5, x6, s)) (fun x1 x2 x3 x4 x5 x6 s H locs ls h hP hS hl => ih x1 x2 x3 x4 x5 x6 s H locs ls h hP hS hl)  x1 x2 x3 x4 x5 x6 s H locs ls h hP hS hl)  (x1) (x2) (x3) (x5) (x6) ((((10 : Int32) * x5) + x6)) (s3) _ _ _ h hP hS (lv_sub hl [0, 1, 2, 3, 5, 6] rfl)
        · have h := zif_t h c4
          refine lv_goto (tgt := 93) hx hb dX7_falsePairs_68 (by decide) ?_
          exact w93 (fun x1 x2 x3 x4 x5 x6 s => fX7_falsePairs_45n k28 n (x1, x2, x3, x4, x5, x6, s)) (fun x1 x2 x3 x4 x5 x6 s H locs ls h hP hS hl => ih x1 x2 x3 x4 x5 x6 s H locs ls h hP hS hl)  (x1) (x2) (x3) (x4) (x5) (x6) (s3) _ _ _ h hP hS (lv_sub hl [0, 1, 2, 3, 4, 5, 6] rfl)
  have w28 : ∀  (n : Nat) (x1 : Int32) (x2 : Int32) (x3 : Int32) (x4 : Int32) (x5 : Int32) (s : ZS) (H : Heap) (locs : List Loc) (ls : Array Slot), fX7_falsePairs_28n  n (x1, x2, x3, x4, x5, s) = some (r, τ) → va_P D vwCl (zW (zcM a cI cJ cC) 17 a s) H → va_S (zF 17 a st.heap.size) st.heap H locs → lv_has ls 7 [(0, .ref (a 0)), (1, .int x1), (2, .int x2), (3, .int x3), (4, .int x4), (5, .int x5)] → W p l e rmX7_falsePairs st m args below meth c H locs 0 0 (MQ below (va_Qi (fun (r' : Int32) (τ' : ZS) => r' = r ∧ τ' = τ) (zPost (zcM a cI cJ cC) 17 a D [(cI, .int), (cJ, .long), (cC, .char)]) (zF 17 a st.heap.size)) args st 0 0 (zF 17 a st.heap.size)) (F0 m 28 ls []) := by
    intro  n
    induction n with
    | zero => intro x1 x2 x3 x4 x5 s H locs ls h; exact zloop_0 h
    | succ n ih =>
      intro x1 x2 x3 x4 x5 s H locs ls h hP hS hl
      have h : fX7_falsePairs_28b  (fun x1 x2 x3 x4 x5 s => fX7_falsePairs_28n  n (x1, x2, x3, x4, x5, s)) x1 x2 x3 x4 x5 s = some (r, τ) := h
      refine lv_iload hx hb dX7_falsePairs_28 (lv_at hl 5 rfl) ?_
      refine lv_aload_n hx hb dX7_falsePairs_30 rfl (lv_at hl 0 rfl) ?_
      refine z_get (C := RX7) (T := TX7) (N := 26) X inX7 hP 0 (by decide) (zcM_0 _ _ _ _ _ _) rfl 0 (by decide) rfl (by decide +kernel) rfl dX7_falsePairs_31 ?_
      refine lv_iconst (v := 1) hx hb dX7_falsePairs_34 (by decide) ?_
      obtain ⟨g1, h⟩ := zg_some h
      refine z_iald X hP 1 0 (by decide) (zcM_1 _ _ _ _ _ _) rfl g1 dX7_falsePairs_35 ?_
      refine lv_icmp_ge (tgt := 105) hx hb dX7_falsePairs_36 (by decide) (fun c2 => ?_) (fun c2 => ?_)
      · have h := zif_t h c2
        refine lv_iload_n hx hb dX7_falsePairs_105 rfl (lv_at hl 2 rfl) ?_
        refine lv_if_ne (tgt := 113) hx hb dX7_falsePairs_106 (by decide) (fun c3 => ?_) (fun c3 => ?_)
        · have h := zif_f h c3
          refine lv_iload hx hb dX7_falsePairs_113 (lv_at hl 4 rfl) ?_
          exact z_iret X hP hS hr hlocks h dX7_falsePairs_115
        · have h := zif_t h c3
          refine lv_iload_n hx hb dX7_falsePairs_109 rfl (lv_at hl 3 rfl) ?_
          refine lv_goto (tgt := 115) hx hb dX7_falsePairs_110 (by decide) ?_
          exact z_iret X hP hS hr hlocks h dX7_falsePairs_115
      · have h := zif_f h c2
        refine lv_iload hx hb dX7_falsePairs_39 (lv_at hl 5 rfl) ?_
        refine lv_iconst (v := 1) hx hb dX7_falsePairs_41 (by decide) ?_
        refine lv_iadd hx hb dX7_falsePairs_42 ?_
        refine lv_istore (lv' := [(6, .int (x5 + (1 : Int32))), (0, .ref (a 0)), (1, .int x1), (2, .int x2), (3, .int x3), (4, .int x4), (5, .int x5)]) hx hb dX7_falsePairs_43 hl (by decide) rfl (fun ls hl => ?_)
        exact w45 (fun x1 x2 x3 x4 x5 s => fX7_falsePairs_28n  n (x1, x2, x3, x4, x5, s)) (fun x1 x2 x3 x4 x5 s H locs ls h hP hS hl => ih x1 x2 x3 x4 x5 s H locs ls h hP hS hl) zN (x1) (x2) (x3) (x4) (x5) ((x5 + (1 : Int32))) (s) _ _ _ h hP hS (lv_sub hl [1, 2, 3, 4, 5, 6, 0] rfl)
  have hl : lv_has ls 7 [(0, .ref (a 0)), (1, .int x1), (2, .int x2)] := hl
  refine lv_iload_n hx hb dX7_falsePairs_0 rfl (lv_at hl 1 rfl) ?_
  obtain ⟨u1, s1, e1, h⟩ := zb_some h
  refine z_calli hS (z_runS (As := [.int x1]) (rest := []) X hG hA hE hP hS (kX7_isLamp (l := l) (D := D) (a := a) (cI := cI) (cJ := cJ) (cC := cC) e1 _) (va_cwS 1 hts gX7_falsePairs_X7_isLamp rfl rfl rfl (by decide +kernel) ⟨Nat.le_of_ble_eq_true rfl, Nat.le_of_ble_eq_true rfl⟩) rfl hl.1 rfl (Nat.le_of_ble_eq_true rfl) dX7_falsePairs_1) (fun H locs hP hS => ?_)
  refine lv_if_eq (tgt := 17) hx hb dX7_falsePairs_4 (by decide) (fun c2 => ?_) (fun c2 => ?_)
  · have h := zif_t h c2
    refine lv_iconst (v := -1) hx hb dX7_falsePairs_17 (by decide) ?_
    exact z_iret X hP hS hr hlocks h dX7_falsePairs_18
  · have h := zif_f h c2
    refine lv_iload_n hx hb dX7_falsePairs_7 rfl (lv_at hl 2 rfl) ?_
    refine lv_i2l hx hb dX7_falsePairs_8 rfl ?_
    refine lv_lconst (v := 0) hx hb dX7_falsePairs_9 (by decide) ?_
    refine lv_lconst (v := 1) hx hb dX7_falsePairs_10 (by decide) ?_
    obtain ⟨u3, s3, e3, h⟩ := zb_some h
    refine z_calli hS (z_runS (As := [.long (x2).toInt64, .long (0 : Int64), .long (1 : Int64)]) (rest := []) X hG hA hE hP hS (kX7_isIn (l := l) (D := D) (a := a) (cI := cI) (cJ := cJ) (cC := cC) e3 _) (va_cwS 3 hts gX7_falsePairs_X7_isIn rfl rfl rfl (by decide +kernel) ⟨Nat.le_of_ble_eq_true rfl, Nat.le_of_ble_eq_true rfl⟩) rfl hl.1 rfl (Nat.le_of_ble_eq_true rfl) dX7_falsePairs_11) (fun H locs hP hS => ?_)
    refine lv_if_ne (tgt := 19) hx hb dX7_falsePairs_14 (by decide) (fun c4 => ?_) (fun c4 => ?_)
    · have h := zif_f h c4
      refine lv_iconst (v := 0) hx hb dX7_falsePairs_19 (by decide) ?_
      refine lv_istore_n (lv' := [(3, .int (0 : Int32)), (0, .ref (a 0)), (1, .int x1), (2, .int x2)]) hx hb dX7_falsePairs_20 rfl hl (by decide) rfl (fun ls hl => ?_)
      refine lv_bipush (v := -5) hx hb dX7_falsePairs_21 (by decide) ?_
      refine lv_istore (lv' := [(4, .int (-5 : Int32)), (3, .int (0 : Int32)), (0, .ref (a 0)), (1, .int x1), (2, .int x2)]) hx hb dX7_falsePairs_23 hl (by decide) rfl (fun ls hl => ?_)
      refine lv_iconst (v := 0) hx hb dX7_falsePairs_25 (by decide) ?_
      refine lv_istore (lv' := [(5, .int (0 : Int32)), (4, .int (-5 : Int32)), (3, .int (0 : Int32)), (0, .ref (a 0)), (1, .int x1), (2, .int x2)]) hx hb dX7_falsePairs_26 hl (by decide) rfl (fun ls hl => ?_)
      exact w28  zN (x1) (x2) ((0 : Int32)) ((-5 : Int32)) ((0 : Int32)) (s3) _ _ _ h hP hS (lv_sub hl [3, 4, 5, 2, 1, 0] rfl)
    · have h := zif_t h c4
      refine lv_iconst (v := -1) hx hb dX7_falsePairs_17 (by decide) ?_
      exact z_iret X hP hS hr hlocks h dX7_falsePairs_18
abbrev rmX7_brightness : Room := { frames := 6, cells := 0, slots := 0, locals := 137 }
set_option maxHeartbeats 4000000 in
set_option maxRecDepth 100000 in
theorem kX7_brightness {l : Launch} {D : va_G} {a : Nat → Nat} {cI cJ cC : ClassId} {x1 : Int32} {x2 : Int32} {s τ : ZS} {r : Int64} (h : fX7_brightness x1 x2 s = some (r, τ)) : zMl (zcM a cI cJ cC) 17 a D [(cI, .int), (cJ, .long), (cC, .char)] zEM l yX7_brightness wsX7_brightness rmX7_brightness [.ref (a 0), .int x1, .int x2] s r τ := by
  refine z_start (cc := cX7_brightness) (maxL := 3) (ret := (some .long)) RX7 rfl (by decide) rfl (Nat.le_of_ble_eq_true rfl) ?_
  intro p e st m args below meth c ls H locs X hr hlocks hA hE hP hS hl
  obtain ⟨hx, hb, hml, hown, hts, -⟩ := id X
  have hG := zEM_good
  have inX7 : ∀ w ∈ u_ws RX7 TX7 26, w ∈ wsX7_brightness := by decide +kernel
  have hl : lv_has ls 3 [(0, .ref (a 0)), (1, .int x1), (2, .int x2)] := hl
  refine lv_aload_n hx hb dX7_brightness_0 rfl (lv_at hl 0 rfl) ?_
  refine lv_iload_n hx hb dX7_brightness_1 rfl (lv_at hl 1 rfl) ?_
  refine lv_iload_n hx hb dX7_brightness_2 rfl (lv_at hl 2 rfl) ?_
  obtain ⟨u1, s1, e1, h⟩ := zb_some h
  refine z_callv hS (z_runV (As := [.int x1, .int x2]) (rest := []) X hG hA hE hP hS 0 (kX7_findSeen (l := l) (D := D) (a := a) (cI := cI) (cJ := cJ) (cC := cC) e1 _) (cwV 2 hts gX7_brightness_X7_findSeen rfl rfl rfl (by decide +kernel) ⟨Nat.le_of_ble_eq_true rfl, Nat.le_of_ble_eq_true rfl⟩) (by decide) (zcM_0 _ _ _ _ _ _) rfl rfl rfl hl.1 rfl (Nat.le_of_ble_eq_true rfl) dX7_brightness_3) (fun H locs hP hS => ?_)
  refine lv_aload_n hx hb dX7_brightness_6 rfl (lv_at hl 0 rfl) ?_
  refine z_get (C := RX7) (T := TX7) (N := 26) X inX7 hP 0 (by decide) (zcM_0 _ _ _ _ _ _) rfl 16 (by decide) rfl (by decide +kernel) rfl dX7_brightness_7 ?_
  refine lv_iconst (v := 0) hx hb dX7_brightness_10 (by decide) ?_
  obtain ⟨g2, h⟩ := zg_some h
  refine z_lald X hP 11 1 (by decide) (zcM_11 _ _ _ _ _ _) rfl g2 dX7_brightness_11 ?_
  refine lv_aload_n hx hb dX7_brightness_12 rfl (lv_at hl 0 rfl) ?_
  refine z_get (C := RX7) (T := TX7) (N := 26) X inX7 hP 0 (by decide) (zcM_0 _ _ _ _ _ _) rfl 16 (by decide) rfl (by decide +kernel) rfl dX7_brightness_13 ?_
  refine lv_iconst (v := 1) hx hb dX7_brightness_16 (by decide) ?_
  obtain ⟨g3, h⟩ := zg_some h
  refine z_lald X hP 11 1 (by decide) (zcM_11 _ _ _ _ _ _) rfl g3 dX7_brightness_17 ?_
  refine lv_ladd hx hb dX7_brightness_18 ?_
  refine lv_aload_n hx hb dX7_brightness_19 rfl (lv_at hl 0 rfl) ?_
  refine z_get (C := RX7) (T := TX7) (N := 26) X inX7 hP 0 (by decide) (zcM_0 _ _ _ _ _ _) rfl 16 (by decide) rfl (by decide +kernel) rfl dX7_brightness_20 ?_
  refine lv_iconst (v := 2) hx hb dX7_brightness_23 (by decide) ?_
  obtain ⟨g4, h⟩ := zg_some h
  refine z_lald X hP 11 1 (by decide) (zcM_11 _ _ _ _ _ _) rfl g4 dX7_brightness_24 ?_
  refine lv_ladd hx hb dX7_brightness_25 ?_
  exact z_lret X hP hS hr hlocks h dX7_brightness_26
abbrev rmX7_ranked : Room := { frames := 7, cells := 0, slots := 0, locals := 159 }
set_option maxHeartbeats 4000000 in
set_option maxRecDepth 100000 in
theorem kX7_ranked {l : Launch} {D : va_G} {a : Nat → Nat} {cI cJ cC : ClassId} {x1 : Int32} {x2 : Int32} {s τ : ZS} {r : Int32} (h : fX7_ranked x1 x2 s = some (r, τ)) : zMi (zcM a cI cJ cC) 17 a D [(cI, .int), (cJ, .long), (cC, .char)] zEM l yX7_ranked wsX7_ranked rmX7_ranked [.ref (a 0), .int x1, .int x2] s r τ := by
  refine z_start (cc := cX7_ranked) (maxL := 11) (ret := (some .int)) RX7 rfl (by decide) rfl (Nat.le_of_ble_eq_true rfl) ?_
  intro p e st m args below meth c ls H locs X hr hlocks hA hE hP hS hl
  obtain ⟨hx, hb, hml, hown, hts, -⟩ := id X
  have hG := zEM_good
  have inX7 : ∀ w ∈ u_ws RX7 TX7 26, w ∈ wsX7_ranked := by decide +kernel
  have w129 : ∀ (k32 : Int32 → Int32 → Int32 → Int32 → ZS → Option (Int32 × ZS)) (hk32 : ∀ (x1 : Int32) (x2 : Int32) (x3 : Int32) (x4 : Int32) (s : ZS) (H : Heap) (locs : List Loc) (ls : Array Slot), k32 x1 x2 x3 x4 s = some (r, τ) → va_P D vwCl (zW (zcM a cI cJ cC) 17 a s) H → va_S (zF 17 a st.heap.size) st.heap H locs → lv_has ls 11 [(0, .ref (a 0)), (1, .int x1), (2, .int x2), (3, .int x3), (4, .int x4)] → W p l e rmX7_ranked st m args below meth c H locs 0 0 (MQ below (va_Qi (fun (r' : Int32) (τ' : ZS) => r' = r ∧ τ' = τ) (zPost (zcM a cI cJ cC) 17 a D [(cI, .int), (cJ, .long), (cC, .char)]) (zF 17 a st.heap.size)) args st 0 0 (zF 17 a st.heap.size)) (F0 m 32 ls [])) (x1 : Int32) (x2 : Int32) (x4 : Int32) (t0 : Int32) (s : ZS) (H : Heap) (locs : List Loc) (ls : Array Slot), fX7_ranked_129 k32 x1 x2 x4 t0 s = some (r, τ) → va_P D vwCl (zW (zcM a cI cJ cC) 17 a s) H → va_S (zF 17 a st.heap.size) st.heap H locs → lv_has ls 11 [(0, .ref (a 0)), (1, .int x1), (2, .int x2), (4, .int x4)] → W p l e rmX7_ranked st m args below meth c H locs 0 0 (MQ below (va_Qi (fun (r' : Int32) (τ' : ZS) => r' = r ∧ τ' = τ) (zPost (zcM a cI cJ cC) 17 a D [(cI, .int), (cJ, .long), (cC, .char)]) (zF 17 a st.heap.size)) args st 0 0 (zF 17 a st.heap.size)) (F0 m 129 ls [.int t0]) := by
    intro k32 hk32 x1 x2 x4 t0 s H locs ls h hP hS hl
    refine lv_istore_n (lv' := [(3, .int t0), (0, .ref (a 0)), (1, .int x1), (2, .int x2), (4, .int x4)]) hx hb dX7_ranked_129 rfl hl (by decide) rfl (fun ls hl => ?_)
    refine lv_iinc (v := (x4 + (1 : Int32))) (lv' := [(4, .int (x4 + (1 : Int32))), (3, .int t0), (0, .ref (a 0)), (1, .int x1), (2, .int x2)]) hx hb dX7_ranked_130 hl (k := 4) rfl rfl (by decide) rfl (fun ls hl => ?_)
    refine lv_goto (tgt := 32) hx hb dX7_ranked_133 (by decide) ?_
    exact hk32 (x1) (x2) (t0) ((x4 + (1 : Int32))) (s) _ _ _ h hP hS (lv_sub hl [2, 3, 4, 1, 0] rfl)
  have w108 : ∀ (k58 : Int32 → Int32 → Int32 → Int32 → Int32 → Int64 → Int32 → ZS → Option (Int32 × ZS)) (hk58 : ∀ (x1 : Int32) (x2 : Int32) (x3 : Int32) (x4 : Int32) (x5 : Int32) (x6 : Int64) (x8 : Int32) (s : ZS) (H : Heap) (locs : List Loc) (ls : Array Slot), k58 x1 x2 x3 x4 x5 x6 x8 s = some (r, τ) → va_P D vwCl (zW (zcM a cI cJ cC) 17 a s) H → va_S (zF 17 a st.heap.size) st.heap H locs → lv_has ls 11 [(0, .ref (a 0)), (1, .int x1), (2, .int x2), (3, .int x3), (4, .int x4), (5, .int x5), (6, .long x6), (8, .int x8)] → W p l e rmX7_ranked st m args below meth c H locs 0 0 (MQ below (va_Qi (fun (r' : Int32) (τ' : ZS) => r' = r ∧ τ' = τ) (zPost (zcM a cI cJ cC) 17 a D [(cI, .int), (cJ, .long), (cC, .char)]) (zF 17 a st.heap.size)) args st 0 0 (zF 17 a st.heap.size)) (F0 m 58 ls [])) (x1 : Int32) (x2 : Int32) (x3 : Int32) (x4 : Int32) (x6 : Int64) (x8 : Int32) (t0 : Int32) (t1 : Int32) (s : ZS) (H : Heap) (locs : List Loc) (ls : Array Slot), fX7_ranked_108 k58 x1 x2 x3 x4 x6 x8 t0 t1 s = some (r, τ) → va_P D vwCl (zW (zcM a cI cJ cC) 17 a s) H → va_S (zF 17 a st.heap.size) st.heap H locs → lv_has ls 11 [(0, .ref (a 0)), (1, .int x1), (2, .int x2), (3, .int x3), (4, .int x4), (6, .long x6), (8, .int x8)] → W p l e rmX7_ranked st m args below meth c H locs 0 0 (MQ below (va_Qi (fun (r' : Int32) (τ' : ZS) => r' = r ∧ τ' = τ) (zPost (zcM a cI cJ cC) 17 a D [(cI, .int), (cJ, .long), (cC, .char)]) (zF 17 a st.heap.size)) args st 0 0 (zF 17 a st.heap.size)) (F0 m 108 ls [.int t1, .int t0]) := by
    intro k58 hk58 x1 x2 x3 x4 x6 x8 t0 t1 s H locs ls h hP hS hl
    refine lv_iadd hx hb dX7_ranked_108 ?_
    refine lv_istore (lv' := [(5, .int (t0 + t1)), (0, .ref (a 0)), (1, .int x1), (2, .int x2), (3, .int x3), (4, .int x4), (6, .long x6), (8, .int x8)]) hx hb dX7_ranked_109 hl (by decide) rfl (fun ls hl => ?_)
    refine lv_iinc (v := (x8 + (1 : Int32))) (lv' := [(8, .int (x8 + (1 : Int32))), (5, .int (t0 + t1)), (0, .ref (a 0)), (1, .int x1), (2, .int x2), (3, .int x3), (4, .int x4), (6, .long x6)]) hx hb dX7_ranked_111 hl (k := 7) rfl rfl (by decide) rfl (fun ls hl => ?_)
    refine lv_goto (tgt := 58) hx hb dX7_ranked_114 (by decide) ?_
    exact hk58 (x1) (x2) (x3) (x4) ((t0 + t1)) (x6) ((x8 + (1 : Int32))) (s) _ _ _ h hP hS (lv_sub hl [2, 3, 4, 5, 6, 1, 7, 0] rfl)
  have w107 : ∀ (k108 : Int32 → Int32 → Int32 → Int32 → Int64 → Int32 → Int32 → Int32 → ZS → Option (Int32 × ZS)) (hk108 : ∀ (x1 : Int32) (x2 : Int32) (x3 : Int32) (x4 : Int32) (x6 : Int64) (x8 : Int32) (t0 : Int32) (t1 : Int32) (s : ZS) (H : Heap) (locs : List Loc) (ls : Array Slot), k108 x1 x2 x3 x4 x6 x8 t0 t1 s = some (r, τ) → va_P D vwCl (zW (zcM a cI cJ cC) 17 a s) H → va_S (zF 17 a st.heap.size) st.heap H locs → lv_has ls 11 [(0, .ref (a 0)), (1, .int x1), (2, .int x2), (3, .int x3), (4, .int x4), (6, .long x6), (8, .int x8)] → W p l e rmX7_ranked st m args below meth c H locs 0 0 (MQ below (va_Qi (fun (r' : Int32) (τ' : ZS) => r' = r ∧ τ' = τ) (zPost (zcM a cI cJ cC) 17 a D [(cI, .int), (cJ, .long), (cC, .char)]) (zF 17 a st.heap.size)) args st 0 0 (zF 17 a st.heap.size)) (F0 m 108 ls [.int t1, .int t0])) (x1 : Int32) (x2 : Int32) (x3 : Int32) (x4 : Int32) (x6 : Int64) (x8 : Int32) (t0 : Int32) (s : ZS) (H : Heap) (locs : List Loc) (ls : Array Slot), fX7_ranked_107 k108 x1 x2 x3 x4 x6 x8 t0 s = some (r, τ) → va_P D vwCl (zW (zcM a cI cJ cC) 17 a s) H → va_S (zF 17 a st.heap.size) st.heap H locs → lv_has ls 11 [(0, .ref (a 0)), (1, .int x1), (2, .int x2), (3, .int x3), (4, .int x4), (6, .long x6), (8, .int x8)] → W p l e rmX7_ranked st m args below meth c H locs 0 0 (MQ below (va_Qi (fun (r' : Int32) (τ' : ZS) => r' = r ∧ τ' = τ) (zPost (zcM a cI cJ cC) 17 a D [(cI, .int), (cJ, .long), (cC, .char)]) (zF 17 a st.heap.size)) args st 0 0 (zF 17 a st.heap.size)) (F0 m 107 ls [.int t0]) := by
    intro k108 hk108 x1 x2 x3 x4 x6 x8 t0 s H locs ls h hP hS hl
    refine lv_iconst (v := 0) hx hb dX7_ranked_107 (by decide) ?_
    exact hk108 (x1) (x2) (x3) (x4) (x6) (x8) (t0) ((0 : Int32)) (s) _ _ _ h hP hS (lv_sub hl [0, 1, 2, 3, 4, 5, 6] rfl)
  have w103 : ∀ (k108 : Int32 → Int32 → Int32 → Int32 → Int64 → Int32 → Int32 → Int32 → ZS → Option (Int32 × ZS)) (hk108 : ∀ (x1 : Int32) (x2 : Int32) (x3 : Int32) (x4 : Int32) (x6 : Int64) (x8 : Int32) (t0 : Int32) (t1 : Int32) (s : ZS) (H : Heap) (locs : List Loc) (ls : Array Slot), k108 x1 x2 x3 x4 x6 x8 t0 t1 s = some (r, τ) → va_P D vwCl (zW (zcM a cI cJ cC) 17 a s) H → va_S (zF 17 a st.heap.size) st.heap H locs → lv_has ls 11 [(0, .ref (a 0)), (1, .int x1), (2, .int x2), (3, .int x3), (4, .int x4), (6, .long x6), (8, .int x8)] → W p l e rmX7_ranked st m args below meth c H locs 0 0 (MQ below (va_Qi (fun (r' : Int32) (τ' : ZS) => r' = r ∧ τ' = τ) (zPost (zcM a cI cJ cC) 17 a D [(cI, .int), (cJ, .long), (cC, .char)]) (zF 17 a st.heap.size)) args st 0 0 (zF 17 a st.heap.size)) (F0 m 108 ls [.int t1, .int t0])) (x1 : Int32) (x2 : Int32) (x3 : Int32) (x4 : Int32) (x6 : Int64) (x8 : Int32) (t0 : Int32) (s : ZS) (H : Heap) (locs : List Loc) (ls : Array Slot), fX7_ranked_103 k108 x1 x2 x3 x4 x6 x8 t0 s = some (r, τ) → va_P D vwCl (zW (zcM a cI cJ cC) 17 a s) H → va_S (zF 17 a st.heap.size) st.heap H locs → lv_has ls 11 [(0, .ref (a 0)), (1, .int x1), (2, .int x2), (3, .int x3), (4, .int x4), (6, .long x6), (8, .int x8)] → W p l e rmX7_ranked st m args below meth c H locs 0 0 (MQ below (va_Qi (fun (r' : Int32) (τ' : ZS) => r' = r ∧ τ' = τ) (zPost (zcM a cI cJ cC) 17 a D [(cI, .int), (cJ, .long), (cC, .char)]) (zF 17 a st.heap.size)) args st 0 0 (zF 17 a st.heap.size)) (F0 m 103 ls [.int t0]) := by
    intro k108 hk108 x1 x2 x3 x4 x6 x8 t0 s H locs ls h hP hS hl
    refine lv_iconst (v := 1) hx hb dX7_ranked_103 (by decide) ?_
    refine lv_goto (tgt := 108) hx hb dX7_ranked_104 (by decide) ?_
    exact hk108 (x1) (x2) (x3) (x4) (x6) (x8) (t0) ((1 : Int32)) (s) _ _ _ h hP hS (lv_sub hl [0, 1, 2, 3, 4, 5, 6] rfl)
  have w58 : ∀ (k32 : Int32 → Int32 → Int32 → Int32 → ZS → Option (Int32 × ZS)) (hk32 : ∀ (x1 : Int32) (x2 : Int32) (x3 : Int32) (x4 : Int32) (s : ZS) (H : Heap) (locs : List Loc) (ls : Array Slot), k32 x1 x2 x3 x4 s = some (r, τ) → va_P D vwCl (zW (zcM a cI cJ cC) 17 a s) H → va_S (zF 17 a st.heap.size) st.heap H locs → lv_has ls 11 [(0, .ref (a 0)), (1, .int x1), (2, .int x2), (3, .int x3), (4, .int x4)] → W p l e rmX7_ranked st m args below meth c H locs 0 0 (MQ below (va_Qi (fun (r' : Int32) (τ' : ZS) => r' = r ∧ τ' = τ) (zPost (zcM a cI cJ cC) 17 a D [(cI, .int), (cJ, .long), (cC, .char)]) (zF 17 a st.heap.size)) args st 0 0 (zF 17 a st.heap.size)) (F0 m 32 ls [])) (n : Nat) (x1 : Int32) (x2 : Int32) (x3 : Int32) (x4 : Int32) (x5 : Int32) (x6 : Int64) (x8 : Int32) (s : ZS) (H : Heap) (locs : List Loc) (ls : Array Slot), fX7_ranked_58n k32 n (x1, x2, x3, x4, x5, x6, x8, s) = some (r, τ) → va_P D vwCl (zW (zcM a cI cJ cC) 17 a s) H → va_S (zF 17 a st.heap.size) st.heap H locs → lv_has ls 11 [(0, .ref (a 0)), (1, .int x1), (2, .int x2), (3, .int x3), (4, .int x4), (5, .int x5), (6, .long x6), (8, .int x8)] → W p l e rmX7_ranked st m args below meth c H locs 0 0 (MQ below (va_Qi (fun (r' : Int32) (τ' : ZS) => r' = r ∧ τ' = τ) (zPost (zcM a cI cJ cC) 17 a D [(cI, .int), (cJ, .long), (cC, .char)]) (zF 17 a st.heap.size)) args st 0 0 (zF 17 a st.heap.size)) (F0 m 58 ls []) := by
    intro k32 hk32 n
    induction n with
    | zero => intro x1 x2 x3 x4 x5 x6 x8 s H locs ls h; exact zloop_0 h
    | succ n ih =>
      intro x1 x2 x3 x4 x5 x6 x8 s H locs ls h hP hS hl
      have h : fX7_ranked_58b k32 (fun x1 x2 x3 x4 x5 x6 x8 s => fX7_ranked_58n k32 n (x1, x2, x3, x4, x5, x6, x8, s)) x1 x2 x3 x4 x5 x6 x8 s = some (r, τ) := h
      refine lv_iload hx hb dX7_ranked_58 (lv_at hl 7 rfl) ?_
      refine lv_aload_n hx hb dX7_ranked_60 rfl (lv_at hl 0 rfl) ?_
      refine z_get (C := RX7) (T := TX7) (N := 26) X inX7 hP 0 (by decide) (zcM_0 _ _ _ _ _ _) rfl 0 (by decide) rfl (by decide +kernel) rfl dX7_ranked_61 ?_
      refine lv_iconst (v := 1) hx hb dX7_ranked_64 (by decide) ?_
      obtain ⟨g1, h⟩ := zg_some h
      refine z_iald X hP 1 0 (by decide) (zcM_1 _ _ _ _ _ _) rfl g1 dX7_ranked_65 ?_
      refine lv_icmp_ge (tgt := 117) hx hb dX7_ranked_66 (by decide) (fun c2 => ?_) (fun c2 => ?_)
      · have h := zif_t h c2
        refine lv_iload hx hb dX7_ranked_117 (lv_at hl 5 rfl) ?_
        refine lv_iload_n hx hb dX7_ranked_119 rfl (lv_at hl 2 rfl) ?_
        refine lv_icmp_ne (tgt := 128) hx hb dX7_ranked_120 (by decide) (fun c3 => ?_) (fun c3 => ?_)
        · have h := zif_f h c3
          refine lv_iload_n hx hb dX7_ranked_128 rfl (lv_at hl 3 rfl) ?_
          exact w129 k32 hk32  (x1) (x2) (x4) (x3) (s) _ _ _ h hP hS (lv_sub hl [0, 1, 2, 4] rfl)
        · have h := zif_t h c3
          refine lv_iload hx hb dX7_ranked_123 (lv_at hl 4 rfl) ?_
          refine lv_goto (tgt := 129) hx hb dX7_ranked_125 (by decide) ?_
          exact w129 k32 hk32  (x1) (x2) (x4) (x4) (s) _ _ _ h hP hS (lv_sub hl [0, 1, 2, 4] rfl)
      · have h := zif_f h c2
        refine lv_aload_n hx hb dX7_ranked_69 rfl (lv_at hl 0 rfl) ?_
        refine lv_iload hx hb dX7_ranked_70 (lv_at hl 7 rfl) ?_
        refine lv_iload_n hx hb dX7_ranked_72 rfl (lv_at hl 1 rfl) ?_
        obtain ⟨u4, s4, e4, h⟩ := zb_some h
        refine z_calll hS (z_runV (As := [.int x8, .int x1]) (rest := []) X hG hA hE hP hS 0 (kX7_brightness (l := l) (D := D) (a := a) (cI := cI) (cJ := cJ) (cC := cC) e4 _) (cwV 2 hts gX7_ranked_X7_brightness rfl rfl rfl (by decide +kernel) ⟨Nat.le_of_ble_eq_true rfl, Nat.le_of_ble_eq_true rfl⟩) (by decide) (zcM_0 _ _ _ _ _ _) rfl rfl rfl hl.1 rfl (Nat.le_of_ble_eq_true rfl) dX7_ranked_73) (fun H locs hP hS => ?_)
        refine lv_lstore (lv' := [(9, .long u4), (0, .ref (a 0)), (1, .int x1), (2, .int x2), (3, .int x3), (4, .int x4), (5, .int x5), (6, .long x6), (8, .int x8)]) hx hb dX7_ranked_76 hl (by decide) rfl (fun ls hl => ?_)
        refine lv_iload hx hb dX7_ranked_78 (lv_at hl 6 rfl) ?_
        refine lv_lload hx hb dX7_ranked_80 (lv_at hl 0 rfl) ?_
        refine lv_lload hx hb dX7_ranked_82 (lv_at hl 7 rfl) ?_
        refine W.lcmp hx hb dX7_ranked_84 ?_
        refine lv_if_gt (tgt := 103) hx hb dX7_ranked_85 (by decide) (fun c5 => ?_) (fun c5 => ?_)
        · have h := zif_t h c5
          exact w103 (fX7_ranked_108 (fun x1 x2 x3 x4 x5 x6 x8 s => fX7_ranked_58n k32 n (x1, x2, x3, x4, x5, x6, x8, s))) (fun x1 x2 x3 x4 x6 x8 t0 t1 s H locs ls h hP hS hl => w108 (fun x1 x2 x3 x4 x5 x6 x8 s => fX7_ranked_58n k32 n (x1, x2, x3, x4, x5, x6, x8, s)) (fun x1 x2 x3 x4 x5 x6 x8 s H locs ls h hP hS hl => ih x1 x2 x3 x4 x5 x6 x8 s H locs ls h hP hS hl)  x1 x2 x3 x4 x6 x8 t0 t1 s H locs ls h hP hS hl)  (x1) (x2) (x3) (x4) (x6) (x8) (x5) (s4) _ _ _ h hP hS (lv_sub hl [1, 2, 3, 4, 5, 7, 8] rfl)
        · have h := zif_f h c5
          refine lv_lload hx hb dX7_ranked_88 (lv_at hl 0 rfl) ?_
          refine lv_lload hx hb dX7_ranked_90 (lv_at hl 7 rfl) ?_
          refine W.lcmp hx hb dX7_ranked_92 ?_
          refine lv_if_ne (tgt := 107) hx hb dX7_ranked_93 (by decide) (fun c6 => ?_) (fun c6 => ?_)
          · have h := zif_f h c6
            exact w107 (fX7_ranked_108 (fun x1 x2 x3 x4 x5 x6 x8 s => fX7_ranked_58n k32 n (x1, x2, x3, x4, x5, x6, x8, s))) (fun x1 x2 x3 x4 x6 x8 t0 t1 s H locs ls h hP hS hl => w108 (fun x1 x2 x3 x4 x5 x6 x8 s => fX7_ranked_58n k32 n (x1, x2, x3, x4, x5, x6, x8, s)) (fun x1 x2 x3 x4 x5 x6 x8 s H locs ls h hP hS hl => ih x1 x2 x3 x4 x5 x6 x8 s H locs ls h hP hS hl)  x1 x2 x3 x4 x6 x8 t0 t1 s H locs ls h hP hS hl)  (x1) (x2) (x3) (x4) (x6) (x8) (x5) (s4) _ _ _ h hP hS (lv_sub hl [1, 2, 3, 4, 5, 7, 8] rfl)
          · have h := zif_t h c6
            refine lv_iload hx hb dX7_ranked_96 (lv_at hl 8 rfl) ?_
            refine lv_iload hx hb dX7_ranked_98 (lv_at hl 5 rfl) ?_
            refine lv_icmp_ge (tgt := 107) hx hb dX7_ranked_100 (by decide) (fun c7 => ?_) (fun c7 => ?_)
            · have h := zif_t h c7
              exact w107 (fX7_ranked_108 (fun x1 x2 x3 x4 x5 x6 x8 s => fX7_ranked_58n k32 n (x1, x2, x3, x4, x5, x6, x8, s))) (fun x1 x2 x3 x4 x6 x8 t0 t1 s H locs ls h hP hS hl => w108 (fun x1 x2 x3 x4 x5 x6 x8 s => fX7_ranked_58n k32 n (x1, x2, x3, x4, x5, x6, x8, s)) (fun x1 x2 x3 x4 x5 x6 x8 s H locs ls h hP hS hl => ih x1 x2 x3 x4 x5 x6 x8 s H locs ls h hP hS hl)  x1 x2 x3 x4 x6 x8 t0 t1 s H locs ls h hP hS hl)  (x1) (x2) (x3) (x4) (x6) (x8) (x5) (s4) _ _ _ h hP hS (lv_sub hl [1, 2, 3, 4, 5, 7, 8] rfl)
            · have h := zif_f h c7
              exact w103 (fX7_ranked_108 (fun x1 x2 x3 x4 x5 x6 x8 s => fX7_ranked_58n k32 n (x1, x2, x3, x4, x5, x6, x8, s))) (fun x1 x2 x3 x4 x6 x8 t0 t1 s H locs ls h hP hS hl => w108 (fun x1 x2 x3 x4 x5 x6 x8 s => fX7_ranked_58n k32 n (x1, x2, x3, x4, x5, x6, x8, s)) (fun x1 x2 x3 x4 x5 x6 x8 s H locs ls h hP hS hl => ih x1 x2 x3 x4 x5 x6 x8 s H locs ls h hP hS hl)  x1 x2 x3 x4 x6 x8 t0 t1 s H locs ls h hP hS hl)  (x1) (x2) (x3) (x4) (x6) (x8) (x5) (s4) _ _ _ h hP hS (lv_sub hl [1, 2, 3, 4, 5, 7, 8] rfl)
  have w32 : ∀  (n : Nat) (x1 : Int32) (x2 : Int32) (x3 : Int32) (x4 : Int32) (s : ZS) (H : Heap) (locs : List Loc) (ls : Array Slot), fX7_ranked_32n  n (x1, x2, x3, x4, s) = some (r, τ) → va_P D vwCl (zW (zcM a cI cJ cC) 17 a s) H → va_S (zF 17 a st.heap.size) st.heap H locs → lv_has ls 11 [(0, .ref (a 0)), (1, .int x1), (2, .int x2), (3, .int x3), (4, .int x4)] → W p l e rmX7_ranked st m args below meth c H locs 0 0 (MQ below (va_Qi (fun (r' : Int32) (τ' : ZS) => r' = r ∧ τ' = τ) (zPost (zcM a cI cJ cC) 17 a D [(cI, .int), (cJ, .long), (cC, .char)]) (zF 17 a st.heap.size)) args st 0 0 (zF 17 a st.heap.size)) (F0 m 32 ls []) := by
    intro  n
    induction n with
    | zero => intro x1 x2 x3 x4 s H locs ls h; exact zloop_0 h
    | succ n ih =>
      intro x1 x2 x3 x4 s H locs ls h hP hS hl
      have h : fX7_ranked_32b  (fun x1 x2 x3 x4 s => fX7_ranked_32n  n (x1, x2, x3, x4, s)) x1 x2 x3 x4 s = some (r, τ) := h
      refine lv_iload hx hb dX7_ranked_32 (lv_at hl 4 rfl) ?_
      refine lv_aload_n hx hb dX7_ranked_34 rfl (lv_at hl 0 rfl) ?_
      refine z_get (C := RX7) (T := TX7) (N := 26) X inX7 hP 0 (by decide) (zcM_0 _ _ _ _ _ _) rfl 0 (by decide) rfl (by decide +kernel) rfl dX7_ranked_35 ?_
      refine lv_iconst (v := 1) hx hb dX7_ranked_38 (by decide) ?_
      obtain ⟨g1, h⟩ := zg_some h
      refine z_iald X hP 1 0 (by decide) (zcM_1 _ _ _ _ _ _) rfl g1 dX7_ranked_39 ?_
      refine lv_icmp_ge (tgt := 136) hx hb dX7_ranked_40 (by decide) (fun c2 => ?_) (fun c2 => ?_)
      · have h := zif_t h c2
        refine lv_iload_n hx hb dX7_ranked_136 rfl (lv_at hl 3 rfl) ?_
        exact z_iret X hP hS hr hlocks h dX7_ranked_137
      · have h := zif_f h c2
        refine lv_iconst (v := 0) hx hb dX7_ranked_43 (by decide) ?_
        refine lv_istore (lv' := [(5, .int (0 : Int32)), (0, .ref (a 0)), (1, .int x1), (2, .int x2), (3, .int x3), (4, .int x4)]) hx hb dX7_ranked_44 hl (by decide) rfl (fun ls hl => ?_)
        refine lv_aload_n hx hb dX7_ranked_46 rfl (lv_at hl 1 rfl) ?_
        refine lv_iload hx hb dX7_ranked_47 (lv_at hl 5 rfl) ?_
        refine lv_iload_n hx hb dX7_ranked_49 rfl (lv_at hl 2 rfl) ?_
        obtain ⟨u3, s3, e3, h⟩ := zb_some h
        refine z_calll hS (z_runV (As := [.int x4, .int x1]) (rest := []) X hG hA hE hP hS 0 (kX7_brightness (l := l) (D := D) (a := a) (cI := cI) (cJ := cJ) (cC := cC) e3 _) (cwV 2 hts gX7_ranked_X7_brightness rfl rfl rfl (by decide +kernel) ⟨Nat.le_of_ble_eq_true rfl, Nat.le_of_ble_eq_true rfl⟩) (by decide) (zcM_0 _ _ _ _ _ _) rfl rfl rfl hl.1 rfl (Nat.le_of_ble_eq_true rfl) dX7_ranked_50) (fun H locs hP hS => ?_)
        refine lv_lstore (lv' := [(6, .long u3), (5, .int (0 : Int32)), (0, .ref (a 0)), (1, .int x1), (2, .int x2), (3, .int x3), (4, .int x4)]) hx hb dX7_ranked_53 hl (by decide) rfl (fun ls hl => ?_)
        refine lv_iconst (v := 0) hx hb dX7_ranked_55 (by decide) ?_
        refine lv_istore (lv' := [(8, .int (0 : Int32)), (6, .long u3), (5, .int (0 : Int32)), (0, .ref (a 0)), (1, .int x1), (2, .int x2), (3, .int x3), (4, .int x4)]) hx hb dX7_ranked_56 hl (by decide) rfl (fun ls hl => ?_)
        exact w58 (fun x1 x2 x3 x4 s => fX7_ranked_32n  n (x1, x2, x3, x4, s)) (fun x1 x2 x3 x4 s H locs ls h hP hS hl => ih x1 x2 x3 x4 s H locs ls h hP hS hl) zN (x1) (x2) (x3) (x4) ((0 : Int32)) (u3) ((0 : Int32)) (s3) _ _ _ h hP hS (lv_sub hl [3, 4, 5, 6, 7, 2, 1, 0] rfl)
  have hl : lv_has ls 11 [(0, .ref (a 0)), (1, .int x1), (2, .int x2)] := hl
  refine lv_iload_n hx hb dX7_ranked_0 rfl (lv_at hl 1 rfl) ?_
  obtain ⟨u1, s1, e1, h⟩ := zb_some h
  refine z_calli hS (z_runS (As := [.int x1]) (rest := []) X hG hA hE hP hS (kX7_isLamp (l := l) (D := D) (a := a) (cI := cI) (cJ := cJ) (cC := cC) e1 _) (va_cwS 1 hts gX7_ranked_X7_isLamp rfl rfl rfl (by decide +kernel) ⟨Nat.le_of_ble_eq_true rfl, Nat.le_of_ble_eq_true rfl⟩) rfl hl.1 rfl (Nat.le_of_ble_eq_true rfl) dX7_ranked_1) (fun H locs hP hS => ?_)
  refine lv_if_eq (tgt := 25) hx hb dX7_ranked_4 (by decide) (fun c2 => ?_) (fun c2 => ?_)
  · have h := zif_t h c2
    refine lv_iconst (v := -1) hx hb dX7_ranked_25 (by decide) ?_
    exact z_iret X hP hS hr hlocks h dX7_ranked_26
  · have h := zif_f h c2
    refine lv_iload_n hx hb dX7_ranked_7 rfl (lv_at hl 2 rfl) ?_
    refine lv_i2l hx hb dX7_ranked_8 rfl ?_
    refine lv_lconst (v := 0) hx hb dX7_ranked_9 (by decide) ?_
    refine lv_aload_n hx hb dX7_ranked_10 rfl (lv_at hl 0 rfl) ?_
    refine z_get (C := RX7) (T := TX7) (N := 26) X inX7 hP 0 (by decide) (zcM_0 _ _ _ _ _ _) rfl 0 (by decide) rfl (by decide +kernel) rfl dX7_ranked_11 ?_
    refine lv_iconst (v := 1) hx hb dX7_ranked_14 (by decide) ?_
    obtain ⟨g3, h⟩ := zg_some h
    refine z_iald X hP 1 0 (by decide) (zcM_1 _ _ _ _ _ _) rfl g3 dX7_ranked_15 ?_
    refine lv_iconst (v := 1) hx hb dX7_ranked_16 (by decide) ?_
    refine lv_isub hx hb dX7_ranked_17 ?_
    refine lv_i2l hx hb dX7_ranked_18 rfl ?_
    obtain ⟨u4, s4, e4, h⟩ := zb_some h
    refine z_calli hS (z_runS (As := [.long (x2).toInt64, .long (0 : Int64), .long ((((s1).1 1 ((1 : Int32)).toNatClampNeg) - (1 : Int32))).toInt64]) (rest := []) X hG hA hE hP hS (kX7_isIn (l := l) (D := D) (a := a) (cI := cI) (cJ := cJ) (cC := cC) e4 _) (va_cwS 3 hts gX7_ranked_X7_isIn rfl rfl rfl (by decide +kernel) ⟨Nat.le_of_ble_eq_true rfl, Nat.le_of_ble_eq_true rfl⟩) rfl hl.1 rfl (Nat.le_of_ble_eq_true rfl) dX7_ranked_19) (fun H locs hP hS => ?_)
    refine lv_if_ne (tgt := 27) hx hb dX7_ranked_22 (by decide) (fun c5 => ?_) (fun c5 => ?_)
    · have h := zif_f h c5
      refine lv_iconst (v := 0) hx hb dX7_ranked_27 (by decide) ?_
      refine lv_istore_n (lv' := [(3, .int (0 : Int32)), (0, .ref (a 0)), (1, .int x1), (2, .int x2)]) hx hb dX7_ranked_28 rfl hl (by decide) rfl (fun ls hl => ?_)
      refine lv_iconst (v := 0) hx hb dX7_ranked_29 (by decide) ?_
      refine lv_istore (lv' := [(4, .int (0 : Int32)), (3, .int (0 : Int32)), (0, .ref (a 0)), (1, .int x1), (2, .int x2)]) hx hb dX7_ranked_30 hl (by decide) rfl (fun ls hl => ?_)
      exact w32  zN (x1) (x2) ((0 : Int32)) ((0 : Int32)) (s4) _ _ _ h hP hS (lv_sub hl [2, 3, 4, 1, 0] rfl)
    · have h := zif_t h c5
      refine lv_iconst (v := -1) hx hb dX7_ranked_25 (by decide) ?_
      exact z_iret X hP hS hr hlocks h dX7_ranked_26
