abbrev rmX0_pileStack : Room := { frames := 4, cells := 0, slots := 0, locals := 87 }
set_option maxHeartbeats 4000000 in
set_option maxRecDepth 100000 in
theorem kX0_pileStack {l : Launch} {D : va_G} {a : Nat → Nat} {cI cJ cC : ClassId} {adK adV : Nat → Nat} {x1 : Int32} {s τ : ZS} {r : Unit} (h : fX0_pileStack x1 s = some (r, τ)) : zMv (zcC a cI cJ cC) 41 a D [(cI, .int), (cJ, .long)] (zEC adK adV) l yX0_pileStack wsX0_pileStack rmX0_pileStack [.ref (a 19), .int x1] s r τ := by
  refine z_start (cc := cX0_pileStack) (maxL := 2) (ret := none) RX0 rfl (by decide) rfl (Nat.le_of_ble_eq_true rfl) ?_
  intro p e st m args below meth c ls H locs X hr hlocks hA hE hP hS hl
  obtain ⟨hx, hb, hml, hown, hts, -⟩ := id X
  have hG := zEC_good adK adV
  have hl : lv_has ls 2 [(0, .ref (a 19)), (1, .int x1)] := hl
  refine lv_aload_n hx hb dX0_pileStack_0 rfl (lv_at hl 0 rfl) ?_
  refine lv_iload_n hx hb dX0_pileStack_1 rfl (lv_at hl 1 rfl) ?_
  refine lv_iconst (v := -1) hx hb dX0_pileStack_2 (by decide) ?_
  obtain ⟨u1, s1, e1, h⟩ := zb_some h
  refine z_callv hS (z_runV (As := [.int x1, .int (-1 : Int32)]) (rest := []) X hG hA hE hP hS 19 (kX0_pileStackWithout (l := l) (D := D) (a := a) (cI := cI) (cJ := cJ) (cC := cC) (adK := adK) (adV := adV) e1 _) (cwV 2 hts gX0_pileStack_X0_pileStackWithout rfl rfl rfl (by decide +kernel) ⟨Nat.le_of_ble_eq_true rfl, Nat.le_of_ble_eq_true rfl⟩) (by decide) (zcC_19 _ _ _ _ _ _) rfl rfl rfl hl.1 rfl (Nat.le_of_ble_eq_true rfl) dX0_pileStack_3) (fun H locs hP hS => ?_)
  exact z_vret X hP hS hr hlocks h dX0_pileStack_6
abbrev rmX6_cut : Room := { frames := 0, cells := 0, slots := 0, locals := 0 }
set_option maxHeartbeats 4000000 in
set_option maxRecDepth 100000 in
theorem kX6_cut {l : Launch} {D : va_G} {a : Nat → Nat} {cI cJ cC : ClassId} {adK adV : Nat → Nat} {x0 : Int64} {x2 : Int64} {s τ : ZS} {r : Int64} (h : fX6_cut x0 x2 s = some (r, τ)) : zMl (zcC a cI cJ cC) 41 a D [(cI, .int), (cJ, .long)] (zEC adK adV) l yX6_cut wsX6_cut rmX6_cut [.long x0, .long x2] s r τ := by
  refine z_start (cc := cX6_cut) (maxL := 4) (ret := (some .long)) RX6 rfl (by decide) rfl (Nat.le_of_ble_eq_true rfl) ?_
  intro p e st m args below meth c ls H locs X hr hlocks hA hE hP hS hl
  obtain ⟨hx, hb, hml, hown, hts, -⟩ := id X
  have hG := zEC_good adK adV
  have hl : lv_has ls 4 [(0, .long x0), (2, .long x2)] := hl
  refine lv_lload_n hx hb dX6_cut_0 rfl (lv_at hl 1 rfl) ?_
  refine lv_lconst (v := 0) hx hb dX6_cut_1 (by decide) ?_
  refine W.lcmp hx hb dX6_cut_2 ?_
  refine lv_if_le (tgt := 12) hx hb dX6_cut_3 (by decide) (fun c1 => ?_) (fun c1 => ?_)
  · have h := zif_t h c1
    refine lv_lconst (v := 0) hx hb dX6_cut_12 (by decide) ?_
    exact z_lret X hP hS hr hlocks h dX6_cut_13
  · have h := zif_f h c1
    refine lv_lload_n hx hb dX6_cut_6 rfl (lv_at hl 0 rfl) ?_
    refine lv_lload_n hx hb dX6_cut_7 rfl (lv_at hl 1 rfl) ?_
    obtain ⟨g2, h⟩ := zg_some h
    refine lv_ldiv hx hb dX6_cut_8 (znl_ne g2) ?_
    refine lv_goto (tgt := 13) hx hb dX6_cut_9 (by decide) ?_
    exact z_lret X hP hS hr hlocks h dX6_cut_13
abbrev rmX6_greatestCommonDivisor : Room := { frames := 0, cells := 0, slots := 0, locals := 0 }
set_option maxHeartbeats 4000000 in
set_option maxRecDepth 100000 in
theorem kX6_greatestCommonDivisor {l : Launch} {D : va_G} {a : Nat → Nat} {cI cJ cC : ClassId} {adK adV : Nat → Nat} {x0 : Int64} {x2 : Int64} {s τ : ZS} {r : Int64} (h : fX6_greatestCommonDivisor x0 x2 s = some (r, τ)) : zMl (zcC a cI cJ cC) 41 a D [(cI, .int), (cJ, .long)] (zEC adK adV) l yX6_greatestCommonDivisor wsX6_greatestCommonDivisor rmX6_greatestCommonDivisor [.long x0, .long x2] s r τ := by
  refine z_start (cc := cX6_greatestCommonDivisor) (maxL := 11) (ret := (some .long)) RX6 rfl (by decide) rfl (Nat.le_of_ble_eq_true rfl) ?_
  intro p e st m args below meth c ls H locs X hr hlocks hA hE hP hS hl
  obtain ⟨hx, hb, hml, hown, hts, -⟩ := id X
  have hG := zEC_good adK adV
  have w9 : ∀  (n : Nat) (x4 : Int64) (x6 : Int64) (x8 : Int32) (s : ZS) (H : Heap) (locs : List Loc) (ls : Array Slot), fX6_greatestCommonDivisor_9n  n (x4, x6, x8, s) = some (r, τ) → va_P D vwCl (zW (zcC a cI cJ cC) 41 a s) H → va_S (zF 41 a st.heap.size) st.heap H locs → lv_has ls 11 [(4, .long x4), (6, .long x6), (8, .int x8)] → W p l e rmX6_greatestCommonDivisor st m args below meth c H locs 0 0 (MQ below (va_Ql (fun (r' : Int64) (τ' : ZS) => r' = r ∧ τ' = τ) (zPost (zcC a cI cJ cC) 41 a D [(cI, .int), (cJ, .long)]) (zF 41 a st.heap.size)) args st 0 0 (zF 41 a st.heap.size)) (F0 m 9 ls []) := by
    intro  n
    induction n with
    | zero => intro x4 x6 x8 s H locs ls h; exact zloop_0 h
    | succ n ih =>
      intro x4 x6 x8 s H locs ls h hP hS hl
      have h : fX6_greatestCommonDivisor_9b  (fun x4 x6 x8 s => fX6_greatestCommonDivisor_9n  n (x4, x6, x8, s)) x4 x6 x8 s = some (r, τ) := h
      refine lv_iload hx hb dX6_greatestCommonDivisor_9 (lv_at hl 2 rfl) ?_
      refine lv_sipush (v := 128) hx hb dX6_greatestCommonDivisor_11 (by decide) ?_
      refine lv_icmp_ge (tgt := 45) hx hb dX6_greatestCommonDivisor_14 (by decide) (fun c1 => ?_) (fun c1 => ?_)
      · have h := zif_t h c1
        refine lv_lload hx hb dX6_greatestCommonDivisor_45 (lv_at hl 0 rfl) ?_
        exact z_lret X hP hS hr hlocks h dX6_greatestCommonDivisor_47
      · have h := zif_f h c1
        refine lv_lload hx hb dX6_greatestCommonDivisor_17 (lv_at hl 1 rfl) ?_
        refine lv_lconst (v := 0) hx hb dX6_greatestCommonDivisor_19 (by decide) ?_
        refine W.lcmp hx hb dX6_greatestCommonDivisor_20 ?_
        refine lv_if_le (tgt := 45) hx hb dX6_greatestCommonDivisor_21 (by decide) (fun c2 => ?_) (fun c2 => ?_)
        · have h := zif_t h c2
          refine lv_lload hx hb dX6_greatestCommonDivisor_45 (lv_at hl 0 rfl) ?_
          exact z_lret X hP hS hr hlocks h dX6_greatestCommonDivisor_47
        · have h := zif_f h c2
          refine lv_lload hx hb dX6_greatestCommonDivisor_24 (lv_at hl 0 rfl) ?_
          refine lv_lload hx hb dX6_greatestCommonDivisor_26 (lv_at hl 1 rfl) ?_
          obtain ⟨g3, h⟩ := zg_some h
          refine lv_lrem hx hb dX6_greatestCommonDivisor_28 (znl_ne g3) ?_
          refine lv_lstore (lv' := [(9, .long (x4 - x4 / x6 * x6)), (4, .long x4), (6, .long x6), (8, .int x8)]) hx hb dX6_greatestCommonDivisor_29 hl (by decide) rfl (fun ls hl => ?_)
          refine lv_lload hx hb dX6_greatestCommonDivisor_31 (lv_at hl 2 rfl) ?_
          refine lv_lstore (lv' := [(4, .long x6), (9, .long (x4 - x4 / x6 * x6)), (6, .long x6), (8, .int x8)]) hx hb dX6_greatestCommonDivisor_33 hl (by decide) rfl (fun ls hl => ?_)
          refine lv_lload hx hb dX6_greatestCommonDivisor_35 (lv_at hl 1 rfl) ?_
          refine lv_lstore (lv' := [(6, .long (x4 - x4 / x6 * x6)), (4, .long x6), (9, .long (x4 - x4 / x6 * x6)), (8, .int x8)]) hx hb dX6_greatestCommonDivisor_37 hl (by decide) rfl (fun ls hl => ?_)
          refine lv_iinc (v := (x8 + (1 : Int32))) (lv' := [(8, .int (x8 + (1 : Int32))), (6, .long (x4 - x4 / x6 * x6)), (4, .long x6), (9, .long (x4 - x4 / x6 * x6))]) hx hb dX6_greatestCommonDivisor_39 hl (k := 3) rfl rfl (by decide) rfl (fun ls hl => ?_)
          refine lv_goto (tgt := 9) hx hb dX6_greatestCommonDivisor_42 (by decide) ?_
          exact ih (x6) ((x4 - x4 / x6 * x6)) ((x8 + (1 : Int32))) (s) _ _ _ h hP hS (lv_sub hl [2, 1, 0] rfl)
  have hl : lv_has ls 11 [(0, .long x0), (2, .long x2)] := hl
  refine lv_lload_n hx hb dX6_greatestCommonDivisor_0 rfl (lv_at hl 0 rfl) ?_
  refine lv_lstore (lv' := [(4, .long x0), (0, .long x0), (2, .long x2)]) hx hb dX6_greatestCommonDivisor_1 hl (by decide) rfl (fun ls hl => ?_)
  refine lv_lload_n hx hb dX6_greatestCommonDivisor_3 rfl (lv_at hl 2 rfl) ?_
  refine lv_lstore (lv' := [(6, .long x2), (4, .long x0), (0, .long x0), (2, .long x2)]) hx hb dX6_greatestCommonDivisor_4 hl (by decide) rfl (fun ls hl => ?_)
  refine lv_iconst (v := 0) hx hb dX6_greatestCommonDivisor_6 (by decide) ?_
  refine lv_istore (lv' := [(8, .int (0 : Int32)), (6, .long x2), (4, .long x0), (0, .long x0), (2, .long x2)]) hx hb dX6_greatestCommonDivisor_7 hl (by decide) rfl (fun ls hl => ?_)
  exact w9  zN (x0) (x2) ((0 : Int32)) (s) _ _ _ h hP hS (lv_sub hl [2, 1, 0] rfl)
abbrev rmX6_partOf : Room := { frames := 1, cells := 0, slots := 0, locals := 30 }
set_option maxHeartbeats 4000000 in
set_option maxRecDepth 100000 in
theorem kX6_partOf {l : Launch} {D : va_G} {a : Nat → Nat} {cI cJ cC : ClassId} {adK adV : Nat → Nat} {x0 : Int64} {x2 : Int64} {x4 : Int32} {s τ : ZS} {r : Int64} (h : fX6_partOf x0 x2 x4 s = some (r, τ)) : zMl (zcC a cI cJ cC) 41 a D [(cI, .int), (cJ, .long)] (zEC adK adV) l yX6_partOf wsX6_partOf rmX6_partOf [.long x0, .long x2, .int x4] s r τ := by
  refine z_start (cc := cX6_partOf) (maxL := 7) (ret := (some .long)) RX6 rfl (by decide) rfl (Nat.le_of_ble_eq_true rfl) ?_
  intro p e st m args below meth c ls H locs X hr hlocks hA hE hP hS hl
  obtain ⟨hx, hb, hml, hown, hts, -⟩ := id X
  have hG := zEC_good adK adV
  have w17 : ∀  (x5 : Int64) (t0 : Int64) (s : ZS) (H : Heap) (locs : List Loc) (ls : Array Slot), fX6_partOf_17  x5 t0 s = some (r, τ) → va_P D vwCl (zW (zcC a cI cJ cC) 41 a s) H → va_S (zF 41 a st.heap.size) st.heap H locs → lv_has ls 7 [(5, .long x5)] → W p l e rmX6_partOf st m args below meth c H locs 0 0 (MQ below (va_Ql (fun (r' : Int64) (τ' : ZS) => r' = r ∧ τ' = τ) (zPost (zcC a cI cJ cC) 41 a D [(cI, .int), (cJ, .long)]) (zF 41 a st.heap.size)) args st 0 0 (zF 41 a st.heap.size)) (F0 m 17 ls [.long t0]) := by
    intro  x5 t0 s H locs ls h hP hS hl
    refine lv_lload hx hb dX6_partOf_17 (lv_at hl 0 rfl) ?_
    obtain ⟨u1, s1, e1, h⟩ := zb_some h
    refine z_calll hS (z_runS (As := [.long t0, .long x5]) (rest := []) X hG hA hE hP hS (kX6_cut (l := l) (D := D) (a := a) (cI := cI) (cJ := cJ) (cC := cC) (adK := adK) (adV := adV) e1 _) (va_cwS 2 hts gX6_partOf_X6_cut rfl rfl rfl (by decide +kernel) ⟨Nat.le_of_ble_eq_true rfl, Nat.le_of_ble_eq_true rfl⟩) rfl hl.1 rfl (Nat.le_of_ble_eq_true rfl) dX6_partOf_19) (fun H locs hP hS => ?_)
    exact z_lret X hP hS hr hlocks h dX6_partOf_22
  have hl : lv_has ls 7 [(0, .long x0), (2, .long x2), (4, .int x4)] := hl
  refine lv_lload_n hx hb dX6_partOf_0 rfl (lv_at hl 0 rfl) ?_
  refine lv_lload_n hx hb dX6_partOf_1 rfl (lv_at hl 1 rfl) ?_
  obtain ⟨u1, s1, e1, h⟩ := zb_some h
  refine z_calll hS (z_runS (As := [.long x0, .long x2]) (rest := []) X hG hA hE hP hS (kX6_greatestCommonDivisor (l := l) (D := D) (a := a) (cI := cI) (cJ := cJ) (cC := cC) (adK := adK) (adV := adV) e1 _) (va_cwS 2 hts gX6_partOf_X6_greatestCommonDivisor rfl rfl rfl (by decide +kernel) ⟨Nat.le_of_ble_eq_true rfl, Nat.le_of_ble_eq_true rfl⟩) rfl hl.1 rfl (Nat.le_of_ble_eq_true rfl) dX6_partOf_2) (fun H locs hP hS => ?_)
  refine lv_lstore (lv' := [(5, .long u1), (0, .long x0), (2, .long x2), (4, .int x4)]) hx hb dX6_partOf_5 hl (by decide) rfl (fun ls hl => ?_)
  refine lv_iload hx hb dX6_partOf_7 (lv_at hl 3 rfl) ?_
  refine lv_if_ne (tgt := 16) hx hb dX6_partOf_9 (by decide) (fun c2 => ?_) (fun c2 => ?_)
  · have h := zif_f h c2
    refine lv_lload_n hx hb dX6_partOf_16 rfl (lv_at hl 2 rfl) ?_
    exact w17   (u1) (x2) (s1) _ _ _ h hP hS (lv_sub hl [0] rfl)
  · have h := zif_t h c2
    refine lv_lload_n hx hb dX6_partOf_12 rfl (lv_at hl 1 rfl) ?_
    refine lv_goto (tgt := 17) hx hb dX6_partOf_13 (by decide) ?_
    exact w17   (u1) (x0) (s1) _ _ _ h hP hS (lv_sub hl [0] rfl)
abbrev rmX6_through : Room := { frames := 5, cells := 0, slots := 0, locals := 114 }
set_option maxHeartbeats 4000000 in
set_option maxRecDepth 100000 in
theorem kX6_through {l : Launch} {D : va_G} {a : Nat → Nat} {cI cJ cC : ClassId} {adK adV : Nat → Nat} {x1 : Int32} {x2 : Int32} {x3 : Int32} {s τ : ZS} {r : Int64} (h : fX6_through x1 x2 x3 s = some (r, τ)) : zMl (zcC a cI cJ cC) 41 a D [(cI, .int), (cJ, .long)] (zEC adK adV) l yX6_through wsX6_through rmX6_through [.ref (a 0), .int x1, .int x2, .int x3] s r τ := by
  refine z_start (cc := cX6_through) (maxL := 4) (ret := (some .long)) RX6 rfl (by decide) rfl (Nat.le_of_ble_eq_true rfl) ?_
  intro p e st m args below meth c ls H locs X hr hlocks hA hE hP hS hl
  obtain ⟨hx, hb, hml, hown, hts, -⟩ := id X
  have hG := zEC_good adK adV
  have inX0 : ∀ w ∈ u_ws RX0 TX0 5, w ∈ wsX6_through := by decide +kernel
  have inX6 : ∀ w ∈ u_ws RX6 TX6 12, w ∈ wsX6_through := by decide +kernel
  have hl : lv_has ls 4 [(0, .ref (a 0)), (1, .int x1), (2, .int x2), (3, .int x3)] := hl
  refine lv_aload_n hx hb dX6_through_0 rfl (lv_at hl 0 rfl) ?_
  refine z_get (C := RX6) (T := TX6) (N := 12) X inX6 hP 0 (by decide) (zcC_0 _ _ _ _ _ _) rfl 0 (by decide) rfl (by decide +kernel) rfl dX6_through_1 ?_
  refine lv_iload_n hx hb dX6_through_4 rfl (lv_at hl 1 rfl) ?_
  obtain ⟨u1, s1, e1, h⟩ := zb_some h
  refine z_calli hS (z_runV (As := [.int x1]) (rest := []) X hG hA hE hP hS 1 (kX3_hasStack (l := l) (D := D) (a := a) (cI := cI) (cJ := cJ) (cC := cC) (adK := adK) (adV := adV) e1 _) (cwV 1 hts gX6_through_X3_hasStack rfl rfl rfl (by decide +kernel) ⟨Nat.le_of_ble_eq_true rfl, Nat.le_of_ble_eq_true rfl⟩) (by decide) (zcC_1 _ _ _ _ _ _) rfl rfl rfl hl.1 rfl (Nat.le_of_ble_eq_true rfl) dX6_through_5) (fun H locs hP hS => ?_)
  refine lv_if_eq (tgt := 27) hx hb dX6_through_8 (by decide) (fun c2 => ?_) (fun c2 => ?_)
  · have h := zif_t h c2
    refine lv_ldc2 (own := RX6) (index := 160) (v := -9223372036854775808) hx hb hown (hts _ (by decide +kernel)) dX6_through_27 ?_
    exact z_lret X hP hS hr hlocks h dX6_through_30
  · have h := zif_f h c2
    refine lv_iload_n hx hb dX6_through_11 rfl (lv_at hl 2 rfl) ?_
    refine lv_iconst (v := 5) hx hb dX6_through_12 (by decide) ?_
    obtain ⟨u3, s3, e3, h⟩ := zb_some h
    refine z_calli hS (z_runS (As := [.int x2, .int (5 : Int32)]) (rest := []) X hG hA hE hP hS (kX6_within (l := l) (D := D) (a := a) (cI := cI) (cJ := cJ) (cC := cC) (adK := adK) (adV := adV) e3 _) (va_cwS 2 hts gX6_through_X6_within rfl rfl rfl (by decide +kernel) ⟨Nat.le_of_ble_eq_true rfl, Nat.le_of_ble_eq_true rfl⟩) rfl hl.1 rfl (Nat.le_of_ble_eq_true rfl) dX6_through_13) (fun H locs hP hS => ?_)
    refine lv_if_eq (tgt := 27) hx hb dX6_through_16 (by decide) (fun c4 => ?_) (fun c4 => ?_)
    · have h := zif_t h c4
      refine lv_ldc2 (own := RX6) (index := 160) (v := -9223372036854775808) hx hb hown (hts _ (by decide +kernel)) dX6_through_27 ?_
      exact z_lret X hP hS hr hlocks h dX6_through_30
    · have h := zif_f h c4
      refine lv_iload_n hx hb dX6_through_19 rfl (lv_at hl 3 rfl) ?_
      refine lv_iconst (v := 2) hx hb dX6_through_20 (by decide) ?_
      obtain ⟨u5, s5, e5, h⟩ := zb_some h
      refine z_calli hS (z_runS (As := [.int x3, .int (2 : Int32)]) (rest := []) X hG hA hE hP hS (kX6_within (l := l) (D := D) (a := a) (cI := cI) (cJ := cJ) (cC := cC) (adK := adK) (adV := adV) e5 _) (va_cwS 2 hts gX6_through_X6_within rfl rfl rfl (by decide +kernel) ⟨Nat.le_of_ble_eq_true rfl, Nat.le_of_ble_eq_true rfl⟩) rfl hl.1 rfl (Nat.le_of_ble_eq_true rfl) dX6_through_21) (fun H locs hP hS => ?_)
      refine lv_if_ne (tgt := 31) hx hb dX6_through_24 (by decide) (fun c6 => ?_) (fun c6 => ?_)
      · have h := zif_f h c6
        refine lv_aload_n hx hb dX6_through_31 rfl (lv_at hl 0 rfl) ?_
        refine z_get (C := RX6) (T := TX6) (N := 12) X inX6 hP 0 (by decide) (zcC_0 _ _ _ _ _ _) rfl 3 (by decide) rfl (by decide +kernel) rfl dX6_through_32 ?_
        obtain ⟨u7, s7, e7, h⟩ := zb_some h
        refine z_callv hS (z_runV (As := []) (rest := []) X hG hA hE hP hS 19 (kX0_lookAtSheets (l := l) (D := D) (a := a) (cI := cI) (cJ := cJ) (cC := cC) (adK := adK) (adV := adV) e7 _) (cwV 0 hts gX6_through_X0_lookAtSheets rfl rfl rfl (by decide +kernel) ⟨Nat.le_of_ble_eq_true rfl, Nat.le_of_ble_eq_true rfl⟩) (by decide) (zcC_19 _ _ _ _ _ _) rfl rfl rfl hl.1 rfl (Nat.le_of_ble_eq_true rfl) dX6_through_35) (fun H locs hP hS => ?_)
        refine lv_aload_n hx hb dX6_through_38 rfl (lv_at hl 0 rfl) ?_
        refine z_get (C := RX6) (T := TX6) (N := 12) X inX6 hP 0 (by decide) (zcC_0 _ _ _ _ _ _) rfl 3 (by decide) rfl (by decide +kernel) rfl dX6_through_39 ?_
        refine lv_iload_n hx hb dX6_through_42 rfl (lv_at hl 1 rfl) ?_
        obtain ⟨u8, s8, e8, h⟩ := zb_some h
        refine z_callv hS (z_runV (As := [.int x1]) (rest := []) X hG hA hE hP hS 19 (kX0_pileStack (l := l) (D := D) (a := a) (cI := cI) (cJ := cJ) (cC := cC) (adK := adK) (adV := adV) e8 _) (cwV 1 hts gX6_through_X0_pileStack rfl rfl rfl (by decide +kernel) ⟨Nat.le_of_ble_eq_true rfl, Nat.le_of_ble_eq_true rfl⟩) (by decide) (zcC_19 _ _ _ _ _ _) rfl rfl rfl hl.1 rfl (Nat.le_of_ble_eq_true rfl) dX6_through_43) (fun H locs hP hS => ?_)
        refine lv_aload_n hx hb dX6_through_46 rfl (lv_at hl 0 rfl) ?_
        refine z_get (C := RX6) (T := TX6) (N := 12) X inX6 hP 0 (by decide) (zcC_0 _ _ _ _ _ _) rfl 3 (by decide) rfl (by decide +kernel) rfl dX6_through_47 ?_
        refine z_get (C := RX0) (T := TX0) (N := 5) X inX0 hP 19 (by decide) (zcC_19 _ _ _ _ _ _) rfl 2 (by decide) rfl (by decide +kernel) rfl dX6_through_50 ?_
        refine lv_iload_n hx hb dX6_through_53 rfl (lv_at hl 2 rfl) ?_
        obtain ⟨g9, h⟩ := zg_some h
        refine z_lald X hP 21 1 (by decide) (zcC_21 _ _ _ _ _ _) rfl g9 dX6_through_54 ?_
        refine lv_aload_n hx hb dX6_through_55 rfl (lv_at hl 0 rfl) ?_
        refine z_get (C := RX6) (T := TX6) (N := 12) X inX6 hP 0 (by decide) (zcC_0 _ _ _ _ _ _) rfl 3 (by decide) rfl (by decide +kernel) rfl dX6_through_56 ?_
        refine z_get (C := RX0) (T := TX0) (N := 5) X inX0 hP 19 (by decide) (zcC_19 _ _ _ _ _ _) rfl 3 (by decide) rfl (by decide +kernel) rfl dX6_through_59 ?_
        refine lv_iload_n hx hb dX6_through_62 rfl (lv_at hl 3 rfl) ?_
        obtain ⟨u10, s10, e10, h⟩ := zb_some h
        refine z_calll hS (z_runS (As := [.long ((s8).2 21 (x2).toNatClampNeg), .long ((s8).2 19 3), .int x3]) (rest := []) X hG hA hE hP hS (kX6_partOf (l := l) (D := D) (a := a) (cI := cI) (cJ := cJ) (cC := cC) (adK := adK) (adV := adV) e10 _) (va_cwS 3 hts gX6_through_X6_partOf rfl rfl rfl (by decide +kernel) ⟨Nat.le_of_ble_eq_true rfl, Nat.le_of_ble_eq_true rfl⟩) rfl hl.1 rfl (Nat.le_of_ble_eq_true rfl) dX6_through_63) (fun H locs hP hS => ?_)
        exact z_lret X hP hS hr hlocks h dX6_through_66
      · have h := zif_t h c6
        refine lv_ldc2 (own := RX6) (index := 160) (v := -9223372036854775808) hx hb hown (hts _ (by decide +kernel)) dX6_through_27 ?_
        exact z_lret X hP hS hr hlocks h dX6_through_30
abbrev rmX6_canSee : Room := { frames := 2, cells := 0, slots := 0, locals := 42 }
set_option maxHeartbeats 4000000 in
set_option maxRecDepth 100000 in
theorem kX6_canSee {l : Launch} {D : va_G} {a : Nat → Nat} {cI cJ cC : ClassId} {adK adV : Nat → Nat} {x1 : Int32} {x2 : Int32} {x3 : Int32} {s τ : ZS} {r : Int32} (h : fX6_canSee x1 x2 x3 s = some (r, τ)) : zMi (zcC a cI cJ cC) 41 a D [(cI, .int), (cJ, .long)] (zEC adK adV) l yX6_canSee wsX6_canSee rmX6_canSee [.ref (a 0), .int x1, .int x2, .int x3] s r τ := by
  refine z_start (cc := cX6_canSee) (maxL := 4) (ret := (some .boolean)) RX6 rfl (by decide) rfl (Nat.le_of_ble_eq_true rfl) ?_
  intro p e st m args below meth c ls H locs X hr hlocks hA hE hP hS hl
  obtain ⟨hx, hb, hml, hown, hts, -⟩ := id X
  have hG := zEC_good adK adV
  have inX6 : ∀ w ∈ u_ws RX6 TX6 12, w ∈ wsX6_canSee := by decide +kernel
  have hl : lv_has ls 4 [(0, .ref (a 0)), (1, .int x1), (2, .int x2), (3, .int x3)] := hl
  refine lv_aload_n hx hb dX6_canSee_0 rfl (lv_at hl 0 rfl) ?_
  refine z_get (C := RX6) (T := TX6) (N := 12) X inX6 hP 0 (by decide) (zcC_0 _ _ _ _ _ _) rfl 0 (by decide) rfl (by decide +kernel) rfl dX6_canSee_1 ?_
  refine lv_iload_n hx hb dX6_canSee_4 rfl (lv_at hl 1 rfl) ?_
  obtain ⟨u1, s1, e1, h⟩ := zb_some h
  refine z_calli hS (z_runV (As := [.int x1]) (rest := []) X hG hA hE hP hS 1 (kX3_hasStack (l := l) (D := D) (a := a) (cI := cI) (cJ := cJ) (cC := cC) (adK := adK) (adV := adV) e1 _) (cwV 1 hts gX6_canSee_X3_hasStack rfl rfl rfl (by decide +kernel) ⟨Nat.le_of_ble_eq_true rfl, Nat.le_of_ble_eq_true rfl⟩) (by decide) (zcC_1 _ _ _ _ _ _) rfl rfl rfl hl.1 rfl (Nat.le_of_ble_eq_true rfl) dX6_canSee_5) (fun H locs hP hS => ?_)
  refine lv_if_eq (tgt := 32) hx hb dX6_canSee_8 (by decide) (fun c2 => ?_) (fun c2 => ?_)
  · have h := zif_t h c2
    refine lv_iconst (v := 0) hx hb dX6_canSee_32 (by decide) ?_
    exact z_zret X hP hS hr hlocks (by decide) h dX6_canSee_33
  · have h := zif_f h c2
    refine lv_iload_n hx hb dX6_canSee_11 rfl (lv_at hl 2 rfl) ?_
    refine lv_iconst (v := 3) hx hb dX6_canSee_12 (by decide) ?_
    obtain ⟨u3, s3, e3, h⟩ := zb_some h
    refine z_calli hS (z_runS (As := [.int x2, .int (3 : Int32)]) (rest := []) X hG hA hE hP hS (kX6_within (l := l) (D := D) (a := a) (cI := cI) (cJ := cJ) (cC := cC) (adK := adK) (adV := adV) e3 _) (va_cwS 2 hts gX6_canSee_X6_within rfl rfl rfl (by decide +kernel) ⟨Nat.le_of_ble_eq_true rfl, Nat.le_of_ble_eq_true rfl⟩) rfl hl.1 rfl (Nat.le_of_ble_eq_true rfl) dX6_canSee_13) (fun H locs hP hS => ?_)
    refine lv_if_eq (tgt := 32) hx hb dX6_canSee_16 (by decide) (fun c4 => ?_) (fun c4 => ?_)
    · have h := zif_t h c4
      refine lv_iconst (v := 0) hx hb dX6_canSee_32 (by decide) ?_
      exact z_zret X hP hS hr hlocks (by decide) h dX6_canSee_33
    · have h := zif_f h c4
      refine lv_iload_n hx hb dX6_canSee_19 rfl (lv_at hl 3 rfl) ?_
      refine lv_bipush (v := 11) hx hb dX6_canSee_20 (by decide) ?_
      obtain ⟨u5, s5, e5, h⟩ := zb_some h
      refine z_calli hS (z_runS (As := [.int x3, .int (11 : Int32)]) (rest := []) X hG hA hE hP hS (kX6_within (l := l) (D := D) (a := a) (cI := cI) (cJ := cJ) (cC := cC) (adK := adK) (adV := adV) e5 _) (va_cwS 2 hts gX6_canSee_X6_within rfl rfl rfl (by decide +kernel) ⟨Nat.le_of_ble_eq_true rfl, Nat.le_of_ble_eq_true rfl⟩) rfl hl.1 rfl (Nat.le_of_ble_eq_true rfl) dX6_canSee_22) (fun H locs hP hS => ?_)
      refine lv_if_eq (tgt := 32) hx hb dX6_canSee_25 (by decide) (fun c6 => ?_) (fun c6 => ?_)
      · have h := zif_t h c6
        refine lv_iconst (v := 0) hx hb dX6_canSee_32 (by decide) ?_
        exact z_zret X hP hS hr hlocks (by decide) h dX6_canSee_33
      · have h := zif_f h c6
        refine lv_iconst (v := 1) hx hb dX6_canSee_28 (by decide) ?_
        refine lv_goto (tgt := 33) hx hb dX6_canSee_29 (by decide) ?_
        exact z_zret X hP hS hr hlocks (by decide) h dX6_canSee_33
abbrev rmX0_powerByAge : Room := { frames := 0, cells := 0, slots := 0, locals := 0 }
set_option maxHeartbeats 4000000 in
set_option maxRecDepth 100000 in
theorem kX0_powerByAge {l : Launch} {D : va_G} {a : Nat → Nat} {cI cJ cC : ClassId} {adK adV : Nat → Nat} {x0 : Int32} {x1 : Int32} {s τ : ZS} {r : Int32} (h : fX0_powerByAge x0 x1 s = some (r, τ)) : zMi (zcC a cI cJ cC) 41 a D [(cI, .int), (cJ, .long)] (zEC adK adV) l yX0_powerByAge wsX0_powerByAge rmX0_powerByAge [.int x0, .int x1] s r τ := by
  refine z_start (cc := cX0_powerByAge) (maxL := 2) (ret := (some .int)) RX0 rfl (by decide) rfl (Nat.le_of_ble_eq_true rfl) ?_
  intro p e st m args below meth c ls H locs X hr hlocks hA hE hP hS hl
  obtain ⟨hx, hb, hml, hown, hts, -⟩ := id X
  have hG := zEC_good adK adV
  have hl : lv_has ls 2 [(0, .int x0), (1, .int x1)] := hl
  refine lv_iload_n hx hb dX0_powerByAge_0 rfl (lv_at hl 0 rfl) ?_
  refine lv_if_ne (tgt := 6) hx hb dX0_powerByAge_1 (by decide) (fun c1 => ?_) (fun c1 => ?_)
  · have h := zif_f h c1
    refine lv_iload_n hx hb dX0_powerByAge_6 rfl (lv_at hl 1 rfl) ?_
    refine lv_iconst (v := 2) hx hb dX0_powerByAge_7 (by decide) ?_
    refine lv_icmp_ge (tgt := 18) hx hb dX0_powerByAge_8 (by decide) (fun c2 => ?_) (fun c2 => ?_)
    · have h := zif_t h c2
      refine lv_bipush (v := 10) hx hb dX0_powerByAge_18 (by decide) ?_
      exact z_iret X hP hS hr hlocks h dX0_powerByAge_20
    · have h := zif_f h c2
      refine lv_bipush (v := 10) hx hb dX0_powerByAge_11 (by decide) ?_
      refine lv_iload_n hx hb dX0_powerByAge_13 rfl (lv_at hl 0 rfl) ?_
      refine lv_isub hx hb dX0_powerByAge_14 ?_
      refine lv_goto (tgt := 20) hx hb dX0_powerByAge_15 (by decide) ?_
      exact z_iret X hP hS hr hlocks h dX0_powerByAge_20
  · have h := zif_t h c1
    refine lv_iconst (v := 1) hx hb dX0_powerByAge_4 (by decide) ?_
    exact z_iret X hP hS hr hlocks h dX0_powerByAge_5
abbrev rmX0_seen : Room := { frames := 1, cells := 0, slots := 0, locals := 21 }
set_option maxHeartbeats 4000000 in
set_option maxRecDepth 100000 in
theorem kX0_seen {l : Launch} {D : va_G} {a : Nat → Nat} {cI cJ cC : ClassId} {adK adV : Nat → Nat} {x1 : Int32} {x2 : Int32} {x3 : Int32} {s τ : ZS} {r : Int64} (h : fX0_seen x1 x2 x3 s = some (r, τ)) : zMl (zcC a cI cJ cC) 41 a D [(cI, .int), (cJ, .long)] (zEC adK adV) l yX0_seen wsX0_seen rmX0_seen [.ref (a 19), .int x1, .int x2, .int x3] s r τ := by
  refine z_start (cc := cX0_seen) (maxL := 8) (ret := (some .long)) RX0 rfl (by decide) rfl (Nat.le_of_ble_eq_true rfl) ?_
  intro p e st m args below meth c ls H locs X hr hlocks hA hE hP hS hl
  obtain ⟨hx, hb, hml, hown, hts, -⟩ := id X
  have hG := zEC_good adK adV
  have inX0 : ∀ w ∈ u_ws RX0 TX0 5, w ∈ wsX0_seen := by decide +kernel
  have inX3 : ∀ w ∈ u_ws RX3 TX3 10, w ∈ wsX0_seen := by decide +kernel
  have w24 : ∀  (n : Nat) (x1 : Int32) (x2 : Int32) (x3 : Int32) (x4 : Int64) (x6 : Int32) (s : ZS) (H : Heap) (locs : List Loc) (ls : Array Slot), fX0_seen_24n  n (x1, x2, x3, x4, x6, s) = some (r, τ) → va_P D vwCl (zW (zcC a cI cJ cC) 41 a s) H → va_S (zF 41 a st.heap.size) st.heap H locs → lv_has ls 8 [(0, .ref (a 19)), (1, .int x1), (2, .int x2), (3, .int x3), (4, .long x4), (6, .int x6)] → W p l e rmX0_seen st m args below meth c H locs 0 0 (MQ below (va_Ql (fun (r' : Int64) (τ' : ZS) => r' = r ∧ τ' = τ) (zPost (zcC a cI cJ cC) 41 a D [(cI, .int), (cJ, .long)]) (zF 41 a st.heap.size)) args st 0 0 (zF 41 a st.heap.size)) (F0 m 24 ls []) := by
    intro  n
    induction n with
    | zero => intro x1 x2 x3 x4 x6 s H locs ls h; exact zloop_0 h
    | succ n ih =>
      intro x1 x2 x3 x4 x6 s H locs ls h hP hS hl
      have h : fX0_seen_24b  (fun x1 x2 x3 x4 x6 s => fX0_seen_24n  n (x1, x2, x3, x4, x6, s)) x1 x2 x3 x4 x6 s = some (r, τ) := h
      refine lv_iload hx hb dX0_seen_24 (lv_at hl 5 rfl) ?_
      refine lv_iconst (v := 5) hx hb dX0_seen_26 (by decide) ?_
      refine lv_icmp_ge (tgt := 90) hx hb dX0_seen_27 (by decide) (fun c1 => ?_) (fun c1 => ?_)
      · have h := zif_t h c1
        refine lv_lload hx hb dX0_seen_90 (lv_at hl 4 rfl) ?_
        exact z_lret X hP hS hr hlocks h dX0_seen_92
      · have h := zif_f h c1
        refine lv_aload_n hx hb dX0_seen_30 rfl (lv_at hl 0 rfl) ?_
        refine z_get (C := RX0) (T := TX0) (N := 5) X inX0 hP 19 (by decide) (zcC_19 _ _ _ _ _ _) rfl 0 (by decide) rfl (by decide +kernel) rfl dX0_seen_31 ?_
        refine z_get (C := RX3) (T := TX3) (N := 10) X inX3 hP 1 (by decide) (zcC_1 _ _ _ _ _ _) rfl 7 (by decide) rfl (by decide +kernel) rfl dX0_seen_34 ?_
        refine lv_iload_n hx hb dX0_seen_37 rfl (lv_at hl 1 rfl) ?_
        refine lv_iconst (v := 5) hx hb dX0_seen_38 (by decide) ?_
        refine lv_imul hx hb dX0_seen_39 ?_
        refine lv_iload hx hb dX0_seen_40 (lv_at hl 5 rfl) ?_
        refine lv_iadd hx hb dX0_seen_42 ?_
        obtain ⟨g2, h⟩ := zg_some h
        refine z_iald X hP 7 0 (by decide) (zcC_7 _ _ _ _ _ _) rfl g2 dX0_seen_43 ?_
        refine lv_aload_n hx hb dX0_seen_44 rfl (lv_at hl 0 rfl) ?_
        refine z_get (C := RX0) (T := TX0) (N := 5) X inX0 hP 19 (by decide) (zcC_19 _ _ _ _ _ _) rfl 0 (by decide) rfl (by decide +kernel) rfl dX0_seen_45 ?_
        refine z_get (C := RX3) (T := TX3) (N := 10) X inX3 hP 1 (by decide) (zcC_1 _ _ _ _ _ _) rfl 8 (by decide) rfl (by decide +kernel) rfl dX0_seen_48 ?_
        refine lv_iload_n hx hb dX0_seen_51 rfl (lv_at hl 3 rfl) ?_
        refine lv_iconst (v := 5) hx hb dX0_seen_52 (by decide) ?_
        refine lv_imul hx hb dX0_seen_53 ?_
        refine lv_iload hx hb dX0_seen_54 (lv_at hl 5 rfl) ?_
        refine lv_iadd hx hb dX0_seen_56 ?_
        obtain ⟨g3, h⟩ := zg_some h
        refine z_iald X hP 8 0 (by decide) (zcC_8 _ _ _ _ _ _) rfl g3 dX0_seen_57 ?_
        refine lv_imul hx hb dX0_seen_58 ?_
        refine lv_istore (lv' := [(7, .int (((s).1 7 (((x1 * (5 : Int32)) + x6)).toNatClampNeg) * ((s).1 8 (((x3 * (5 : Int32)) + x6)).toNatClampNeg))), (0, .ref (a 19)), (1, .int x1), (2, .int x2), (3, .int x3), (4, .long x4), (6, .int x6)]) hx hb dX0_seen_59 hl (by decide) rfl (fun ls hl => ?_)
        refine lv_lload hx hb dX0_seen_61 (lv_at hl 5 rfl) ?_
        refine lv_aload_n hx hb dX0_seen_63 rfl (lv_at hl 1 rfl) ?_
        refine z_get (C := RX0) (T := TX0) (N := 5) X inX0 hP 19 (by decide) (zcC_19 _ _ _ _ _ _) rfl 2 (by decide) rfl (by decide +kernel) rfl dX0_seen_64 ?_
        refine lv_iload hx hb dX0_seen_67 (lv_at hl 6 rfl) ?_
        obtain ⟨g4, h⟩ := zg_some h
        refine z_lald X hP 21 1 (by decide) (zcC_21 _ _ _ _ _ _) rfl g4 dX0_seen_69 ?_
        refine lv_iload hx hb dX0_seen_70 (lv_at hl 0 rfl) ?_
        refine lv_iload_n hx hb dX0_seen_72 rfl (lv_at hl 3 rfl) ?_
        refine lv_iload hx hb dX0_seen_73 (lv_at hl 6 rfl) ?_
        obtain ⟨u5, s5, e5, h⟩ := zb_some h
        refine z_calli hS (z_runS (As := [.int x2, .int x6]) (rest := [.int (((s).1 7 (((x1 * (5 : Int32)) + x6)).toNatClampNeg) * ((s).1 8 (((x3 * (5 : Int32)) + x6)).toNatClampNeg)), .long ((s).2 21 (x6).toNatClampNeg), .long x4]) X hG hA hE hP hS (kX0_powerByAge (l := l) (D := D) (a := a) (cI := cI) (cJ := cJ) (cC := cC) (adK := adK) (adV := adV) e5 _) (va_cwS 2 hts gX0_seen_X0_powerByAge rfl rfl rfl (by decide +kernel) ⟨Nat.le_of_ble_eq_true rfl, Nat.le_of_ble_eq_true rfl⟩) rfl hl.1 rfl (Nat.le_of_ble_eq_true rfl) dX0_seen_75) (fun H locs hP hS => ?_)
        refine lv_imul hx hb dX0_seen_78 ?_
        refine lv_i2l hx hb dX0_seen_79 rfl ?_
        refine lv_lmul hx hb dX0_seen_80 ?_
        refine lv_ladd hx hb dX0_seen_81 ?_
        refine lv_lstore (lv' := [(4, .long (x4 + (((s).2 21 (x6).toNatClampNeg) * (((((s).1 7 (((x1 * (5 : Int32)) + x6)).toNatClampNeg) * ((s).1 8 (((x3 * (5 : Int32)) + x6)).toNatClampNeg)) * u5)).toInt64))), (7, .int (((s).1 7 (((x1 * (5 : Int32)) + x6)).toNatClampNeg) * ((s).1 8 (((x3 * (5 : Int32)) + x6)).toNatClampNeg))), (0, .ref (a 19)), (1, .int x1), (2, .int x2), (3, .int x3), (6, .int x6)]) hx hb dX0_seen_82 hl (by decide) rfl (fun ls hl => ?_)
        refine lv_iinc (v := (x6 + (1 : Int32))) (lv' := [(6, .int (x6 + (1 : Int32))), (4, .long (x4 + (((s).2 21 (x6).toNatClampNeg) * (((((s).1 7 (((x1 * (5 : Int32)) + x6)).toNatClampNeg) * ((s).1 8 (((x3 * (5 : Int32)) + x6)).toNatClampNeg)) * u5)).toInt64))), (7, .int (((s).1 7 (((x1 * (5 : Int32)) + x6)).toNatClampNeg) * ((s).1 8 (((x3 * (5 : Int32)) + x6)).toNatClampNeg))), (0, .ref (a 19)), (1, .int x1), (2, .int x2), (3, .int x3)]) hx hb dX0_seen_84 hl (k := 6) rfl rfl (by decide) rfl (fun ls hl => ?_)
        refine lv_goto (tgt := 24) hx hb dX0_seen_87 (by decide) ?_
        exact ih (x1) (x2) (x3) ((x4 + (((s).2 21 (x6).toNatClampNeg) * (((((s).1 7 (((x1 * (5 : Int32)) + x6)).toNatClampNeg) * ((s).1 8 (((x3 * (5 : Int32)) + x6)).toNatClampNeg)) * u5)).toInt64))) ((x6 + (1 : Int32))) (s5) _ _ _ h hP hS (lv_sub hl [3, 4, 5, 6, 1, 0] rfl)
  have hl : lv_has ls 8 [(0, .ref (a 19)), (1, .int x1), (2, .int x2), (3, .int x3)] := hl
  refine lv_iload_n hx hb dX0_seen_0 rfl (lv_at hl 1 rfl) ?_
  refine lv_iconst (v := 3) hx hb dX0_seen_1 (by decide) ?_
  obtain ⟨u1, s1, e1, h⟩ := zb_some h
  refine z_calli hS (z_runSN (As := [.int x1, .int (3 : Int32)]) (rest := []) X hG hA hE hP hS (kX6_within (l := l) (D := D) (a := a) (cI := cI) (cJ := cJ) (cC := cC) (adK := adK) (adV := adV) e1 _) (va_cnB 2 hts gX0_seen_X6_within_n42 rfl rfl rfl (zE_nest hE 0 rfl) (hts (.initialized RX6) (by decide +kernel)) (by decide +kernel) ⟨Nat.le_of_ble_eq_true rfl, Nat.le_of_ble_eq_true rfl⟩) (by decide +kernel) rfl hl.1 rfl (Nat.le_of_ble_eq_true rfl) dX0_seen_2) (fun H locs hP hS => ?_)
  refine lv_if_eq (tgt := 16) hx hb dX0_seen_5 (by decide) (fun c2 => ?_) (fun c2 => ?_)
  · have h := zif_t h c2
    refine lv_lconst (v := 0) hx hb dX0_seen_16 (by decide) ?_
    exact z_lret X hP hS hr hlocks h dX0_seen_17
  · have h := zif_f h c2
    refine lv_iload_n hx hb dX0_seen_8 rfl (lv_at hl 3 rfl) ?_
    refine lv_iconst (v := 3) hx hb dX0_seen_9 (by decide) ?_
    obtain ⟨u3, s3, e3, h⟩ := zb_some h
    refine z_calli hS (z_runSN (As := [.int x3, .int (3 : Int32)]) (rest := []) X hG hA hE hP hS (kX6_within (l := l) (D := D) (a := a) (cI := cI) (cJ := cJ) (cC := cC) (adK := adK) (adV := adV) e3 _) (va_cnB 2 hts gX0_seen_X6_within_n42 rfl rfl rfl (zE_nest hE 0 rfl) (hts (.initialized RX6) (by decide +kernel)) (by decide +kernel) ⟨Nat.le_of_ble_eq_true rfl, Nat.le_of_ble_eq_true rfl⟩) (by decide +kernel) rfl hl.1 rfl (Nat.le_of_ble_eq_true rfl) dX0_seen_10) (fun H locs hP hS => ?_)
    refine lv_if_ne (tgt := 18) hx hb dX0_seen_13 (by decide) (fun c4 => ?_) (fun c4 => ?_)
    · have h := zif_f h c4
      refine lv_lconst (v := 0) hx hb dX0_seen_18 (by decide) ?_
      refine lv_lstore (lv' := [(4, .long (0 : Int64)), (0, .ref (a 19)), (1, .int x1), (2, .int x2), (3, .int x3)]) hx hb dX0_seen_19 hl (by decide) rfl (fun ls hl => ?_)
      refine lv_iconst (v := 0) hx hb dX0_seen_21 (by decide) ?_
      refine lv_istore (lv' := [(6, .int (0 : Int32)), (4, .long (0 : Int64)), (0, .ref (a 19)), (1, .int x1), (2, .int x2), (3, .int x3)]) hx hb dX0_seen_22 hl (by decide) rfl (fun ls hl => ?_)
      exact w24  zN (x1) (x2) (x3) ((0 : Int64)) ((0 : Int32)) (s3) _ _ _ h hP hS (lv_sub hl [2, 3, 4, 5, 1, 0] rfl)
    · have h := zif_t h c4
      refine lv_lconst (v := 0) hx hb dX0_seen_16 (by decide) ?_
      exact z_lret X hP hS hr hlocks h dX0_seen_17
abbrev rmX0_wholeByAge : Room := { frames := 0, cells := 0, slots := 0, locals := 0 }
set_option maxHeartbeats 4000000 in
set_option maxRecDepth 100000 in
theorem kX0_wholeByAge {l : Launch} {D : va_G} {a : Nat → Nat} {cI cJ cC : ClassId} {adK adV : Nat → Nat} {x1 : Int32} {s τ : ZS} {r : Int64} (h : fX0_wholeByAge x1 s = some (r, τ)) : zMl (zcC a cI cJ cC) 41 a D [(cI, .int), (cJ, .long)] (zEC adK adV) l yX0_wholeByAge wsX0_wholeByAge rmX0_wholeByAge [.ref (a 19), .int x1] s r τ := by
  refine z_start (cc := cX0_wholeByAge) (maxL := 2) (ret := (some .long)) RX0 rfl (by decide) rfl (Nat.le_of_ble_eq_true rfl) ?_
  intro p e st m args below meth c ls H locs X hr hlocks hA hE hP hS hl
  obtain ⟨hx, hb, hml, hown, hts, -⟩ := id X
  have hG := zEC_good adK adV
  have inX0 : ∀ w ∈ u_ws RX0 TX0 5, w ∈ wsX0_wholeByAge := by decide +kernel
  have hl : lv_has ls 2 [(0, .ref (a 19)), (1, .int x1)] := hl
  refine lv_iload_n hx hb dX0_wholeByAge_0 rfl (lv_at hl 1 rfl) ?_
  refine lv_if_ne (tgt := 11) hx hb dX0_wholeByAge_1 (by decide) (fun c1 => ?_) (fun c1 => ?_)
  · have h := zif_f h c1
    refine lv_aload_n hx hb dX0_wholeByAge_11 rfl (lv_at hl 0 rfl) ?_
    refine z_get (C := RX0) (T := TX0) (N := 5) X inX0 hP 19 (by decide) (zcC_19 _ _ _ _ _ _) rfl 3 (by decide) rfl (by decide +kernel) rfl dX0_wholeByAge_12 ?_
    refine lv_ldc2 (own := RX0) (index := 90) (v := 10) hx hb hown (hts _ (by decide +kernel)) dX0_wholeByAge_15 ?_
    refine lv_lmul hx hb dX0_wholeByAge_18 ?_
    exact z_lret X hP hS hr hlocks h dX0_wholeByAge_19
  · have h := zif_t h c1
    refine lv_aload_n hx hb dX0_wholeByAge_4 rfl (lv_at hl 0 rfl) ?_
    refine z_get (C := RX0) (T := TX0) (N := 5) X inX0 hP 19 (by decide) (zcC_19 _ _ _ _ _ _) rfl 3 (by decide) rfl (by decide +kernel) rfl dX0_wholeByAge_5 ?_
    refine lv_goto (tgt := 19) hx hb dX0_wholeByAge_8 (by decide) ?_
    exact z_lret X hP hS hr hlocks h dX0_wholeByAge_19
abbrev rmX6_sees : Room := { frames := 5, cells := 0, slots := 0, locals := 114 }
set_option maxHeartbeats 4000000 in
set_option maxRecDepth 100000 in
theorem kX6_sees {l : Launch} {D : va_G} {a : Nat → Nat} {cI cJ cC : ClassId} {adK adV : Nat → Nat} {x1 : Int32} {x2 : Int32} {x3 : Int32} {x4 : Int32} {x5 : Int32} {s τ : ZS} {r : Int64} (h : fX6_sees x1 x2 x3 x4 x5 s = some (r, τ)) : zMl (zcC a cI cJ cC) 41 a D [(cI, .int), (cJ, .long)] (zEC adK adV) l yX6_sees wsX6_sees rmX6_sees [.ref (a 0), .int x1, .int x2, .int x3, .int x4, .int x5] s r τ := by
  refine z_start (cc := cX6_sees) (maxL := 6) (ret := (some .long)) RX6 rfl (by decide) rfl (Nat.le_of_ble_eq_true rfl) ?_
  intro p e st m args below meth c ls H locs X hr hlocks hA hE hP hS hl
  obtain ⟨hx, hb, hml, hown, hts, -⟩ := id X
  have hG := zEC_good adK adV
  have inX6 : ∀ w ∈ u_ws RX6 TX6 12, w ∈ wsX6_sees := by decide +kernel
  have hl : lv_has ls 6 [(0, .ref (a 0)), (1, .int x1), (2, .int x2), (3, .int x3), (4, .int x4), (5, .int x5)] := hl
  refine lv_aload_n hx hb dX6_sees_0 rfl (lv_at hl 0 rfl) ?_
  refine lv_iload_n hx hb dX6_sees_1 rfl (lv_at hl 1 rfl) ?_
  refine lv_iload_n hx hb dX6_sees_2 rfl (lv_at hl 2 rfl) ?_
  refine lv_iload_n hx hb dX6_sees_3 rfl (lv_at hl 3 rfl) ?_
  obtain ⟨u1, s1, e1, h⟩ := zb_some h
  refine z_calli hS (z_runV (As := [.int x1, .int x2, .int x3]) (rest := []) X hG hA hE hP hS 0 (kX6_canSee (l := l) (D := D) (a := a) (cI := cI) (cJ := cJ) (cC := cC) (adK := adK) (adV := adV) e1 _) (cwV 3 hts gX6_sees_X6_canSee rfl rfl rfl (by decide +kernel) ⟨Nat.le_of_ble_eq_true rfl, Nat.le_of_ble_eq_true rfl⟩) (by decide) (zcC_0 _ _ _ _ _ _) rfl rfl rfl hl.1 rfl (Nat.le_of_ble_eq_true rfl) dX6_sees_4) (fun H locs hP hS => ?_)
  refine lv_if_eq (tgt := 28) hx hb dX6_sees_7 (by decide) (fun c2 => ?_) (fun c2 => ?_)
  · have h := zif_t h c2
    refine lv_ldc2 (own := RX6) (index := 160) (v := -9223372036854775808) hx hb hown (hts _ (by decide +kernel)) dX6_sees_28 ?_
    exact z_lret X hP hS hr hlocks h dX6_sees_31
  · have h := zif_f h c2
    refine lv_iload hx hb dX6_sees_10 (lv_at hl 4 rfl) ?_
    refine lv_iconst (v := 3) hx hb dX6_sees_12 (by decide) ?_
    obtain ⟨u3, s3, e3, h⟩ := zb_some h
    refine z_calli hS (z_runS (As := [.int x4, .int (3 : Int32)]) (rest := []) X hG hA hE hP hS (kX6_within (l := l) (D := D) (a := a) (cI := cI) (cJ := cJ) (cC := cC) (adK := adK) (adV := adV) e3 _) (va_cwS 2 hts gX6_sees_X6_within rfl rfl rfl (by decide +kernel) ⟨Nat.le_of_ble_eq_true rfl, Nat.le_of_ble_eq_true rfl⟩) rfl hl.1 rfl (Nat.le_of_ble_eq_true rfl) dX6_sees_13) (fun H locs hP hS => ?_)
    refine lv_if_eq (tgt := 28) hx hb dX6_sees_16 (by decide) (fun c4 => ?_) (fun c4 => ?_)
    · have h := zif_t h c4
      refine lv_ldc2 (own := RX6) (index := 160) (v := -9223372036854775808) hx hb hown (hts _ (by decide +kernel)) dX6_sees_28 ?_
      exact z_lret X hP hS hr hlocks h dX6_sees_31
    · have h := zif_f h c4
      refine lv_iload hx hb dX6_sees_19 (lv_at hl 5 rfl) ?_
      refine lv_iconst (v := 2) hx hb dX6_sees_21 (by decide) ?_
      obtain ⟨u5, s5, e5, h⟩ := zb_some h
      refine z_calli hS (z_runS (As := [.int x5, .int (2 : Int32)]) (rest := []) X hG hA hE hP hS (kX6_within (l := l) (D := D) (a := a) (cI := cI) (cJ := cJ) (cC := cC) (adK := adK) (adV := adV) e5 _) (va_cwS 2 hts gX6_sees_X6_within rfl rfl rfl (by decide +kernel) ⟨Nat.le_of_ble_eq_true rfl, Nat.le_of_ble_eq_true rfl⟩) rfl hl.1 rfl (Nat.le_of_ble_eq_true rfl) dX6_sees_22) (fun H locs hP hS => ?_)
      refine lv_if_ne (tgt := 32) hx hb dX6_sees_25 (by decide) (fun c6 => ?_) (fun c6 => ?_)
      · have h := zif_f h c6
        refine lv_aload_n hx hb dX6_sees_32 rfl (lv_at hl 0 rfl) ?_
        refine z_get (C := RX6) (T := TX6) (N := 12) X inX6 hP 0 (by decide) (zcC_0 _ _ _ _ _ _) rfl 3 (by decide) rfl (by decide +kernel) rfl dX6_sees_33 ?_
        obtain ⟨u7, s7, e7, h⟩ := zb_some h
        refine z_callv hS (z_runV (As := []) (rest := []) X hG hA hE hP hS 19 (kX0_lookAtSheets (l := l) (D := D) (a := a) (cI := cI) (cJ := cJ) (cC := cC) (adK := adK) (adV := adV) e7 _) (cwV 0 hts gX6_sees_X0_lookAtSheets rfl rfl rfl (by decide +kernel) ⟨Nat.le_of_ble_eq_true rfl, Nat.le_of_ble_eq_true rfl⟩) (by decide) (zcC_19 _ _ _ _ _ _) rfl rfl rfl hl.1 rfl (Nat.le_of_ble_eq_true rfl) dX6_sees_36) (fun H locs hP hS => ?_)
        refine lv_aload_n hx hb dX6_sees_39 rfl (lv_at hl 0 rfl) ?_
        refine z_get (C := RX6) (T := TX6) (N := 12) X inX6 hP 0 (by decide) (zcC_0 _ _ _ _ _ _) rfl 3 (by decide) rfl (by decide +kernel) rfl dX6_sees_40 ?_
        refine lv_iload_n hx hb dX6_sees_43 rfl (lv_at hl 1 rfl) ?_
        obtain ⟨u8, s8, e8, h⟩ := zb_some h
        refine z_callv hS (z_runV (As := [.int x1]) (rest := []) X hG hA hE hP hS 19 (kX0_pileStack (l := l) (D := D) (a := a) (cI := cI) (cJ := cJ) (cC := cC) (adK := adK) (adV := adV) e8 _) (cwV 1 hts gX6_sees_X0_pileStack rfl rfl rfl (by decide +kernel) ⟨Nat.le_of_ble_eq_true rfl, Nat.le_of_ble_eq_true rfl⟩) (by decide) (zcC_19 _ _ _ _ _ _) rfl rfl rfl hl.1 rfl (Nat.le_of_ble_eq_true rfl) dX6_sees_44) (fun H locs hP hS => ?_)
        refine lv_aload_n hx hb dX6_sees_47 rfl (lv_at hl 0 rfl) ?_
        refine z_get (C := RX6) (T := TX6) (N := 12) X inX6 hP 0 (by decide) (zcC_0 _ _ _ _ _ _) rfl 3 (by decide) rfl (by decide +kernel) rfl dX6_sees_48 ?_
        refine lv_iload_n hx hb dX6_sees_51 rfl (lv_at hl 2 rfl) ?_
        refine lv_iload_n hx hb dX6_sees_52 rfl (lv_at hl 3 rfl) ?_
        refine lv_iload hx hb dX6_sees_53 (lv_at hl 4 rfl) ?_
        obtain ⟨u9, s9, e9, h⟩ := zb_some h
        refine z_calll hS (z_runV (As := [.int x2, .int x3, .int x4]) (rest := []) X hG hA hE hP hS 19 (kX0_seen (l := l) (D := D) (a := a) (cI := cI) (cJ := cJ) (cC := cC) (adK := adK) (adV := adV) e9 _) (cwV 3 hts gX6_sees_X0_seen rfl rfl rfl (by decide +kernel) ⟨Nat.le_of_ble_eq_true rfl, Nat.le_of_ble_eq_true rfl⟩) (by decide) (zcC_19 _ _ _ _ _ _) rfl rfl rfl hl.1 rfl (Nat.le_of_ble_eq_true rfl) dX6_sees_55) (fun H locs hP hS => ?_)
        refine lv_aload_n hx hb dX6_sees_58 rfl (lv_at hl 0 rfl) ?_
        refine z_get (C := RX6) (T := TX6) (N := 12) X inX6 hP 0 (by decide) (zcC_0 _ _ _ _ _ _) rfl 3 (by decide) rfl (by decide +kernel) rfl dX6_sees_59 ?_
        refine lv_iload_n hx hb dX6_sees_62 rfl (lv_at hl 3 rfl) ?_
        obtain ⟨u10, s10, e10, h⟩ := zb_some h
        refine z_calll hS (z_runV (As := [.int x3]) (rest := [.long u9]) X hG hA hE hP hS 19 (kX0_wholeByAge (l := l) (D := D) (a := a) (cI := cI) (cJ := cJ) (cC := cC) (adK := adK) (adV := adV) e10 _) (cwV 1 hts gX6_sees_X0_wholeByAge rfl rfl rfl (by decide +kernel) ⟨Nat.le_of_ble_eq_true rfl, Nat.le_of_ble_eq_true rfl⟩) (by decide) (zcC_19 _ _ _ _ _ _) rfl rfl rfl hl.1 rfl (Nat.le_of_ble_eq_true rfl) dX6_sees_63) (fun H locs hP hS => ?_)
        refine lv_iload hx hb dX6_sees_66 (lv_at hl 5 rfl) ?_
        obtain ⟨u11, s11, e11, h⟩ := zb_some h
        refine z_calll hS (z_runS (As := [.long u9, .long u10, .int x5]) (rest := []) X hG hA hE hP hS (kX6_partOf (l := l) (D := D) (a := a) (cI := cI) (cJ := cJ) (cC := cC) (adK := adK) (adV := adV) e11 _) (va_cwS 3 hts gX6_sees_X6_partOf rfl rfl rfl (by decide +kernel) ⟨Nat.le_of_ble_eq_true rfl, Nat.le_of_ble_eq_true rfl⟩) rfl hl.1 rfl (Nat.le_of_ble_eq_true rfl) dX6_sees_68) (fun H locs hP hS => ?_)
        exact z_lret X hP hS hr hlocks h dX6_sees_71
      · have h := zif_t h c6
        refine lv_ldc2 (own := RX6) (index := 160) (v := -9223372036854775808) hx hb hown (hts _ (by decide +kernel)) dX6_sees_28 ?_
        exact z_lret X hP hS hr hlocks h dX6_sees_31
abbrev rmX0_shadeOf : Room := { frames := 2, cells := 0, slots := 0, locals := 48 }
set_option maxHeartbeats 4000000 in
set_option maxRecDepth 100000 in
theorem kX0_shadeOf {l : Launch} {D : va_G} {a : Nat → Nat} {cI cJ cC : ClassId} {adK adV : Nat → Nat} {x1 : Int32} {x2 : Int32} {x3 : Int32} {s τ : ZS} {r : Int32} (h : fX0_shadeOf x1 x2 x3 s = some (r, τ)) : zMi (zcC a cI cJ cC) 41 a D [(cI, .int), (cJ, .long)] (zEC adK adV) l yX0_shadeOf wsX0_shadeOf rmX0_shadeOf [.ref (a 19), .int x1, .int x2, .int x3] s r τ := by
  refine z_start (cc := cX0_shadeOf) (maxL := 4) (ret := (some .int)) RX0 rfl (by decide) rfl (Nat.le_of_ble_eq_true rfl) ?_
  intro p e st m args below meth c ls H locs X hr hlocks hA hE hP hS hl
  obtain ⟨hx, hb, hml, hown, hts, -⟩ := id X
  have hG := zEC_good adK adV
  have hl : lv_has ls 4 [(0, .ref (a 19)), (1, .int x1), (2, .int x2), (3, .int x3)] := hl
  refine lv_aload_n hx hb dX0_shadeOf_0 rfl (lv_at hl 0 rfl) ?_
  refine lv_iload_n hx hb dX0_shadeOf_1 rfl (lv_at hl 1 rfl) ?_
  refine lv_iload_n hx hb dX0_shadeOf_2 rfl (lv_at hl 2 rfl) ?_
  refine lv_iload_n hx hb dX0_shadeOf_3 rfl (lv_at hl 3 rfl) ?_
  obtain ⟨u1, s1, e1, h⟩ := zb_some h
  refine z_calll hS (z_runV (As := [.int x1, .int x2, .int x3]) (rest := []) X hG hA hE hP hS 19 (kX0_seen (l := l) (D := D) (a := a) (cI := cI) (cJ := cJ) (cC := cC) (adK := adK) (adV := adV) e1 _) (cwV 3 hts gX0_shadeOf_X0_seen rfl rfl rfl (by decide +kernel) ⟨Nat.le_of_ble_eq_true rfl, Nat.le_of_ble_eq_true rfl⟩) (by decide) (zcC_19 _ _ _ _ _ _) rfl rfl rfl hl.1 rfl (Nat.le_of_ble_eq_true rfl) dX0_shadeOf_4) (fun H locs hP hS => ?_)
  refine lv_aload_n hx hb dX0_shadeOf_7 rfl (lv_at hl 0 rfl) ?_
  refine lv_iload_n hx hb dX0_shadeOf_8 rfl (lv_at hl 2 rfl) ?_
  obtain ⟨u2, s2, e2, h⟩ := zb_some h
  refine z_calll hS (z_runV (As := [.int x2]) (rest := [.long u1]) X hG hA hE hP hS 19 (kX0_wholeByAge (l := l) (D := D) (a := a) (cI := cI) (cJ := cJ) (cC := cC) (adK := adK) (adV := adV) e2 _) (cwV 1 hts gX0_shadeOf_X0_wholeByAge rfl rfl rfl (by decide +kernel) ⟨Nat.le_of_ble_eq_true rfl, Nat.le_of_ble_eq_true rfl⟩) (by decide) (zcC_19 _ _ _ _ _ _) rfl rfl rfl hl.1 rfl (Nat.le_of_ble_eq_true rfl) dX0_shadeOf_9) (fun H locs hP hS => ?_)
  obtain ⟨u3, s3, e3, h⟩ := zb_some h
  refine z_calll hS (z_runSN (As := [.long u1, .long u2]) (rest := []) X hG hA hE hP hS (kX6_cut (l := l) (D := D) (a := a) (cI := cI) (cJ := cJ) (cC := cC) (adK := adK) (adV := adV) e3 _) (va_cnB 2 hts gX0_shadeOf_X6_cut_n100 rfl rfl rfl (zE_nest hE 5 rfl) (hts (.initialized RX6) (by decide +kernel)) (by decide +kernel) ⟨Nat.le_of_ble_eq_true rfl, Nat.le_of_ble_eq_true rfl⟩) (by decide +kernel) rfl hl.1 rfl (Nat.le_of_ble_eq_true rfl) dX0_shadeOf_12) (fun H locs hP hS => ?_)
  refine lv_l2i hx hb dX0_shadeOf_15 rfl ?_
  exact z_iret X hP hS hr hlocks h dX0_shadeOf_16
abbrev rmX6_shade : Room := { frames := 5, cells := 0, slots := 0, locals := 114 }
set_option maxHeartbeats 4000000 in
set_option maxRecDepth 100000 in
theorem kX6_shade {l : Launch} {D : va_G} {a : Nat → Nat} {cI cJ cC : ClassId} {adK adV : Nat → Nat} {x1 : Int32} {x2 : Int32} {x3 : Int32} {x4 : Int32} {s τ : ZS} {r : Int32} (h : fX6_shade x1 x2 x3 x4 s = some (r, τ)) : zMi (zcC a cI cJ cC) 41 a D [(cI, .int), (cJ, .long)] (zEC adK adV) l yX6_shade wsX6_shade rmX6_shade [.ref (a 0), .int x1, .int x2, .int x3, .int x4] s r τ := by
  refine z_start (cc := cX6_shade) (maxL := 5) (ret := (some .int)) RX6 rfl (by decide) rfl (Nat.le_of_ble_eq_true rfl) ?_
  intro p e st m args below meth c ls H locs X hr hlocks hA hE hP hS hl
  obtain ⟨hx, hb, hml, hown, hts, -⟩ := id X
  have hG := zEC_good adK adV
  have inX6 : ∀ w ∈ u_ws RX6 TX6 12, w ∈ wsX6_shade := by decide +kernel
  have hl : lv_has ls 5 [(0, .ref (a 0)), (1, .int x1), (2, .int x2), (3, .int x3), (4, .int x4)] := hl
  refine lv_aload_n hx hb dX6_shade_0 rfl (lv_at hl 0 rfl) ?_
  refine lv_iload_n hx hb dX6_shade_1 rfl (lv_at hl 1 rfl) ?_
  refine lv_iload_n hx hb dX6_shade_2 rfl (lv_at hl 2 rfl) ?_
  refine lv_iload_n hx hb dX6_shade_3 rfl (lv_at hl 3 rfl) ?_
  obtain ⟨u1, s1, e1, h⟩ := zb_some h
  refine z_calli hS (z_runV (As := [.int x1, .int x2, .int x3]) (rest := []) X hG hA hE hP hS 0 (kX6_canSee (l := l) (D := D) (a := a) (cI := cI) (cJ := cJ) (cC := cC) (adK := adK) (adV := adV) e1 _) (cwV 3 hts gX6_shade_X6_canSee rfl rfl rfl (by decide +kernel) ⟨Nat.le_of_ble_eq_true rfl, Nat.le_of_ble_eq_true rfl⟩) (by decide) (zcC_0 _ _ _ _ _ _) rfl rfl rfl hl.1 rfl (Nat.le_of_ble_eq_true rfl) dX6_shade_4) (fun H locs hP hS => ?_)
  refine lv_if_eq (tgt := 19) hx hb dX6_shade_7 (by decide) (fun c2 => ?_) (fun c2 => ?_)
  · have h := zif_t h c2
    refine lv_iconst (v := -1) hx hb dX6_shade_19 (by decide) ?_
    exact z_iret X hP hS hr hlocks h dX6_shade_20
  · have h := zif_f h c2
    refine lv_iload hx hb dX6_shade_10 (lv_at hl 4 rfl) ?_
    refine lv_iconst (v := 3) hx hb dX6_shade_12 (by decide) ?_
    obtain ⟨u3, s3, e3, h⟩ := zb_some h
    refine z_calli hS (z_runS (As := [.int x4, .int (3 : Int32)]) (rest := []) X hG hA hE hP hS (kX6_within (l := l) (D := D) (a := a) (cI := cI) (cJ := cJ) (cC := cC) (adK := adK) (adV := adV) e3 _) (va_cwS 2 hts gX6_shade_X6_within rfl rfl rfl (by decide +kernel) ⟨Nat.le_of_ble_eq_true rfl, Nat.le_of_ble_eq_true rfl⟩) rfl hl.1 rfl (Nat.le_of_ble_eq_true rfl) dX6_shade_13) (fun H locs hP hS => ?_)
    refine lv_if_ne (tgt := 21) hx hb dX6_shade_16 (by decide) (fun c4 => ?_) (fun c4 => ?_)
    · have h := zif_f h c4
      refine lv_aload_n hx hb dX6_shade_21 rfl (lv_at hl 0 rfl) ?_
      refine z_get (C := RX6) (T := TX6) (N := 12) X inX6 hP 0 (by decide) (zcC_0 _ _ _ _ _ _) rfl 3 (by decide) rfl (by decide +kernel) rfl dX6_shade_22 ?_
      obtain ⟨u5, s5, e5, h⟩ := zb_some h
      refine z_callv hS (z_runV (As := []) (rest := []) X hG hA hE hP hS 19 (kX0_lookAtSheets (l := l) (D := D) (a := a) (cI := cI) (cJ := cJ) (cC := cC) (adK := adK) (adV := adV) e5 _) (cwV 0 hts gX6_shade_X0_lookAtSheets rfl rfl rfl (by decide +kernel) ⟨Nat.le_of_ble_eq_true rfl, Nat.le_of_ble_eq_true rfl⟩) (by decide) (zcC_19 _ _ _ _ _ _) rfl rfl rfl hl.1 rfl (Nat.le_of_ble_eq_true rfl) dX6_shade_25) (fun H locs hP hS => ?_)
      refine lv_aload_n hx hb dX6_shade_28 rfl (lv_at hl 0 rfl) ?_
      refine z_get (C := RX6) (T := TX6) (N := 12) X inX6 hP 0 (by decide) (zcC_0 _ _ _ _ _ _) rfl 3 (by decide) rfl (by decide +kernel) rfl dX6_shade_29 ?_
      refine lv_iload_n hx hb dX6_shade_32 rfl (lv_at hl 1 rfl) ?_
      obtain ⟨u6, s6, e6, h⟩ := zb_some h
      refine z_callv hS (z_runV (As := [.int x1]) (rest := []) X hG hA hE hP hS 19 (kX0_pileStack (l := l) (D := D) (a := a) (cI := cI) (cJ := cJ) (cC := cC) (adK := adK) (adV := adV) e6 _) (cwV 1 hts gX6_shade_X0_pileStack rfl rfl rfl (by decide +kernel) ⟨Nat.le_of_ble_eq_true rfl, Nat.le_of_ble_eq_true rfl⟩) (by decide) (zcC_19 _ _ _ _ _ _) rfl rfl rfl hl.1 rfl (Nat.le_of_ble_eq_true rfl) dX6_shade_33) (fun H locs hP hS => ?_)
      refine lv_aload_n hx hb dX6_shade_36 rfl (lv_at hl 0 rfl) ?_
      refine z_get (C := RX6) (T := TX6) (N := 12) X inX6 hP 0 (by decide) (zcC_0 _ _ _ _ _ _) rfl 3 (by decide) rfl (by decide +kernel) rfl dX6_shade_37 ?_
      refine lv_iload_n hx hb dX6_shade_40 rfl (lv_at hl 2 rfl) ?_
      refine lv_iload_n hx hb dX6_shade_41 rfl (lv_at hl 3 rfl) ?_
      refine lv_iload hx hb dX6_shade_42 (lv_at hl 4 rfl) ?_
      obtain ⟨u7, s7, e7, h⟩ := zb_some h
      refine z_calli hS (z_runV (As := [.int x2, .int x3, .int x4]) (rest := []) X hG hA hE hP hS 19 (kX0_shadeOf (l := l) (D := D) (a := a) (cI := cI) (cJ := cJ) (cC := cC) (adK := adK) (adV := adV) e7 _) (cwV 3 hts gX6_shade_X0_shadeOf rfl rfl rfl (by decide +kernel) ⟨Nat.le_of_ble_eq_true rfl, Nat.le_of_ble_eq_true rfl⟩) (by decide) (zcC_19 _ _ _ _ _ _) rfl rfl rfl hl.1 rfl (Nat.le_of_ble_eq_true rfl) dX6_shade_44) (fun H locs hP hS => ?_)
      exact z_iret X hP hS hr hlocks h dX6_shade_47
    · have h := zif_t h c4
      refine lv_iconst (v := -1) hx hb dX6_shade_19 (by decide) ?_
      exact z_iret X hP hS hr hlocks h dX6_shade_20
abbrev rmX0_seenInto_19_39 : Room := { frames := 2, cells := 0, slots := 0, locals := 48 }
set_option maxHeartbeats 4000000 in
set_option maxRecDepth 100000 in
theorem kX0_seenInto_19_39 {l : Launch} {D : va_G} {a : Nat → Nat} {cI cJ cC : ClassId} {adK adV : Nat → Nat} {x2 : Int32} {s τ : ZS} {r : Unit} (h : fX0_seenInto_19_39 x2 s = some (r, τ)) : zMv (zcC a cI cJ cC) 41 a D [(cI, .int), (cJ, .long)] (zEC adK adV) l yX0_seenInto wsX0_seenInto rmX0_seenInto_19_39 [.ref (a 19), .ref (a 39), .int x2] s r τ := by
  refine z_start (cc := cX0_seenInto) (maxL := 6) (ret := none) RX0 rfl (by decide) rfl (Nat.le_of_ble_eq_true rfl) ?_
  intro p e st m args below meth c ls H locs X hr hlocks hA hE hP hS hl
  obtain ⟨hx, hb, hml, hown, hts, -⟩ := id X
  have hG := zEC_good adK adV
  have inX0 : ∀ w ∈ u_ws RX0 TX0 5, w ∈ wsX0_seenInto := by decide +kernel
  have w30 : ∀  (n : Nat) (x2 : Int32) (x3 : Int64) (x5 : Int32) (s : ZS) (H : Heap) (locs : List Loc) (ls : Array Slot), fX0_seenInto_19_39_30n  n (x2, x3, x5, s) = some (r, τ) → va_P D vwCl (zW (zcC a cI cJ cC) 41 a s) H → va_S (zF 41 a st.heap.size) st.heap H locs → lv_has ls 6 [(0, .ref (a 19)), (1, .ref (a 39)), (2, .int x2), (3, .long x3), (5, .int x5)] → W p l e rmX0_seenInto_19_39 st m args below meth c H locs 0 0 (MQ below (va_Qv (fun (τ' : ZS) => τ' = τ) (zPost (zcC a cI cJ cC) 41 a D [(cI, .int), (cJ, .long)]) (zF 41 a st.heap.size)) args st 0 0 (zF 41 a st.heap.size)) (F0 m 30 ls []) := by
    intro  n
    induction n with
    | zero => intro x2 x3 x5 s H locs ls h; exact zloop_0 h
    | succ n ih =>
      intro x2 x3 x5 s H locs ls h hP hS hl
      have h : fX0_seenInto_19_39_30b  (fun x2 x3 x5 s => fX0_seenInto_19_39_30n  n (x2, x3, x5, s)) x2 x3 x5 s = some (r, τ) := h
      refine lv_iload hx hb dX0_seenInto_30 (lv_at hl 4 rfl) ?_
      refine lv_iconst (v := 3) hx hb dX0_seenInto_32 (by decide) ?_
      refine lv_icmp_ge (tgt := 63) hx hb dX0_seenInto_33 (by decide) (fun c1 => ?_) (fun c1 => ?_)
      · have h := zif_t h c1
        exact z_vret X hP hS hr hlocks h dX0_seenInto_63
      · have h := zif_f h c1
        refine lv_iload hx hb dX0_seenInto_36 (lv_at hl 4 rfl) ?_
        refine lv_aload_n hx hb dX0_seenInto_38 rfl (lv_at hl 1 rfl) ?_
        refine z_alen (v := 3) X hP 39 1 (by decide) (zcC_39 _ _ _ _ _ _) rfl rfl dX0_seenInto_39 ?_
        refine lv_icmp_ge (tgt := 63) hx hb dX0_seenInto_40 (by decide) (fun c2 => ?_) (fun c2 => ?_)
        · have h := zif_t h c2
          exact z_vret X hP hS hr hlocks h dX0_seenInto_63
        · have h := zif_f h c2
          refine lv_aload_n hx hb dX0_seenInto_43 rfl (lv_at hl 1 rfl) ?_
          refine lv_iload hx hb dX0_seenInto_44 (lv_at hl 4 rfl) ?_
          refine lv_aload_n hx hb dX0_seenInto_46 rfl (lv_at hl 0 rfl) ?_
          refine lv_iload_n hx hb dX0_seenInto_47 rfl (lv_at hl 2 rfl) ?_
          refine lv_iconst (v := 0) hx hb dX0_seenInto_48 (by decide) ?_
          refine lv_iload hx hb dX0_seenInto_49 (lv_at hl 4 rfl) ?_
          obtain ⟨u3, s3, e3, h⟩ := zb_some h
          refine z_calll hS (z_runV (As := [.int x2, .int (0 : Int32), .int x5]) (rest := [.int x5, .ref (a 39)]) X hG hA hE hP hS 19 (kX0_seen (l := l) (D := D) (a := a) (cI := cI) (cJ := cJ) (cC := cC) (adK := adK) (adV := adV) e3 _) (cwV 3 hts gX0_seenInto_X0_seen rfl rfl rfl (by decide +kernel) ⟨Nat.le_of_ble_eq_true rfl, Nat.le_of_ble_eq_true rfl⟩) (by decide) (zcC_19 _ _ _ _ _ _) rfl rfl rfl hl.1 rfl (Nat.le_of_ble_eq_true rfl) dX0_seenInto_51) (fun H locs hP hS => ?_)
          refine lv_lload_n hx hb dX0_seenInto_54 rfl (lv_at hl 3 rfl) ?_
          refine lv_lmul hx hb dX0_seenInto_55 ?_
          obtain ⟨g4, h⟩ := zg_some h
          refine z_last X hA hP hS 39 1 (by decide) (zcC_39 _ _ _ _) rfl g4 dX0_seenInto_56 (fun H locs hP hS => ?_)
          refine lv_iinc (v := (x5 + (1 : Int32))) (lv' := [(5, .int (x5 + (1 : Int32))), (0, .ref (a 19)), (1, .ref (a 39)), (2, .int x2), (3, .long x3)]) hx hb dX0_seenInto_57 hl (k := 4) rfl rfl (by decide) rfl (fun ls hl => ?_)
          refine lv_goto (tgt := 30) hx hb dX0_seenInto_60 (by decide) ?_
          exact ih (x2) (x3) ((x5 + (1 : Int32))) ((zL s3 39 (x5).toNatClampNeg (u3 * x3))) _ _ _ h hP hS (lv_sub hl [1, 2, 3, 4, 0] rfl)
  have w8 : ∀  (n : Nat) (x2 : Int32) (x3 : Int64) (x5 : Int32) (s : ZS) (H : Heap) (locs : List Loc) (ls : Array Slot), fX0_seenInto_19_39_8n  n (x2, x3, x5, s) = some (r, τ) → va_P D vwCl (zW (zcC a cI cJ cC) 41 a s) H → va_S (zF 41 a st.heap.size) st.heap H locs → lv_has ls 6 [(0, .ref (a 19)), (1, .ref (a 39)), (2, .int x2), (3, .long x3), (5, .int x5)] → W p l e rmX0_seenInto_19_39 st m args below meth c H locs 0 0 (MQ below (va_Qv (fun (τ' : ZS) => τ' = τ) (zPost (zcC a cI cJ cC) 41 a D [(cI, .int), (cJ, .long)]) (zF 41 a st.heap.size)) args st 0 0 (zF 41 a st.heap.size)) (F0 m 8 ls []) := by
    intro  n
    induction n with
    | zero => intro x2 x3 x5 s H locs ls h; exact zloop_0 h
    | succ n ih =>
      intro x2 x3 x5 s H locs ls h hP hS hl
      have h : fX0_seenInto_19_39_8b  (fun x2 x3 x5 s => fX0_seenInto_19_39_8n  n (x2, x3, x5, s)) x2 x3 x5 s = some (r, τ) := h
      refine lv_iload hx hb dX0_seenInto_8 (lv_at hl 4 rfl) ?_
      refine lv_bipush (v := 6) hx hb dX0_seenInto_10 (by decide) ?_
      refine lv_icmp_ge (tgt := 27) hx hb dX0_seenInto_12 (by decide) (fun c1 => ?_) (fun c1 => ?_)
      · have h := zif_t h c1
        refine lv_iconst (v := 0) hx hb dX0_seenInto_27 (by decide) ?_
        refine lv_istore (lv' := [(5, .int (0 : Int32)), (0, .ref (a 19)), (1, .ref (a 39)), (2, .int x2), (3, .long x3)]) hx hb dX0_seenInto_28 hl (by decide) rfl (fun ls hl => ?_)
        exact w30  zN (x2) (x3) ((0 : Int32)) (s) _ _ _ h hP hS (lv_sub hl [1, 2, 3, 4, 0] rfl)
      · have h := zif_f h c1
        refine lv_lload_n hx hb dX0_seenInto_15 rfl (lv_at hl 3 rfl) ?_
        refine lv_ldc2 (own := RX0) (index := 57) (v := 100) hx hb hown (hts _ (by decide +kernel)) dX0_seenInto_16 ?_
        refine lv_lmul hx hb dX0_seenInto_19 ?_
        refine lv_lstore_n (lv' := [(3, .long (x3 * (100 : Int64))), (0, .ref (a 19)), (1, .ref (a 39)), (2, .int x2), (5, .int x5)]) hx hb dX0_seenInto_20 rfl hl (by decide) rfl (fun ls hl => ?_)
        refine lv_iinc (v := (x5 + (1 : Int32))) (lv' := [(5, .int (x5 + (1 : Int32))), (3, .long (x3 * (100 : Int64))), (0, .ref (a 19)), (1, .ref (a 39)), (2, .int x2)]) hx hb dX0_seenInto_21 hl (k := 4) rfl rfl (by decide) rfl (fun ls hl => ?_)
        refine lv_goto (tgt := 8) hx hb dX0_seenInto_24 (by decide) ?_
        exact ih (x2) ((x3 * (100 : Int64))) ((x5 + (1 : Int32))) (s) _ _ _ h hP hS (lv_sub hl [2, 3, 4, 1, 0] rfl)
  have hl : lv_has ls 6 [(0, .ref (a 19)), (1, .ref (a 39)), (2, .int x2)] := hl
  refine lv_lconst (v := 1) hx hb dX0_seenInto_0 (by decide) ?_
  refine lv_lstore_n (lv' := [(3, .long (1 : Int64)), (0, .ref (a 19)), (1, .ref (a 39)), (2, .int x2)]) hx hb dX0_seenInto_1 rfl hl (by decide) rfl (fun ls hl => ?_)
  refine lv_aload_n hx hb dX0_seenInto_2 rfl (lv_at hl 1 rfl) ?_
  refine z_get (C := RX0) (T := TX0) (N := 5) X inX0 hP 19 (by decide) (zcC_19 _ _ _ _ _ _) rfl 4 (by decide) rfl (by decide +kernel) rfl dX0_seenInto_3 ?_
  refine lv_istore (lv' := [(5, .int ((s).1 19 4)), (3, .long (1 : Int64)), (0, .ref (a 19)), (1, .ref (a 39)), (2, .int x2)]) hx hb dX0_seenInto_6 hl (by decide) rfl (fun ls hl => ?_)
  exact w8  zN (x2) ((1 : Int64)) (((s).1 19 4)) (s) _ _ _ h hP hS (lv_sub hl [2, 3, 4, 1, 0] rfl)
abbrev rmX0_seenInto_19_40 : Room := { frames := 2, cells := 0, slots := 0, locals := 48 }
set_option maxHeartbeats 4000000 in
set_option maxRecDepth 100000 in
theorem kX0_seenInto_19_40 {l : Launch} {D : va_G} {a : Nat → Nat} {cI cJ cC : ClassId} {adK adV : Nat → Nat} {x2 : Int32} {s τ : ZS} {r : Unit} (h : fX0_seenInto_19_40 x2 s = some (r, τ)) : zMv (zcC a cI cJ cC) 41 a D [(cI, .int), (cJ, .long)] (zEC adK adV) l yX0_seenInto wsX0_seenInto rmX0_seenInto_19_40 [.ref (a 19), .ref (a 40), .int x2] s r τ := by
  refine z_start (cc := cX0_seenInto) (maxL := 6) (ret := none) RX0 rfl (by decide) rfl (Nat.le_of_ble_eq_true rfl) ?_
  intro p e st m args below meth c ls H locs X hr hlocks hA hE hP hS hl
  obtain ⟨hx, hb, hml, hown, hts, -⟩ := id X
  have hG := zEC_good adK adV
  have inX0 : ∀ w ∈ u_ws RX0 TX0 5, w ∈ wsX0_seenInto := by decide +kernel
  have w30 : ∀  (n : Nat) (x2 : Int32) (x3 : Int64) (x5 : Int32) (s : ZS) (H : Heap) (locs : List Loc) (ls : Array Slot), fX0_seenInto_19_40_30n  n (x2, x3, x5, s) = some (r, τ) → va_P D vwCl (zW (zcC a cI cJ cC) 41 a s) H → va_S (zF 41 a st.heap.size) st.heap H locs → lv_has ls 6 [(0, .ref (a 19)), (1, .ref (a 40)), (2, .int x2), (3, .long x3), (5, .int x5)] → W p l e rmX0_seenInto_19_40 st m args below meth c H locs 0 0 (MQ below (va_Qv (fun (τ' : ZS) => τ' = τ) (zPost (zcC a cI cJ cC) 41 a D [(cI, .int), (cJ, .long)]) (zF 41 a st.heap.size)) args st 0 0 (zF 41 a st.heap.size)) (F0 m 30 ls []) := by
    intro  n
    induction n with
    | zero => intro x2 x3 x5 s H locs ls h; exact zloop_0 h
    | succ n ih =>
      intro x2 x3 x5 s H locs ls h hP hS hl
      have h : fX0_seenInto_19_40_30b  (fun x2 x3 x5 s => fX0_seenInto_19_40_30n  n (x2, x3, x5, s)) x2 x3 x5 s = some (r, τ) := h
      refine lv_iload hx hb dX0_seenInto_30 (lv_at hl 4 rfl) ?_
      refine lv_iconst (v := 3) hx hb dX0_seenInto_32 (by decide) ?_
      refine lv_icmp_ge (tgt := 63) hx hb dX0_seenInto_33 (by decide) (fun c1 => ?_) (fun c1 => ?_)
      · have h := zif_t h c1
        exact z_vret X hP hS hr hlocks h dX0_seenInto_63
      · have h := zif_f h c1
        refine lv_iload hx hb dX0_seenInto_36 (lv_at hl 4 rfl) ?_
        refine lv_aload_n hx hb dX0_seenInto_38 rfl (lv_at hl 1 rfl) ?_
        refine z_alen (v := 3) X hP 40 1 (by decide) (zcC_40 _ _ _ _ _ _) rfl rfl dX0_seenInto_39 ?_
        refine lv_icmp_ge (tgt := 63) hx hb dX0_seenInto_40 (by decide) (fun c2 => ?_) (fun c2 => ?_)
        · have h := zif_t h c2
          exact z_vret X hP hS hr hlocks h dX0_seenInto_63
        · have h := zif_f h c2
          refine lv_aload_n hx hb dX0_seenInto_43 rfl (lv_at hl 1 rfl) ?_
          refine lv_iload hx hb dX0_seenInto_44 (lv_at hl 4 rfl) ?_
          refine lv_aload_n hx hb dX0_seenInto_46 rfl (lv_at hl 0 rfl) ?_
          refine lv_iload_n hx hb dX0_seenInto_47 rfl (lv_at hl 2 rfl) ?_
          refine lv_iconst (v := 0) hx hb dX0_seenInto_48 (by decide) ?_
          refine lv_iload hx hb dX0_seenInto_49 (lv_at hl 4 rfl) ?_
          obtain ⟨u3, s3, e3, h⟩ := zb_some h
          refine z_calll hS (z_runV (As := [.int x2, .int (0 : Int32), .int x5]) (rest := [.int x5, .ref (a 40)]) X hG hA hE hP hS 19 (kX0_seen (l := l) (D := D) (a := a) (cI := cI) (cJ := cJ) (cC := cC) (adK := adK) (adV := adV) e3 _) (cwV 3 hts gX0_seenInto_X0_seen rfl rfl rfl (by decide +kernel) ⟨Nat.le_of_ble_eq_true rfl, Nat.le_of_ble_eq_true rfl⟩) (by decide) (zcC_19 _ _ _ _ _ _) rfl rfl rfl hl.1 rfl (Nat.le_of_ble_eq_true rfl) dX0_seenInto_51) (fun H locs hP hS => ?_)
          refine lv_lload_n hx hb dX0_seenInto_54 rfl (lv_at hl 3 rfl) ?_
          refine lv_lmul hx hb dX0_seenInto_55 ?_
          obtain ⟨g4, h⟩ := zg_some h
          refine z_last X hA hP hS 40 1 (by decide) (zcC_40 _ _ _ _) rfl g4 dX0_seenInto_56 (fun H locs hP hS => ?_)
          refine lv_iinc (v := (x5 + (1 : Int32))) (lv' := [(5, .int (x5 + (1 : Int32))), (0, .ref (a 19)), (1, .ref (a 40)), (2, .int x2), (3, .long x3)]) hx hb dX0_seenInto_57 hl (k := 4) rfl rfl (by decide) rfl (fun ls hl => ?_)
          refine lv_goto (tgt := 30) hx hb dX0_seenInto_60 (by decide) ?_
          exact ih (x2) (x3) ((x5 + (1 : Int32))) ((zL s3 40 (x5).toNatClampNeg (u3 * x3))) _ _ _ h hP hS (lv_sub hl [1, 2, 3, 4, 0] rfl)
  have w8 : ∀  (n : Nat) (x2 : Int32) (x3 : Int64) (x5 : Int32) (s : ZS) (H : Heap) (locs : List Loc) (ls : Array Slot), fX0_seenInto_19_40_8n  n (x2, x3, x5, s) = some (r, τ) → va_P D vwCl (zW (zcC a cI cJ cC) 41 a s) H → va_S (zF 41 a st.heap.size) st.heap H locs → lv_has ls 6 [(0, .ref (a 19)), (1, .ref (a 40)), (2, .int x2), (3, .long x3), (5, .int x5)] → W p l e rmX0_seenInto_19_40 st m args below meth c H locs 0 0 (MQ below (va_Qv (fun (τ' : ZS) => τ' = τ) (zPost (zcC a cI cJ cC) 41 a D [(cI, .int), (cJ, .long)]) (zF 41 a st.heap.size)) args st 0 0 (zF 41 a st.heap.size)) (F0 m 8 ls []) := by
    intro  n
    induction n with
    | zero => intro x2 x3 x5 s H locs ls h; exact zloop_0 h
    | succ n ih =>
      intro x2 x3 x5 s H locs ls h hP hS hl
      have h : fX0_seenInto_19_40_8b  (fun x2 x3 x5 s => fX0_seenInto_19_40_8n  n (x2, x3, x5, s)) x2 x3 x5 s = some (r, τ) := h
      refine lv_iload hx hb dX0_seenInto_8 (lv_at hl 4 rfl) ?_
      refine lv_bipush (v := 6) hx hb dX0_seenInto_10 (by decide) ?_
      refine lv_icmp_ge (tgt := 27) hx hb dX0_seenInto_12 (by decide) (fun c1 => ?_) (fun c1 => ?_)
      · have h := zif_t h c1
        refine lv_iconst (v := 0) hx hb dX0_seenInto_27 (by decide) ?_
        refine lv_istore (lv' := [(5, .int (0 : Int32)), (0, .ref (a 19)), (1, .ref (a 40)), (2, .int x2), (3, .long x3)]) hx hb dX0_seenInto_28 hl (by decide) rfl (fun ls hl => ?_)
        exact w30  zN (x2) (x3) ((0 : Int32)) (s) _ _ _ h hP hS (lv_sub hl [1, 2, 3, 4, 0] rfl)
      · have h := zif_f h c1
        refine lv_lload_n hx hb dX0_seenInto_15 rfl (lv_at hl 3 rfl) ?_
        refine lv_ldc2 (own := RX0) (index := 57) (v := 100) hx hb hown (hts _ (by decide +kernel)) dX0_seenInto_16 ?_
        refine lv_lmul hx hb dX0_seenInto_19 ?_
        refine lv_lstore_n (lv' := [(3, .long (x3 * (100 : Int64))), (0, .ref (a 19)), (1, .ref (a 40)), (2, .int x2), (5, .int x5)]) hx hb dX0_seenInto_20 rfl hl (by decide) rfl (fun ls hl => ?_)
        refine lv_iinc (v := (x5 + (1 : Int32))) (lv' := [(5, .int (x5 + (1 : Int32))), (3, .long (x3 * (100 : Int64))), (0, .ref (a 19)), (1, .ref (a 40)), (2, .int x2)]) hx hb dX0_seenInto_21 hl (k := 4) rfl rfl (by decide) rfl (fun ls hl => ?_)
        refine lv_goto (tgt := 8) hx hb dX0_seenInto_24 (by decide) ?_
        exact ih (x2) ((x3 * (100 : Int64))) ((x5 + (1 : Int32))) (s) _ _ _ h hP hS (lv_sub hl [2, 3, 4, 1, 0] rfl)
  have hl : lv_has ls 6 [(0, .ref (a 19)), (1, .ref (a 40)), (2, .int x2)] := hl
  refine lv_lconst (v := 1) hx hb dX0_seenInto_0 (by decide) ?_
  refine lv_lstore_n (lv' := [(3, .long (1 : Int64)), (0, .ref (a 19)), (1, .ref (a 40)), (2, .int x2)]) hx hb dX0_seenInto_1 rfl hl (by decide) rfl (fun ls hl => ?_)
  refine lv_aload_n hx hb dX0_seenInto_2 rfl (lv_at hl 1 rfl) ?_
  refine z_get (C := RX0) (T := TX0) (N := 5) X inX0 hP 19 (by decide) (zcC_19 _ _ _ _ _ _) rfl 4 (by decide) rfl (by decide +kernel) rfl dX0_seenInto_3 ?_
  refine lv_istore (lv' := [(5, .int ((s).1 19 4)), (3, .long (1 : Int64)), (0, .ref (a 19)), (1, .ref (a 40)), (2, .int x2)]) hx hb dX0_seenInto_6 hl (by decide) rfl (fun ls hl => ?_)
  exact w8  zN (x2) ((1 : Int64)) (((s).1 19 4)) (s) _ _ _ h hP hS (lv_sub hl [2, 3, 4, 1, 0] rfl)
abbrev rmX6_looksAlike : Room := { frames := 5, cells := 0, slots := 0, locals := 108 }
set_option maxHeartbeats 4000000 in
set_option maxRecDepth 100000 in
theorem kX6_looksAlike {l : Launch} {D : va_G} {a : Nat → Nat} {cI cJ cC : ClassId} {adK adV : Nat → Nat} {x1 : Int32} {x2 : Int32} {x3 : Int32} {s τ : ZS} {r : Int32} (h : fX6_looksAlike x1 x2 x3 s = some (r, τ)) : zMi (zcC a cI cJ cC) 41 a D [(cI, .int), (cJ, .long)] (zEC adK adV) l yX6_looksAlike wsX6_looksAlike rmX6_looksAlike [.ref (a 0), .int x1, .int x2, .int x3] s r τ := by
  refine z_start (cc := cX6_looksAlike) (maxL := 5) (ret := (some .boolean)) RX6 rfl (by decide) rfl (Nat.le_of_ble_eq_true rfl) ?_
  intro p e st m args below meth c ls H locs X hr hlocks hA hE hP hS hl
  obtain ⟨hx, hb, hml, hown, hts, -⟩ := id X
  have hG := zEC_good adK adV
  have inX6 : ∀ w ∈ u_ws RX6 TX6 12, w ∈ wsX6_looksAlike := by decide +kernel
  have w43 : ∀  (n : Nat) (x4 : Int32) (s : ZS) (H : Heap) (locs : List Loc) (ls : Array Slot), fX6_looksAlike_43n  n (x4, s) = some (r, τ) → va_P D vwCl (zW (zcC a cI cJ cC) 41 a s) H → va_S (zF 41 a st.heap.size) st.heap H locs → lv_has ls 5 [(0, .ref (a 0)), (4, .int x4)] → W p l e rmX6_looksAlike st m args below meth c H locs 0 0 (MQ below (va_Qi (fun (r' : Int32) (τ' : ZS) => r' = r ∧ τ' = τ) (zPost (zcC a cI cJ cC) 41 a D [(cI, .int), (cJ, .long)]) (zF 41 a st.heap.size)) args st 0 0 (zF 41 a st.heap.size)) (F0 m 43 ls []) := by
    intro  n
    induction n with
    | zero => intro x4 s H locs ls h; exact zloop_0 h
    | succ n ih =>
      intro x4 s H locs ls h hP hS hl
      have h : fX6_looksAlike_43b  (fun x4 s => fX6_looksAlike_43n  n (x4, s)) x4 s = some (r, τ) := h
      refine lv_iload hx hb dX6_looksAlike_43 (lv_at hl 1 rfl) ?_
      refine lv_iconst (v := 3) hx hb dX6_looksAlike_45 (by decide) ?_
      refine lv_icmp_ge (tgt := 75) hx hb dX6_looksAlike_46 (by decide) (fun c1 => ?_) (fun c1 => ?_)
      · have h := zif_t h c1
        refine lv_iconst (v := 1) hx hb dX6_looksAlike_75 (by decide) ?_
        exact z_zret X hP hS hr hlocks (by decide) h dX6_looksAlike_76
      · have h := zif_f h c1
        refine lv_aload_n hx hb dX6_looksAlike_49 rfl (lv_at hl 0 rfl) ?_
        refine z_get (C := RX6) (T := TX6) (N := 12) X inX6 hP 0 (by decide) (zcC_0 _ _ _ _ _ _) rfl 10 (by decide) rfl (by decide +kernel) rfl dX6_looksAlike_50 ?_
        refine lv_iload hx hb dX6_looksAlike_53 (lv_at hl 1 rfl) ?_
        obtain ⟨g2, h⟩ := zg_some h
        refine z_lald X hP 39 1 (by decide) (zcC_39 _ _ _ _ _ _) rfl g2 dX6_looksAlike_55 ?_
        refine lv_aload_n hx hb dX6_looksAlike_56 rfl (lv_at hl 0 rfl) ?_
        refine z_get (C := RX6) (T := TX6) (N := 12) X inX6 hP 0 (by decide) (zcC_0 _ _ _ _ _ _) rfl 11 (by decide) rfl (by decide +kernel) rfl dX6_looksAlike_57 ?_
        refine lv_iload hx hb dX6_looksAlike_60 (lv_at hl 1 rfl) ?_
        obtain ⟨g3, h⟩ := zg_some h
        refine z_lald X hP 40 1 (by decide) (zcC_40 _ _ _ _ _ _) rfl g3 dX6_looksAlike_62 ?_
        refine W.lcmp hx hb dX6_looksAlike_63 ?_
        refine lv_if_eq (tgt := 69) hx hb dX6_looksAlike_64 (by decide) (fun c4 => ?_) (fun c4 => ?_)
        · have h := zif_t h c4
          refine lv_iinc (v := (x4 + (1 : Int32))) (lv' := [(4, .int (x4 + (1 : Int32))), (0, .ref (a 0))]) hx hb dX6_looksAlike_69 hl (k := 1) rfl rfl (by decide) rfl (fun ls hl => ?_)
          refine lv_goto (tgt := 43) hx hb dX6_looksAlike_72 (by decide) ?_
          exact ih ((x4 + (1 : Int32))) (s) _ _ _ h hP hS (lv_sub hl [1, 0] rfl)
        · have h := zif_f h c4
          refine lv_iconst (v := 0) hx hb dX6_looksAlike_67 (by decide) ?_
          exact z_zret X hP hS hr hlocks (by decide) h dX6_looksAlike_68
  have hl : lv_has ls 5 [(0, .ref (a 0)), (1, .int x1), (2, .int x2), (3, .int x3)] := hl
  refine lv_aload_n hx hb dX6_looksAlike_0 rfl (lv_at hl 0 rfl) ?_
  refine z_get (C := RX6) (T := TX6) (N := 12) X inX6 hP 0 (by decide) (zcC_0 _ _ _ _ _ _) rfl 3 (by decide) rfl (by decide +kernel) rfl dX6_looksAlike_1 ?_
  refine lv_iload_n hx hb dX6_looksAlike_4 rfl (lv_at hl 1 rfl) ?_
  obtain ⟨u1, s1, e1, h⟩ := zb_some h
  refine z_callv hS (z_runV (As := [.int x1]) (rest := []) X hG hA hE hP hS 19 (kX0_pileStack (l := l) (D := D) (a := a) (cI := cI) (cJ := cJ) (cC := cC) (adK := adK) (adV := adV) e1 _) (cwV 1 hts gX6_looksAlike_X0_pileStack rfl rfl rfl (by decide +kernel) ⟨Nat.le_of_ble_eq_true rfl, Nat.le_of_ble_eq_true rfl⟩) (by decide) (zcC_19 _ _ _ _ _ _) rfl rfl rfl hl.1 rfl (Nat.le_of_ble_eq_true rfl) dX6_looksAlike_5) (fun H locs hP hS => ?_)
  refine lv_aload_n hx hb dX6_looksAlike_8 rfl (lv_at hl 0 rfl) ?_
  refine z_get (C := RX6) (T := TX6) (N := 12) X inX6 hP 0 (by decide) (zcC_0 _ _ _ _ _ _) rfl 3 (by decide) rfl (by decide +kernel) rfl dX6_looksAlike_9 ?_
  refine lv_aload_n hx hb dX6_looksAlike_12 rfl (lv_at hl 0 rfl) ?_
  refine z_get (C := RX6) (T := TX6) (N := 12) X inX6 hP 0 (by decide) (zcC_0 _ _ _ _ _ _) rfl 10 (by decide) rfl (by decide +kernel) rfl dX6_looksAlike_13 ?_
  refine lv_iload_n hx hb dX6_looksAlike_16 rfl (lv_at hl 3 rfl) ?_
  obtain ⟨u2, s2, e2, h⟩ := zb_some h
  refine z_callv hS (z_runV (As := [.ref (a 39), .int x3]) (rest := []) X hG hA hE hP hS 19 (kX0_seenInto_19_39 (l := l) (D := D) (a := a) (cI := cI) (cJ := cJ) (cC := cC) (adK := adK) (adV := adV) e2 _) (cwV 2 hts gX6_looksAlike_X0_seenInto rfl rfl rfl (by decide +kernel) ⟨Nat.le_of_ble_eq_true rfl, Nat.le_of_ble_eq_true rfl⟩) (by decide) (zcC_19 _ _ _ _ _ _) rfl rfl rfl hl.1 rfl (Nat.le_of_ble_eq_true rfl) dX6_looksAlike_17) (fun H locs hP hS => ?_)
  refine lv_aload_n hx hb dX6_looksAlike_20 rfl (lv_at hl 0 rfl) ?_
  refine z_get (C := RX6) (T := TX6) (N := 12) X inX6 hP 0 (by decide) (zcC_0 _ _ _ _ _ _) rfl 3 (by decide) rfl (by decide +kernel) rfl dX6_looksAlike_21 ?_
  refine lv_iload_n hx hb dX6_looksAlike_24 rfl (lv_at hl 2 rfl) ?_
  obtain ⟨u3, s3, e3, h⟩ := zb_some h
  refine z_callv hS (z_runV (As := [.int x2]) (rest := []) X hG hA hE hP hS 19 (kX0_pileStack (l := l) (D := D) (a := a) (cI := cI) (cJ := cJ) (cC := cC) (adK := adK) (adV := adV) e3 _) (cwV 1 hts gX6_looksAlike_X0_pileStack rfl rfl rfl (by decide +kernel) ⟨Nat.le_of_ble_eq_true rfl, Nat.le_of_ble_eq_true rfl⟩) (by decide) (zcC_19 _ _ _ _ _ _) rfl rfl rfl hl.1 rfl (Nat.le_of_ble_eq_true rfl) dX6_looksAlike_25) (fun H locs hP hS => ?_)
  refine lv_aload_n hx hb dX6_looksAlike_28 rfl (lv_at hl 0 rfl) ?_
  refine z_get (C := RX6) (T := TX6) (N := 12) X inX6 hP 0 (by decide) (zcC_0 _ _ _ _ _ _) rfl 3 (by decide) rfl (by decide +kernel) rfl dX6_looksAlike_29 ?_
  refine lv_aload_n hx hb dX6_looksAlike_32 rfl (lv_at hl 0 rfl) ?_
  refine z_get (C := RX6) (T := TX6) (N := 12) X inX6 hP 0 (by decide) (zcC_0 _ _ _ _ _ _) rfl 11 (by decide) rfl (by decide +kernel) rfl dX6_looksAlike_33 ?_
  refine lv_iload_n hx hb dX6_looksAlike_36 rfl (lv_at hl 3 rfl) ?_
  obtain ⟨u4, s4, e4, h⟩ := zb_some h
  refine z_callv hS (z_runV (As := [.ref (a 40), .int x3]) (rest := []) X hG hA hE hP hS 19 (kX0_seenInto_19_40 (l := l) (D := D) (a := a) (cI := cI) (cJ := cJ) (cC := cC) (adK := adK) (adV := adV) e4 _) (cwV 2 hts gX6_looksAlike_X0_seenInto rfl rfl rfl (by decide +kernel) ⟨Nat.le_of_ble_eq_true rfl, Nat.le_of_ble_eq_true rfl⟩) (by decide) (zcC_19 _ _ _ _ _ _) rfl rfl rfl hl.1 rfl (Nat.le_of_ble_eq_true rfl) dX6_looksAlike_37) (fun H locs hP hS => ?_)
  refine lv_iconst (v := 0) hx hb dX6_looksAlike_40 (by decide) ?_
  refine lv_istore (lv' := [(4, .int (0 : Int32)), (0, .ref (a 0)), (1, .int x1), (2, .int x2), (3, .int x3)]) hx hb dX6_looksAlike_41 hl (by decide) rfl (fun ls hl => ?_)
  exact w43  zN ((0 : Int32)) (s4) _ _ _ h hP hS (lv_sub hl [1, 0] rfl)
