abbrev rmX7_feed : Room := { frames := 1, cells := 0, slots := 0, locals := 25 }
set_option maxHeartbeats 4000000 in
set_option maxRecDepth 100000 in
theorem kX7_feed {l : Launch} {D : va_G} {a : Nat → Nat} {cI cJ cC : ClassId} {x1 : Int32} {s τ : ZS} {r : Int32} (h : fX7_feed x1 s = some (r, τ)) : zMi (zcM a cI cJ cC) 17 a D [(cI, .int), (cJ, .long), (cC, .char)] zEM l yX7_feed wsX7_feed rmX7_feed [.ref (a 0), .int x1] s r τ := by
  refine z_start (cc := cX7_feed) (maxL := 2) (ret := (some .int)) RX7 rfl (by decide) rfl (Nat.le_of_ble_eq_true rfl) ?_
  intro p e st m args below meth c ls H locs X hr hlocks hA hE hP hS hl
  obtain ⟨hx, hb, hml, hown, hts, -⟩ := id X
  have hG := zEM_good
  have inX7 : ∀ w ∈ u_ws RX7 TX7 26, w ∈ wsX7_feed := by decide +kernel
  have hl : lv_has ls 2 [(0, .ref (a 0)), (1, .int x1)] := hl
  refine lv_iload_n hx hb dX7_feed_0 rfl (lv_at hl 1 rfl) ?_
  refine lv_i2l hx hb dX7_feed_1 rfl ?_
  refine lv_lconst (v := 1) hx hb dX7_feed_2 (by decide) ?_
  refine lv_ldc2 (own := RX7) (index := 116) (v := 127) hx hb hown (hts _ (by decide +kernel)) dX7_feed_3 ?_
  obtain ⟨u1, s1, e1, h⟩ := zb_some h
  refine z_calli hS (z_runS (As := [.long (x1).toInt64, .long (1 : Int64), .long (127 : Int64)]) (rest := []) X hG hA hE hP hS (kX7_isIn (l := l) (D := D) (a := a) (cI := cI) (cJ := cJ) (cC := cC) e1 _) (va_cwS 3 hts gX7_feed_X7_isIn rfl rfl rfl (by decide +kernel) ⟨Nat.le_of_ble_eq_true rfl, Nat.le_of_ble_eq_true rfl⟩) rfl hl.1 rfl (Nat.le_of_ble_eq_true rfl) dX7_feed_6) (fun H locs hP hS => ?_)
  refine lv_if_ne (tgt := 15) hx hb dX7_feed_9 (by decide) (fun c2 => ?_) (fun c2 => ?_)
  · have h := zif_f h c2
    refine lv_aload_n hx hb dX7_feed_15 rfl (lv_at hl 0 rfl) ?_
    refine z_get (C := RX7) (T := TX7) (N := 26) X inX7 hP 0 (by decide) (zcM_0 _ _ _ _ _ _) rfl 8 (by decide) rfl (by decide +kernel) rfl dX7_feed_16 ?_
    refine lv_bipush (v := 80) hx hb dX7_feed_19 (by decide) ?_
    refine lv_icmp_ne (tgt := 27) hx hb dX7_feed_21 (by decide) (fun c3 => ?_) (fun c3 => ?_)
    · have h := zif_f h c3
      refine lv_aload_n hx hb dX7_feed_27 rfl (lv_at hl 0 rfl) ?_
      refine z_get (C := RX7) (T := TX7) (N := 26) X inX7 hP 0 (by decide) (zcM_0 _ _ _ _ _ _) rfl 7 (by decide) rfl (by decide +kernel) rfl dX7_feed_28 ?_
      refine lv_aload_n hx hb dX7_feed_31 rfl (lv_at hl 0 rfl) ?_
      refine z_get (C := RX7) (T := TX7) (N := 26) X inX7 hP 0 (by decide) (zcM_0 _ _ _ _ _ _) rfl 8 (by decide) rfl (by decide +kernel) rfl dX7_feed_32 ?_
      refine lv_iload_n hx hb dX7_feed_35 rfl (lv_at hl 1 rfl) ?_
      obtain ⟨g4, h⟩ := zg_some h
      refine z_iast X hA hP hS 6 0 (by decide) (zcM_6 _ _ _ _) rfl g4 dX7_feed_36 (fun H locs hP hS => ?_)
      refine lv_aload_n hx hb dX7_feed_37 rfl (lv_at hl 0 rfl) ?_
      refine lv_dup hx hb dX7_feed_38 rfl ?_
      refine z_get (C := RX7) (T := TX7) (N := 26) X inX7 hP 0 (by decide) (zcM_0 _ _ _ _ _ _) rfl 8 (by decide) rfl (by decide +kernel) rfl dX7_feed_39 ?_
      refine lv_iconst (v := 1) hx hb dX7_feed_42 (by decide) ?_
      refine lv_iadd hx hb dX7_feed_43 ?_
      refine z_put (ty := .int) (x := ((((zI s1 6 (((s1).1 0 8)).toNatClampNeg x1)).1 0 8) + (1 : Int32))) (C := RX7) (T := TX7) (N := 26) X inX7 tyX7 tyX7_ok nmX7 hA hP hS 0 (by decide) (zcM_0 _ _ _ _ _ _) rfl 8 (by decide) rfl (by decide +kernel) rfl (by decide +kernel) rfl rfl (Nat.le_of_ble_eq_true rfl) rfl dX7_feed_44 (fun H locs hP hS => ?_)
      refine lv_aload_n hx hb dX7_feed_47 rfl (lv_at hl 0 rfl) ?_
      refine z_get (C := RX7) (T := TX7) (N := 26) X inX7 hP 0 (by decide) (zcM_0 _ _ _ _ _ _) rfl 8 (by decide) rfl (by decide +kernel) rfl dX7_feed_48 ?_
      exact z_iret X hP hS hr hlocks h dX7_feed_51
    · have h := zif_t h c3
      refine lv_bipush (v := -4) hx hb dX7_feed_24 (by decide) ?_
      exact z_iret X hP hS hr hlocks h dX7_feed_26
  · have h := zif_t h c2
    refine lv_bipush (v := -2) hx hb dX7_feed_12 (by decide) ?_
    exact z_iret X hP hS hr hlocks h dX7_feed_14
abbrev rmX7_isAt : Room := { frames := 1, cells := 0, slots := 0, locals := 25 }
set_option maxHeartbeats 4000000 in
set_option maxRecDepth 100000 in
theorem kX7_isAt {l : Launch} {D : va_G} {a : Nat → Nat} {cI cJ cC : ClassId} {x1 : Int32} {x2 : Int32} {s τ : ZS} {r : Int32} (h : fX7_isAt x1 x2 s = some (r, τ)) : zMi (zcM a cI cJ cC) 17 a D [(cI, .int), (cJ, .long), (cC, .char)] zEM l yX7_isAt wsX7_isAt rmX7_isAt [.ref (a 0), .int x1, .int x2] s r τ := by
  refine z_start (cc := cX7_isAt) (maxL := 3) (ret := (some .boolean)) RX7 rfl (by decide) rfl (Nat.le_of_ble_eq_true rfl) ?_
  intro p e st m args below meth c ls H locs X hr hlocks hA hE hP hS hl
  obtain ⟨hx, hb, hml, hown, hts, -⟩ := id X
  have hG := zEM_good
  have inX7 : ∀ w ∈ u_ws RX7 TX7 26, w ∈ wsX7_isAt := by decide +kernel
  have hl : lv_has ls 3 [(0, .ref (a 0)), (1, .int x1), (2, .int x2)] := hl
  refine lv_aload_n hx hb dX7_isAt_0 rfl (lv_at hl 0 rfl) ?_
  refine z_get (C := RX7) (T := TX7) (N := 26) X inX7 hP 0 (by decide) (zcM_0 _ _ _ _ _ _) rfl 9 (by decide) rfl (by decide +kernel) rfl dX7_isAt_1 ?_
  refine lv_aload_n hx hb dX7_isAt_4 rfl (lv_at hl 0 rfl) ?_
  refine z_get (C := RX7) (T := TX7) (N := 26) X inX7 hP 0 (by decide) (zcM_0 _ _ _ _ _ _) rfl 8 (by decide) rfl (by decide +kernel) rfl dX7_isAt_5 ?_
  refine lv_icmp_ge (tgt := 35) hx hb dX7_isAt_8 (by decide) (fun c1 => ?_) (fun c1 => ?_)
  · have h := zif_t h c1
    refine lv_iconst (v := 0) hx hb dX7_isAt_35 (by decide) ?_
    exact z_zret X hP hS hr hlocks (by decide) h dX7_isAt_36
  · have h := zif_f h c1
    refine lv_aload_n hx hb dX7_isAt_11 rfl (lv_at hl 0 rfl) ?_
    refine z_get (C := RX7) (T := TX7) (N := 26) X inX7 hP 0 (by decide) (zcM_0 _ _ _ _ _ _) rfl 7 (by decide) rfl (by decide +kernel) rfl dX7_isAt_12 ?_
    refine lv_aload_n hx hb dX7_isAt_15 rfl (lv_at hl 0 rfl) ?_
    refine z_get (C := RX7) (T := TX7) (N := 26) X inX7 hP 0 (by decide) (zcM_0 _ _ _ _ _ _) rfl 9 (by decide) rfl (by decide +kernel) rfl dX7_isAt_16 ?_
    obtain ⟨g2, h⟩ := zg_some h
    refine z_iald X hP 6 0 (by decide) (zcM_6 _ _ _ _ _ _) rfl g2 dX7_isAt_19 ?_
    refine lv_i2l hx hb dX7_isAt_20 rfl ?_
    refine lv_iload_n hx hb dX7_isAt_21 rfl (lv_at hl 1 rfl) ?_
    refine lv_i2l hx hb dX7_isAt_22 rfl ?_
    refine lv_iload_n hx hb dX7_isAt_23 rfl (lv_at hl 2 rfl) ?_
    refine lv_i2l hx hb dX7_isAt_24 rfl ?_
    obtain ⟨u3, s3, e3, h⟩ := zb_some h
    refine z_calli hS (z_runS (As := [.long (((s).1 6 (((s).1 0 9)).toNatClampNeg)).toInt64, .long (x1).toInt64, .long (x2).toInt64]) (rest := []) X hG hA hE hP hS (kX7_isIn (l := l) (D := D) (a := a) (cI := cI) (cJ := cJ) (cC := cC) e3 _) (va_cwS 3 hts gX7_isAt_X7_isIn rfl rfl rfl (by decide +kernel) ⟨Nat.le_of_ble_eq_true rfl, Nat.le_of_ble_eq_true rfl⟩) rfl hl.1 rfl (Nat.le_of_ble_eq_true rfl) dX7_isAt_25) (fun H locs hP hS => ?_)
    refine lv_if_eq (tgt := 35) hx hb dX7_isAt_28 (by decide) (fun c4 => ?_) (fun c4 => ?_)
    · have h := zif_t h c4
      refine lv_iconst (v := 0) hx hb dX7_isAt_35 (by decide) ?_
      exact z_zret X hP hS hr hlocks (by decide) h dX7_isAt_36
    · have h := zif_f h c4
      refine lv_iconst (v := 1) hx hb dX7_isAt_31 (by decide) ?_
      refine lv_goto (tgt := 36) hx hb dX7_isAt_32 (by decide) ?_
      exact z_zret X hP hS hr hlocks (by decide) h dX7_isAt_36
abbrev rmX7_takes : Room := { frames := 2, cells := 0, slots := 0, locals := 47 }
set_option maxHeartbeats 4000000 in
set_option maxRecDepth 100000 in
theorem kX7_takes {l : Launch} {D : va_G} {a : Nat → Nat} {cI cJ cC : ClassId} {x1 : Int32} {s τ : ZS} {r : Int32} (h : fX7_takes x1 s = some (r, τ)) : zMi (zcM a cI cJ cC) 17 a D [(cI, .int), (cJ, .long), (cC, .char)] zEM l yX7_takes wsX7_takes rmX7_takes [.ref (a 0), .int x1] s r τ := by
  refine z_start (cc := cX7_takes) (maxL := 2) (ret := (some .boolean)) RX7 rfl (by decide) rfl (Nat.le_of_ble_eq_true rfl) ?_
  intro p e st m args below meth c ls H locs X hr hlocks hA hE hP hS hl
  obtain ⟨hx, hb, hml, hown, hts, -⟩ := id X
  have hG := zEM_good
  have inX7 : ∀ w ∈ u_ws RX7 TX7 26, w ∈ wsX7_takes := by decide +kernel
  have hl : lv_has ls 2 [(0, .ref (a 0)), (1, .int x1)] := hl
  refine lv_aload_n hx hb dX7_takes_0 rfl (lv_at hl 0 rfl) ?_
  refine lv_iload_n hx hb dX7_takes_1 rfl (lv_at hl 1 rfl) ?_
  refine lv_iload_n hx hb dX7_takes_2 rfl (lv_at hl 1 rfl) ?_
  obtain ⟨u1, s1, e1, h⟩ := zb_some h
  refine z_calli hS (z_runV (As := [.int x1, .int x1]) (rest := []) X hG hA hE hP hS 0 (kX7_isAt (l := l) (D := D) (a := a) (cI := cI) (cJ := cJ) (cC := cC) e1 _) (cwV 2 hts gX7_takes_X7_isAt rfl rfl rfl (by decide +kernel) ⟨Nat.le_of_ble_eq_true rfl, Nat.le_of_ble_eq_true rfl⟩) (by decide) (zcM_0 _ _ _ _ _ _) rfl rfl rfl hl.1 rfl (Nat.le_of_ble_eq_true rfl) dX7_takes_3) (fun H locs hP hS => ?_)
  refine lv_if_ne (tgt := 11) hx hb dX7_takes_6 (by decide) (fun c2 => ?_) (fun c2 => ?_)
  · have h := zif_f h c2
    refine lv_aload_n hx hb dX7_takes_11 rfl (lv_at hl 0 rfl) ?_
    refine lv_dup hx hb dX7_takes_12 rfl ?_
    refine z_get (C := RX7) (T := TX7) (N := 26) X inX7 hP 0 (by decide) (zcM_0 _ _ _ _ _ _) rfl 9 (by decide) rfl (by decide +kernel) rfl dX7_takes_13 ?_
    refine lv_iconst (v := 1) hx hb dX7_takes_16 (by decide) ?_
    refine lv_iadd hx hb dX7_takes_17 ?_
    refine z_put (ty := .int) (x := (((s1).1 0 9) + (1 : Int32))) (C := RX7) (T := TX7) (N := 26) X inX7 tyX7 tyX7_ok nmX7 hA hP hS 0 (by decide) (zcM_0 _ _ _ _ _ _) rfl 9 (by decide) rfl (by decide +kernel) rfl (by decide +kernel) rfl rfl (Nat.le_of_ble_eq_true rfl) rfl dX7_takes_18 (fun H locs hP hS => ?_)
    refine lv_iconst (v := 1) hx hb dX7_takes_21 (by decide) ?_
    exact z_zret X hP hS hr hlocks (by decide) h dX7_takes_22
  · have h := zif_t h c2
    refine lv_iconst (v := 0) hx hb dX7_takes_9 (by decide) ?_
    exact z_zret X hP hS hr hlocks (by decide) h dX7_takes_10
abbrev rmX7_word : Room := { frames := 2, cells := 0, slots := 0, locals := 47 }
set_option maxHeartbeats 4000000 in
set_option maxRecDepth 100000 in
theorem kX7_word {l : Launch} {D : va_G} {a : Nat → Nat} {cI cJ cC : ClassId}  {s τ : ZS} {r : Int32} (h : fX7_word  s = some (r, τ)) : zMi (zcM a cI cJ cC) 17 a D [(cI, .int), (cJ, .long), (cC, .char)] zEM l yX7_word wsX7_word rmX7_word [.ref (a 0)] s r τ := by
  refine z_start (cc := cX7_word) (maxL := 4) (ret := (some .boolean)) RX7 rfl (by decide) rfl (Nat.le_of_ble_eq_true rfl) ?_
  intro p e st m args below meth c ls H locs X hr hlocks hA hE hP hS hl
  obtain ⟨hx, hb, hml, hown, hts, -⟩ := id X
  have hG := zEM_good
  have inX7 : ∀ w ∈ u_ws RX7 TX7 26, w ∈ wsX7_word := by decide +kernel
  have w92 : ∀ (k31 : Int32 → Int32 → ZS → Option (Int32 × ZS)) (hk31 : ∀ (x1 : Int32) (x2 : Int32) (s : ZS) (H : Heap) (locs : List Loc) (ls : Array Slot), k31 x1 x2 s = some (r, τ) → va_P D vwCl (zW (zcM a cI cJ cC) 17 a s) H → va_S (zF 17 a st.heap.size) st.heap H locs → lv_has ls 4 [(0, .ref (a 0)), (1, .int x1), (2, .int x2)] → W p l e rmX7_word st m args below meth c H locs 0 0 (MQ below (va_Qi (fun (r' : Int32) (τ' : ZS) => r' = r ∧ τ' = τ) (zPost (zcM a cI cJ cC) 17 a D [(cI, .int), (cJ, .long), (cC, .char)]) (zF 17 a st.heap.size)) args st 0 0 (zF 17 a st.heap.size)) (F0 m 31 ls [])) (x1 : Int32) (x2 : Int32) (x3 : Int32) (s : ZS) (H : Heap) (locs : List Loc) (ls : Array Slot), fX7_word_92 k31 x1 x2 x3 s = some (r, τ) → va_P D vwCl (zW (zcM a cI cJ cC) 17 a s) H → va_S (zF 17 a st.heap.size) st.heap H locs → lv_has ls 4 [(0, .ref (a 0)), (1, .int x1), (2, .int x2), (3, .int x3)] → W p l e rmX7_word st m args below meth c H locs 0 0 (MQ below (va_Qi (fun (r' : Int32) (τ' : ZS) => r' = r ∧ τ' = τ) (zPost (zcM a cI cJ cC) 17 a D [(cI, .int), (cJ, .long), (cC, .char)]) (zF 17 a st.heap.size)) args st 0 0 (zF 17 a st.heap.size)) (F0 m 92 ls []) := by
    intro k31 hk31 x1 x2 x3 s H locs ls h hP hS hl
    refine lv_iload_n hx hb dX7_word_92 rfl (lv_at hl 3 rfl) ?_
    refine lv_aload_n hx hb dX7_word_93 rfl (lv_at hl 0 rfl) ?_
    refine z_get (C := RX7) (T := TX7) (N := 26) X inX7 hP 0 (by decide) (zcM_0 _ _ _ _ _ _) rfl 15 (by decide) rfl (by decide +kernel) rfl dX7_word_94 ?_
    refine lv_iload_n hx hb dX7_word_97 rfl (lv_at hl 2 rfl) ?_
    obtain ⟨g1, h⟩ := zg_some h
    refine z_iald X hP 10 0 (by decide) (zcM_10 _ _ _ _ _ _) rfl g1 dX7_word_98 ?_
    refine lv_icmp_ne (tgt := 109) hx hb dX7_word_99 (by decide) (fun c2 => ?_) (fun c2 => ?_)
    · have h := zif_f h c2
      refine lv_iinc (v := (x2 + (1 : Int32))) (lv' := [(2, .int (x2 + (1 : Int32))), (0, .ref (a 0)), (1, .int x1), (3, .int x3)]) hx hb dX7_word_109 hl (k := 2) rfl rfl (by decide) rfl (fun ls hl => ?_)
      refine lv_goto (tgt := 31) hx hb dX7_word_112 (by decide) ?_
      exact hk31 (x1) ((x2 + (1 : Int32))) (s) _ _ _ h hP hS (lv_sub hl [1, 2, 0] rfl)
    · have h := zif_t h c2
      refine lv_aload_n hx hb dX7_word_102 rfl (lv_at hl 0 rfl) ?_
      refine lv_iload_n hx hb dX7_word_103 rfl (lv_at hl 2 rfl) ?_
      refine z_put (ty := .int) (x := x2) (C := RX7) (T := TX7) (N := 26) X inX7 tyX7 tyX7_ok nmX7 hA hP hS 0 (by decide) (zcM_0 _ _ _ _ _ _) rfl 10 (by decide) rfl (by decide +kernel) rfl (by decide +kernel) rfl rfl (Nat.le_of_ble_eq_true rfl) rfl dX7_word_104 (fun H locs hP hS => ?_)
      refine lv_iconst (v := 1) hx hb dX7_word_107 (by decide) ?_
      exact z_zret X hP hS hr hlocks (by decide) h dX7_word_108
  have w39 : ∀ (k31 : Int32 → Int32 → ZS → Option (Int32 × ZS)) (hk31 : ∀ (x1 : Int32) (x2 : Int32) (s : ZS) (H : Heap) (locs : List Loc) (ls : Array Slot), k31 x1 x2 s = some (r, τ) → va_P D vwCl (zW (zcM a cI cJ cC) 17 a s) H → va_S (zF 17 a st.heap.size) st.heap H locs → lv_has ls 4 [(0, .ref (a 0)), (1, .int x1), (2, .int x2)] → W p l e rmX7_word st m args below meth c H locs 0 0 (MQ below (va_Qi (fun (r' : Int32) (τ' : ZS) => r' = r ∧ τ' = τ) (zPost (zcM a cI cJ cC) 17 a D [(cI, .int), (cJ, .long), (cC, .char)]) (zF 17 a st.heap.size)) args st 0 0 (zF 17 a st.heap.size)) (F0 m 31 ls [])) (n : Nat) (x1 : Int32) (x2 : Int32) (x3 : Int32) (s : ZS) (H : Heap) (locs : List Loc) (ls : Array Slot), fX7_word_39n k31 n (x1, x2, x3, s) = some (r, τ) → va_P D vwCl (zW (zcM a cI cJ cC) 17 a s) H → va_S (zF 17 a st.heap.size) st.heap H locs → lv_has ls 4 [(0, .ref (a 0)), (1, .int x1), (2, .int x2), (3, .int x3)] → W p l e rmX7_word st m args below meth c H locs 0 0 (MQ below (va_Qi (fun (r' : Int32) (τ' : ZS) => r' = r ∧ τ' = τ) (zPost (zcM a cI cJ cC) 17 a D [(cI, .int), (cJ, .long), (cC, .char)]) (zF 17 a st.heap.size)) args st 0 0 (zF 17 a st.heap.size)) (F0 m 39 ls []) := by
    intro k31 hk31 n
    induction n with
    | zero => intro x1 x2 x3 s H locs ls h; exact zloop_0 h
    | succ n ih =>
      intro x1 x2 x3 s H locs ls h hP hS hl
      have h : fX7_word_39b k31 (fun x1 x2 x3 s => fX7_word_39n k31 n (x1, x2, x3, s)) x1 x2 x3 s = some (r, τ) := h
      refine lv_iload_n hx hb dX7_word_39 rfl (lv_at hl 3 rfl) ?_
      refine lv_aload_n hx hb dX7_word_40 rfl (lv_at hl 0 rfl) ?_
      refine z_get (C := RX7) (T := TX7) (N := 26) X inX7 hP 0 (by decide) (zcM_0 _ _ _ _ _ _) rfl 15 (by decide) rfl (by decide +kernel) rfl dX7_word_41 ?_
      refine lv_iload_n hx hb dX7_word_44 rfl (lv_at hl 2 rfl) ?_
      obtain ⟨g1, h⟩ := zg_some h
      refine z_iald X hP 10 0 (by decide) (zcM_10 _ _ _ _ _ _) rfl g1 dX7_word_45 ?_
      refine lv_icmp_ge (tgt := 92) hx hb dX7_word_46 (by decide) (fun c2 => ?_) (fun c2 => ?_)
      · have h := zif_t h c2
        exact w92 k31 hk31  (x1) (x2) (x3) (s) _ _ _ h hP hS (lv_sub hl [0, 1, 2, 3] rfl)
      · have h := zif_f h c2
        refine lv_aload_n hx hb dX7_word_49 rfl (lv_at hl 0 rfl) ?_
        refine z_get (C := RX7) (T := TX7) (N := 26) X inX7 hP 0 (by decide) (zcM_0 _ _ _ _ _ _) rfl 9 (by decide) rfl (by decide +kernel) rfl dX7_word_50 ?_
        refine lv_iload_n hx hb dX7_word_53 rfl (lv_at hl 1 rfl) ?_
        refine lv_isub hx hb dX7_word_54 ?_
        refine lv_aload_n hx hb dX7_word_55 rfl (lv_at hl 0 rfl) ?_
        refine z_get (C := RX7) (T := TX7) (N := 26) X inX7 hP 0 (by decide) (zcM_0 _ _ _ _ _ _) rfl 15 (by decide) rfl (by decide +kernel) rfl dX7_word_56 ?_
        refine lv_iload_n hx hb dX7_word_59 rfl (lv_at hl 2 rfl) ?_
        obtain ⟨g3, h⟩ := zg_some h
        refine z_iald X hP 10 0 (by decide) (zcM_10 _ _ _ _ _ _) rfl g3 dX7_word_60 ?_
        refine lv_icmp_ne (tgt := 92) hx hb dX7_word_61 (by decide) (fun c4 => ?_) (fun c4 => ?_)
        · have h := zif_f h c4
          exact w92 k31 hk31  (x1) (x2) (x3) (s) _ _ _ h hP hS (lv_sub hl [0, 1, 2, 3] rfl)
        · have h := zif_t h c4
          refine lv_aload_n hx hb dX7_word_64 rfl (lv_at hl 0 rfl) ?_
          refine z_get (C := RX7) (T := TX7) (N := 26) X inX7 hP 0 (by decide) (zcM_0 _ _ _ _ _ _) rfl 7 (by decide) rfl (by decide +kernel) rfl dX7_word_65 ?_
          refine lv_iload_n hx hb dX7_word_68 rfl (lv_at hl 1 rfl) ?_
          refine lv_iload_n hx hb dX7_word_69 rfl (lv_at hl 3 rfl) ?_
          refine lv_iadd hx hb dX7_word_70 ?_
          obtain ⟨g5, h⟩ := zg_some h
          refine z_iald X hP 6 0 (by decide) (zcM_6 _ _ _ _ _ _) rfl g5 dX7_word_71 ?_
          refine lv_aload_n hx hb dX7_word_72 rfl (lv_at hl 0 rfl) ?_
          refine z_get (C := RX7) (T := TX7) (N := 26) X inX7 hP 0 (by decide) (zcM_0 _ _ _ _ _ _) rfl 14 (by decide) rfl (by decide +kernel) rfl dX7_word_73 ?_
          refine lv_bipush (v := 6) hx hb dX7_word_76 (by decide) ?_
          refine lv_iload_n hx hb dX7_word_78 rfl (lv_at hl 2 rfl) ?_
          refine lv_imul hx hb dX7_word_79 ?_
          refine lv_iload_n hx hb dX7_word_80 rfl (lv_at hl 3 rfl) ?_
          refine lv_iadd hx hb dX7_word_81 ?_
          obtain ⟨g6, h⟩ := zg_some h
          refine z_cald X hP 9 2 (by decide) (zcM_9 _ _ _ _ _ _) rfl g6 dX7_word_82 ?_
          refine lv_icmp_ne (tgt := 92) hx hb dX7_word_83 (by decide) (fun c7 => ?_) (fun c7 => ?_)
          · have h := zif_f h c7
            exact w92 k31 hk31  (x1) (x2) (x3) (s) _ _ _ h hP hS (lv_sub hl [0, 1, 2, 3] rfl)
          · have h := zif_t h c7
            refine lv_iinc (v := (x3 + (1 : Int32))) (lv' := [(3, .int (x3 + (1 : Int32))), (0, .ref (a 0)), (1, .int x1), (2, .int x2)]) hx hb dX7_word_86 hl (k := 3) rfl rfl (by decide) rfl (fun ls hl => ?_)
            refine lv_goto (tgt := 39) hx hb dX7_word_89 (by decide) ?_
            exact ih (x1) (x2) ((x3 + (1 : Int32))) (s) _ _ _ h hP hS (lv_sub hl [1, 2, 3, 0] rfl)
  have w31 : ∀  (n : Nat) (x1 : Int32) (x2 : Int32) (s : ZS) (H : Heap) (locs : List Loc) (ls : Array Slot), fX7_word_31n  n (x1, x2, s) = some (r, τ) → va_P D vwCl (zW (zcM a cI cJ cC) 17 a s) H → va_S (zF 17 a st.heap.size) st.heap H locs → lv_has ls 4 [(0, .ref (a 0)), (1, .int x1), (2, .int x2)] → W p l e rmX7_word st m args below meth c H locs 0 0 (MQ below (va_Qi (fun (r' : Int32) (τ' : ZS) => r' = r ∧ τ' = τ) (zPost (zcM a cI cJ cC) 17 a D [(cI, .int), (cJ, .long), (cC, .char)]) (zF 17 a st.heap.size)) args st 0 0 (zF 17 a st.heap.size)) (F0 m 31 ls []) := by
    intro  n
    induction n with
    | zero => intro x1 x2 s H locs ls h; exact zloop_0 h
    | succ n ih =>
      intro x1 x2 s H locs ls h hP hS hl
      have h : fX7_word_31b  (fun x1 x2 s => fX7_word_31n  n (x1, x2, s)) x1 x2 s = some (r, τ) := h
      refine lv_iload_n hx hb dX7_word_31 rfl (lv_at hl 2 rfl) ?_
      refine lv_bipush (v := 6) hx hb dX7_word_32 (by decide) ?_
      refine lv_icmp_ge (tgt := 115) hx hb dX7_word_34 (by decide) (fun c1 => ?_) (fun c1 => ?_)
      · have h := zif_t h c1
        refine lv_aload_n hx hb dX7_word_115 rfl (lv_at hl 0 rfl) ?_
        refine lv_iload_n hx hb dX7_word_116 rfl (lv_at hl 1 rfl) ?_
        refine z_put (ty := .int) (x := x1) (C := RX7) (T := TX7) (N := 26) X inX7 tyX7 tyX7_ok nmX7 hA hP hS 0 (by decide) (zcM_0 _ _ _ _ _ _) rfl 9 (by decide) rfl (by decide +kernel) rfl (by decide +kernel) rfl rfl (Nat.le_of_ble_eq_true rfl) rfl dX7_word_117 (fun H locs hP hS => ?_)
        refine lv_iconst (v := 0) hx hb dX7_word_120 (by decide) ?_
        exact z_zret X hP hS hr hlocks (by decide) h dX7_word_121
      · have h := zif_f h c1
        refine lv_iconst (v := 0) hx hb dX7_word_37 (by decide) ?_
        refine lv_istore_n (lv' := [(3, .int (0 : Int32)), (0, .ref (a 0)), (1, .int x1), (2, .int x2)]) hx hb dX7_word_38 rfl hl (by decide) rfl (fun ls hl => ?_)
        exact w39 (fun x1 x2 s => fX7_word_31n  n (x1, x2, s)) (fun x1 x2 s H locs ls h hP hS hl => ih x1 x2 s H locs ls h hP hS hl) zN (x1) (x2) ((0 : Int32)) (s) _ _ _ h hP hS (lv_sub hl [1, 2, 3, 0] rfl)
  have w5 : ∀  (n : Nat) (x1 : Int32) (s : ZS) (H : Heap) (locs : List Loc) (ls : Array Slot), fX7_word_5n  n (x1, s) = some (r, τ) → va_P D vwCl (zW (zcM a cI cJ cC) 17 a s) H → va_S (zF 17 a st.heap.size) st.heap H locs → lv_has ls 4 [(0, .ref (a 0)), (1, .int x1)] → W p l e rmX7_word st m args below meth c H locs 0 0 (MQ below (va_Qi (fun (r' : Int32) (τ' : ZS) => r' = r ∧ τ' = τ) (zPost (zcM a cI cJ cC) 17 a D [(cI, .int), (cJ, .long), (cC, .char)]) (zF 17 a st.heap.size)) args st 0 0 (zF 17 a st.heap.size)) (F0 m 5 ls []) := by
    intro  n
    induction n with
    | zero => intro x1 s H locs ls h; exact zloop_0 h
    | succ n ih =>
      intro x1 s H locs ls h hP hS hl
      have h : fX7_word_5b  (fun x1 s => fX7_word_5n  n (x1, s)) x1 s = some (r, τ) := h
      refine lv_aload_n hx hb dX7_word_5 rfl (lv_at hl 0 rfl) ?_
      refine lv_bipush (v := 97) hx hb dX7_word_6 (by decide) ?_
      refine lv_bipush (v := 122) hx hb dX7_word_8 (by decide) ?_
      obtain ⟨u1, s1, e1, h⟩ := zb_some h
      refine z_calli hS (z_runV (As := [.int (97 : Int32), .int (122 : Int32)]) (rest := []) X hG hA hE hP hS 0 (kX7_isAt (l := l) (D := D) (a := a) (cI := cI) (cJ := cJ) (cC := cC) e1 _) (cwV 2 hts gX7_word_X7_isAt rfl rfl rfl (by decide +kernel) ⟨Nat.le_of_ble_eq_true rfl, Nat.le_of_ble_eq_true rfl⟩) (by decide) (zcM_0 _ _ _ _ _ _) rfl rfl rfl hl.1 rfl (Nat.le_of_ble_eq_true rfl) dX7_word_10) (fun H locs hP hS => ?_)
      refine lv_if_eq (tgt := 29) hx hb dX7_word_13 (by decide) (fun c2 => ?_) (fun c2 => ?_)
      · have h := zif_t h c2
        refine lv_iconst (v := 0) hx hb dX7_word_29 (by decide) ?_
        refine lv_istore_n (lv' := [(2, .int (0 : Int32)), (0, .ref (a 0)), (1, .int x1)]) hx hb dX7_word_30 rfl hl (by decide) rfl (fun ls hl => ?_)
        exact w31  zN (x1) ((0 : Int32)) (s1) _ _ _ h hP hS (lv_sub hl [1, 2, 0] rfl)
      · have h := zif_f h c2
        refine lv_aload_n hx hb dX7_word_16 rfl (lv_at hl 0 rfl) ?_
        refine lv_dup hx hb dX7_word_17 rfl ?_
        refine z_get (C := RX7) (T := TX7) (N := 26) X inX7 hP 0 (by decide) (zcM_0 _ _ _ _ _ _) rfl 9 (by decide) rfl (by decide +kernel) rfl dX7_word_18 ?_
        refine lv_iconst (v := 1) hx hb dX7_word_21 (by decide) ?_
        refine lv_iadd hx hb dX7_word_22 ?_
        refine z_put (ty := .int) (x := (((s1).1 0 9) + (1 : Int32))) (C := RX7) (T := TX7) (N := 26) X inX7 tyX7 tyX7_ok nmX7 hA hP hS 0 (by decide) (zcM_0 _ _ _ _ _ _) rfl 9 (by decide) rfl (by decide +kernel) rfl (by decide +kernel) rfl rfl (Nat.le_of_ble_eq_true rfl) rfl dX7_word_23 (fun H locs hP hS => ?_)
        refine lv_goto (tgt := 5) hx hb dX7_word_26 (by decide) ?_
        exact ih (x1) ((zI s1 0 9 (((s1).1 0 9) + (1 : Int32)))) _ _ _ h hP hS (lv_sub hl [0, 1] rfl)
  have hl : lv_has ls 4 [(0, .ref (a 0))] := hl
  refine lv_aload_n hx hb dX7_word_0 rfl (lv_at hl 0 rfl) ?_
  refine z_get (C := RX7) (T := TX7) (N := 26) X inX7 hP 0 (by decide) (zcM_0 _ _ _ _ _ _) rfl 9 (by decide) rfl (by decide +kernel) rfl dX7_word_1 ?_
  refine lv_istore_n (lv' := [(1, .int ((s).1 0 9)), (0, .ref (a 0))]) hx hb dX7_word_4 rfl hl (by decide) rfl (fun ls hl => ?_)
  exact w5  zN (((s).1 0 9)) (s) _ _ _ h hP hS (lv_sub hl [1, 0] rfl)
abbrev rmX7_aFigure : Room := { frames := 2, cells := 0, slots := 0, locals := 47 }
set_option maxHeartbeats 4000000 in
set_option maxRecDepth 100000 in
theorem kX7_aFigure {l : Launch} {D : va_G} {a : Nat → Nat} {cI cJ cC : ClassId}  {s τ : ZS} {r : Int32} (h : fX7_aFigure  s = some (r, τ)) : zMi (zcM a cI cJ cC) 17 a D [(cI, .int), (cJ, .long), (cC, .char)] zEM l yX7_aFigure wsX7_aFigure rmX7_aFigure [.ref (a 0)] s r τ := by
  refine z_start (cc := cX7_aFigure) (maxL := 1) (ret := (some .boolean)) RX7 rfl (by decide) rfl (Nat.le_of_ble_eq_true rfl) ?_
  intro p e st m args below meth c ls H locs X hr hlocks hA hE hP hS hl
  obtain ⟨hx, hb, hml, hown, hts, -⟩ := id X
  have hG := zEM_good
  have inX7 : ∀ w ∈ u_ws RX7 TX7 26, w ∈ wsX7_aFigure := by decide +kernel
  have hl : lv_has ls 1 [(0, .ref (a 0))] := hl
  refine lv_aload_n hx hb dX7_aFigure_0 rfl (lv_at hl 0 rfl) ?_
  refine lv_bipush (v := 48) hx hb dX7_aFigure_1 (by decide) ?_
  refine lv_bipush (v := 57) hx hb dX7_aFigure_3 (by decide) ?_
  obtain ⟨u1, s1, e1, h⟩ := zb_some h
  refine z_calli hS (z_runV (As := [.int (48 : Int32), .int (57 : Int32)]) (rest := []) X hG hA hE hP hS 0 (kX7_isAt (l := l) (D := D) (a := a) (cI := cI) (cJ := cJ) (cC := cC) e1 _) (cwV 2 hts gX7_aFigure_X7_isAt rfl rfl rfl (by decide +kernel) ⟨Nat.le_of_ble_eq_true rfl, Nat.le_of_ble_eq_true rfl⟩) (by decide) (zcM_0 _ _ _ _ _ _) rfl rfl rfl hl.1 rfl (Nat.le_of_ble_eq_true rfl) dX7_aFigure_5) (fun H locs hP hS => ?_)
  refine lv_if_ne (tgt := 13) hx hb dX7_aFigure_8 (by decide) (fun c2 => ?_) (fun c2 => ?_)
  · have h := zif_f h c2
    refine lv_aload_n hx hb dX7_aFigure_13 rfl (lv_at hl 0 rfl) ?_
    refine lv_aload_n hx hb dX7_aFigure_14 rfl (lv_at hl 0 rfl) ?_
    refine z_get (C := RX7) (T := TX7) (N := 26) X inX7 hP 0 (by decide) (zcM_0 _ _ _ _ _ _) rfl 7 (by decide) rfl (by decide +kernel) rfl dX7_aFigure_15 ?_
    refine lv_aload_n hx hb dX7_aFigure_18 rfl (lv_at hl 0 rfl) ?_
    refine z_get (C := RX7) (T := TX7) (N := 26) X inX7 hP 0 (by decide) (zcM_0 _ _ _ _ _ _) rfl 9 (by decide) rfl (by decide +kernel) rfl dX7_aFigure_19 ?_
    obtain ⟨g3, h⟩ := zg_some h
    refine z_iald X hP 6 0 (by decide) (zcM_6 _ _ _ _ _ _) rfl g3 dX7_aFigure_22 ?_
    refine lv_bipush (v := 48) hx hb dX7_aFigure_23 (by decide) ?_
    refine lv_isub hx hb dX7_aFigure_25 ?_
    refine z_put (ty := .int) (x := (((s1).1 6 (((s1).1 0 9)).toNatClampNeg) - (48 : Int32))) (C := RX7) (T := TX7) (N := 26) X inX7 tyX7 tyX7_ok nmX7 hA hP hS 0 (by decide) (zcM_0 _ _ _ _ _ _) rfl 11 (by decide) rfl (by decide +kernel) rfl (by decide +kernel) rfl rfl (Nat.le_of_ble_eq_true rfl) rfl dX7_aFigure_26 (fun H locs hP hS => ?_)
    refine lv_aload_n hx hb dX7_aFigure_29 rfl (lv_at hl 0 rfl) ?_
    refine lv_dup hx hb dX7_aFigure_30 rfl ?_
    refine z_get (C := RX7) (T := TX7) (N := 26) X inX7 hP 0 (by decide) (zcM_0 _ _ _ _ _ _) rfl 9 (by decide) rfl (by decide +kernel) rfl dX7_aFigure_31 ?_
    refine lv_iconst (v := 1) hx hb dX7_aFigure_34 (by decide) ?_
    refine lv_iadd hx hb dX7_aFigure_35 ?_
    refine z_put (ty := .int) (x := ((((zI s1 0 11 (((s1).1 6 (((s1).1 0 9)).toNatClampNeg) - (48 : Int32)))).1 0 9) + (1 : Int32))) (C := RX7) (T := TX7) (N := 26) X inX7 tyX7 tyX7_ok nmX7 hA hP hS 0 (by decide) (zcM_0 _ _ _ _ _ _) rfl 9 (by decide) rfl (by decide +kernel) rfl (by decide +kernel) rfl rfl (Nat.le_of_ble_eq_true rfl) rfl dX7_aFigure_36 (fun H locs hP hS => ?_)
    refine lv_iconst (v := 1) hx hb dX7_aFigure_39 (by decide) ?_
    exact z_zret X hP hS hr hlocks (by decide) h dX7_aFigure_40
  · have h := zif_t h c2
    refine lv_iconst (v := 0) hx hb dX7_aFigure_11 (by decide) ?_
    exact z_zret X hP hS hr hlocks (by decide) h dX7_aFigure_12
abbrev rmX7_clause : Room := { frames := 3, cells := 0, slots := 0, locals := 70 }
set_option maxHeartbeats 4000000 in
set_option maxRecDepth 100000 in
theorem kX7_clause {l : Launch} {D : va_G} {a : Nat → Nat} {cI cJ cC : ClassId}  {s τ : ZS} {r : Int32} (h : fX7_clause  s = some (r, τ)) : zMi (zcM a cI cJ cC) 17 a D [(cI, .int), (cJ, .long), (cC, .char)] zEM l yX7_clause wsX7_clause rmX7_clause [.ref (a 0)] s r τ := by
  refine z_start (cc := cX7_clause) (maxL := 3) (ret := (some .boolean)) RX7 rfl (by decide) rfl (Nat.le_of_ble_eq_true rfl) ?_
  intro p e st m args below meth c ls H locs X hr hlocks hA hE hP hS hl
  obtain ⟨hx, hb, hml, hown, hts, -⟩ := id X
  have hG := zEM_good
  have inX7 : ∀ w ∈ u_ws RX7 TX7 26, w ∈ wsX7_clause := by decide +kernel
  have w99 : ∀ (k41 : Int32 → Int32 → ZS → Option (Int32 × ZS)) (hk41 : ∀ (x1 : Int32) (x2 : Int32) (s : ZS) (H : Heap) (locs : List Loc) (ls : Array Slot), k41 x1 x2 s = some (r, τ) → va_P D vwCl (zW (zcM a cI cJ cC) 17 a s) H → va_S (zF 17 a st.heap.size) st.heap H locs → lv_has ls 3 [(0, .ref (a 0)), (1, .int x1), (2, .int x2)] → W p l e rmX7_clause st m args below meth c H locs 0 0 (MQ below (va_Qi (fun (r' : Int32) (τ' : ZS) => r' = r ∧ τ' = τ) (zPost (zcM a cI cJ cC) 17 a D [(cI, .int), (cJ, .long), (cC, .char)]) (zF 17 a st.heap.size)) args st 0 0 (zF 17 a st.heap.size)) (F0 m 41 ls [])) (x1 : Int32) (x2 : Int32) (t1 : Int32) (t2 : Int32) (s : ZS) (H : Heap) (locs : List Loc) (ls : Array Slot), fX7_clause_99 k41 x1 x2 t1 t2 s = some (r, τ) → va_P D vwCl (zW (zcM a cI cJ cC) 17 a s) H → va_S (zF 17 a st.heap.size) st.heap H locs → lv_has ls 3 [(0, .ref (a 0)), (1, .int x1), (2, .int x2)] → W p l e rmX7_clause st m args below meth c H locs 0 0 (MQ below (va_Qi (fun (r' : Int32) (τ' : ZS) => r' = r ∧ τ' = τ) (zPost (zcM a cI cJ cC) 17 a D [(cI, .int), (cJ, .long), (cC, .char)]) (zF 17 a st.heap.size)) args st 0 0 (zF 17 a st.heap.size)) (F0 m 99 ls [.int t2, .int t1, .ref (a 7)]) := by
    intro k41 hk41 x1 x2 t1 t2 s H locs ls h hP hS hl
    obtain ⟨g1, h⟩ := zg_some h
    refine z_iast X hA hP hS 7 0 (by decide) (zcM_7 _ _ _ _) rfl g1 dX7_clause_99 (fun H locs hP hS => ?_)
    refine lv_iinc (v := (x2 + (1 : Int32))) (lv' := [(2, .int (x2 + (1 : Int32))), (0, .ref (a 0)), (1, .int x1)]) hx hb dX7_clause_100 hl (k := 2) rfl rfl (by decide) rfl (fun ls hl => ?_)
    refine lv_goto (tgt := 41) hx hb dX7_clause_103 (by decide) ?_
    exact hk41 (x1) ((x2 + (1 : Int32))) ((zI s 7 (t1).toNatClampNeg t2)) _ _ _ h hP hS (lv_sub hl [1, 2, 0] rfl)
  have w95 : ∀ (k99 : Int32 → Int32 → Int32 → Int32 → ZS → Option (Int32 × ZS)) (hk99 : ∀ (x1 : Int32) (x2 : Int32) (t1 : Int32) (t2 : Int32) (s : ZS) (H : Heap) (locs : List Loc) (ls : Array Slot), k99 x1 x2 t1 t2 s = some (r, τ) → va_P D vwCl (zW (zcM a cI cJ cC) 17 a s) H → va_S (zF 17 a st.heap.size) st.heap H locs → lv_has ls 3 [(0, .ref (a 0)), (1, .int x1), (2, .int x2)] → W p l e rmX7_clause st m args below meth c H locs 0 0 (MQ below (va_Qi (fun (r' : Int32) (τ' : ZS) => r' = r ∧ τ' = τ) (zPost (zcM a cI cJ cC) 17 a D [(cI, .int), (cJ, .long), (cC, .char)]) (zF 17 a st.heap.size)) args st 0 0 (zF 17 a st.heap.size)) (F0 m 99 ls [.int t2, .int t1, .ref (a 7)])) (x1 : Int32) (x2 : Int32) (t1 : Int32) (s : ZS) (H : Heap) (locs : List Loc) (ls : Array Slot), fX7_clause_95 k99 x1 x2 t1 s = some (r, τ) → va_P D vwCl (zW (zcM a cI cJ cC) 17 a s) H → va_S (zF 17 a st.heap.size) st.heap H locs → lv_has ls 3 [(0, .ref (a 0)), (1, .int x1), (2, .int x2)] → W p l e rmX7_clause st m args below meth c H locs 0 0 (MQ below (va_Qi (fun (r' : Int32) (τ' : ZS) => r' = r ∧ τ' = τ) (zPost (zcM a cI cJ cC) 17 a D [(cI, .int), (cJ, .long), (cC, .char)]) (zF 17 a st.heap.size)) args st 0 0 (zF 17 a st.heap.size)) (F0 m 95 ls [.int t1, .ref (a 7)]) := by
    intro k99 hk99 x1 x2 t1 s H locs ls h hP hS hl
    refine lv_aload_n hx hb dX7_clause_95 rfl (lv_at hl 0 rfl) ?_
    refine z_get (C := RX7) (T := TX7) (N := 26) X inX7 hP 0 (by decide) (zcM_0 _ _ _ _ _ _) rfl 11 (by decide) rfl (by decide +kernel) rfl dX7_clause_96 ?_
    exact hk99 (x1) (x2) (t1) (((s).1 0 11)) (s) _ _ _ h hP hS (lv_sub hl [0, 1, 2] rfl)
  have w59 : ∀ (k41 : Int32 → Int32 → ZS → Option (Int32 × ZS)) (hk41 : ∀ (x1 : Int32) (x2 : Int32) (s : ZS) (H : Heap) (locs : List Loc) (ls : Array Slot), k41 x1 x2 s = some (r, τ) → va_P D vwCl (zW (zcM a cI cJ cC) 17 a s) H → va_S (zF 17 a st.heap.size) st.heap H locs → lv_has ls 3 [(0, .ref (a 0)), (1, .int x1), (2, .int x2)] → W p l e rmX7_clause st m args below meth c H locs 0 0 (MQ below (va_Qi (fun (r' : Int32) (τ' : ZS) => r' = r ∧ τ' = τ) (zPost (zcM a cI cJ cC) 17 a D [(cI, .int), (cJ, .long), (cC, .char)]) (zF 17 a st.heap.size)) args st 0 0 (zF 17 a st.heap.size)) (F0 m 41 ls [])) (x1 : Int32) (x2 : Int32) (s : ZS) (H : Heap) (locs : List Loc) (ls : Array Slot), fX7_clause_59 k41 x1 x2 s = some (r, τ) → va_P D vwCl (zW (zcM a cI cJ cC) 17 a s) H → va_S (zF 17 a st.heap.size) st.heap H locs → lv_has ls 3 [(0, .ref (a 0)), (1, .int x1), (2, .int x2)] → W p l e rmX7_clause st m args below meth c H locs 0 0 (MQ below (va_Qi (fun (r' : Int32) (τ' : ZS) => r' = r ∧ τ' = τ) (zPost (zcM a cI cJ cC) 17 a D [(cI, .int), (cJ, .long), (cC, .char)]) (zF 17 a st.heap.size)) args st 0 0 (zF 17 a st.heap.size)) (F0 m 59 ls []) := by
    intro k41 hk41 x1 x2 s H locs ls h hP hS hl
    refine lv_aload_n hx hb dX7_clause_59 rfl (lv_at hl 0 rfl) ?_
    obtain ⟨u1, s1, e1, h⟩ := zb_some h
    refine z_calli hS (z_runV (As := []) (rest := []) X hG hA hE hP hS 0 (kX7_aFigure (l := l) (D := D) (a := a) (cI := cI) (cJ := cJ) (cC := cC) e1 _) (cwV 0 hts gX7_clause_X7_aFigure rfl rfl rfl (by decide +kernel) ⟨Nat.le_of_ble_eq_true rfl, Nat.le_of_ble_eq_true rfl⟩) (by decide) (zcM_0 _ _ _ _ _ _) rfl rfl rfl hl.1 rfl (Nat.le_of_ble_eq_true rfl) dX7_clause_60) (fun H locs hP hS => ?_)
    refine lv_if_ne (tgt := 68) hx hb dX7_clause_63 (by decide) (fun c2 => ?_) (fun c2 => ?_)
    · have h := zif_f h c2
      refine lv_aload_n hx hb dX7_clause_68 rfl (lv_at hl 0 rfl) ?_
      refine z_get (C := RX7) (T := TX7) (N := 26) X inX7 hP 0 (by decide) (zcM_0 _ _ _ _ _ _) rfl 12 (by decide) rfl (by decide +kernel) rfl dX7_clause_69 ?_
      refine lv_iload_n hx hb dX7_clause_72 rfl (lv_at hl 2 rfl) ?_
      refine lv_aload_n hx hb dX7_clause_73 rfl (lv_at hl 0 rfl) ?_
      refine z_get (C := RX7) (T := TX7) (N := 26) X inX7 hP 0 (by decide) (zcM_0 _ _ _ _ _ _) rfl 11 (by decide) rfl (by decide +kernel) rfl dX7_clause_74 ?_
      refine lv_iconst (v := 1) hx hb dX7_clause_77 (by decide) ?_
      refine lv_icmp_ne (tgt := 95) hx hb dX7_clause_78 (by decide) (fun c3 => ?_) (fun c3 => ?_)
      · have h := zif_f h c3
        exact w95 (fX7_clause_99 k41) (fun x1 x2 t1 t2 s H locs ls h hP hS hl => w99 k41 hk41  x1 x2 t1 t2 s H locs ls h hP hS hl)  (x1) (x2) (x2) (s1) _ _ _ h hP hS (lv_sub hl [0, 1, 2] rfl)
      · have h := zif_t h c3
        refine lv_aload_n hx hb dX7_clause_81 rfl (lv_at hl 0 rfl) ?_
        refine lv_bipush (v := 48) hx hb dX7_clause_82 (by decide) ?_
        obtain ⟨u4, s4, e4, h⟩ := zb_some h
        refine z_calli hS (z_runV (As := [.int (48 : Int32)]) (rest := [.int x2, .ref (a 7)]) X hG hA hE hP hS 0 (kX7_takes (l := l) (D := D) (a := a) (cI := cI) (cJ := cJ) (cC := cC) e4 _) (cwV 1 hts gX7_clause_X7_takes rfl rfl rfl (by decide +kernel) ⟨Nat.le_of_ble_eq_true rfl, Nat.le_of_ble_eq_true rfl⟩) (by decide) (zcM_0 _ _ _ _ _ _) rfl rfl rfl hl.1 rfl (Nat.le_of_ble_eq_true rfl) dX7_clause_84) (fun H locs hP hS => ?_)
        refine lv_if_eq (tgt := 95) hx hb dX7_clause_87 (by decide) (fun c5 => ?_) (fun c5 => ?_)
        · have h := zif_t h c5
          exact w95 (fX7_clause_99 k41) (fun x1 x2 t1 t2 s H locs ls h hP hS hl => w99 k41 hk41  x1 x2 t1 t2 s H locs ls h hP hS hl)  (x1) (x2) (x2) (s4) _ _ _ h hP hS (lv_sub hl [0, 1, 2] rfl)
        · have h := zif_f h c5
          refine lv_bipush (v := 10) hx hb dX7_clause_90 (by decide) ?_
          refine lv_goto (tgt := 99) hx hb dX7_clause_92 (by decide) ?_
          exact w99 k41 hk41  (x1) (x2) (x2) ((10 : Int32)) (s4) _ _ _ h hP hS (lv_sub hl [0, 1, 2] rfl)
    · have h := zif_t h c2
      refine lv_iconst (v := 0) hx hb dX7_clause_66 (by decide) ?_
      exact z_zret X hP hS hr hlocks (by decide) h dX7_clause_67
  have w41 : ∀  (n : Nat) (x1 : Int32) (x2 : Int32) (s : ZS) (H : Heap) (locs : List Loc) (ls : Array Slot), fX7_clause_41n  n (x1, x2, s) = some (r, τ) → va_P D vwCl (zW (zcM a cI cJ cC) 17 a s) H → va_S (zF 17 a st.heap.size) st.heap H locs → lv_has ls 3 [(0, .ref (a 0)), (1, .int x1), (2, .int x2)] → W p l e rmX7_clause st m args below meth c H locs 0 0 (MQ below (va_Qi (fun (r' : Int32) (τ' : ZS) => r' = r ∧ τ' = τ) (zPost (zcM a cI cJ cC) 17 a D [(cI, .int), (cJ, .long), (cC, .char)]) (zF 17 a st.heap.size)) args st 0 0 (zF 17 a st.heap.size)) (F0 m 41 ls []) := by
    intro  n
    induction n with
    | zero => intro x1 x2 s H locs ls h; exact zloop_0 h
    | succ n ih =>
      intro x1 x2 s H locs ls h hP hS hl
      have h : fX7_clause_41b  (fun x1 x2 s => fX7_clause_41n  n (x1, x2, s)) x1 x2 s = some (r, τ) := h
      refine lv_iload_n hx hb dX7_clause_41 rfl (lv_at hl 2 rfl) ?_
      refine lv_iconst (v := 5) hx hb dX7_clause_42 (by decide) ?_
      refine lv_icmp_ge (tgt := 106) hx hb dX7_clause_43 (by decide) (fun c1 => ?_) (fun c1 => ?_)
      · have h := zif_t h c1
        refine lv_aload_n hx hb dX7_clause_106 rfl (lv_at hl 0 rfl) ?_
        refine lv_iload_n hx hb dX7_clause_107 rfl (lv_at hl 1 rfl) ?_
        refine z_put (ty := .int) (x := x1) (C := RX7) (T := TX7) (N := 26) X inX7 tyX7 tyX7_ok nmX7 hA hP hS 0 (by decide) (zcM_0 _ _ _ _ _ _) rfl 11 (by decide) rfl (by decide +kernel) rfl (by decide +kernel) rfl rfl (Nat.le_of_ble_eq_true rfl) rfl dX7_clause_108 (fun H locs hP hS => ?_)
        refine lv_iconst (v := 1) hx hb dX7_clause_111 (by decide) ?_
        exact z_zret X hP hS hr hlocks (by decide) h dX7_clause_112
      · have h := zif_f h c1
        refine lv_iload_n hx hb dX7_clause_46 rfl (lv_at hl 2 rfl) ?_
        refine lv_if_le (tgt := 59) hx hb dX7_clause_47 (by decide) (fun c2 => ?_) (fun c2 => ?_)
        · have h := zif_t h c2
          exact w59 (fun x1 x2 s => fX7_clause_41n  n (x1, x2, s)) (fun x1 x2 s H locs ls h hP hS hl => ih x1 x2 s H locs ls h hP hS hl)  (x1) (x2) (s) _ _ _ h hP hS (lv_sub hl [0, 1, 2] rfl)
        · have h := zif_f h c2
          refine lv_aload_n hx hb dX7_clause_50 rfl (lv_at hl 0 rfl) ?_
          refine lv_bipush (v := 44) hx hb dX7_clause_51 (by decide) ?_
          obtain ⟨u3, s3, e3, h⟩ := zb_some h
          refine z_calli hS (z_runV (As := [.int (44 : Int32)]) (rest := []) X hG hA hE hP hS 0 (kX7_takes (l := l) (D := D) (a := a) (cI := cI) (cJ := cJ) (cC := cC) e3 _) (cwV 1 hts gX7_clause_X7_takes rfl rfl rfl (by decide +kernel) ⟨Nat.le_of_ble_eq_true rfl, Nat.le_of_ble_eq_true rfl⟩) (by decide) (zcM_0 _ _ _ _ _ _) rfl rfl rfl hl.1 rfl (Nat.le_of_ble_eq_true rfl) dX7_clause_53) (fun H locs hP hS => ?_)
          refine lv_if_eq (tgt := 66) hx hb dX7_clause_56 (by decide) (fun c4 => ?_) (fun c4 => ?_)
          · have h := zif_t h c4
            refine lv_iconst (v := 0) hx hb dX7_clause_66 (by decide) ?_
            exact z_zret X hP hS hr hlocks (by decide) h dX7_clause_67
          · have h := zif_f h c4
            exact w59 (fun x1 x2 s => fX7_clause_41n  n (x1, x2, s)) (fun x1 x2 s H locs ls h hP hS hl => ih x1 x2 s H locs ls h hP hS hl)  (x1) (x2) (s3) _ _ _ h hP hS (lv_sub hl [0, 1, 2] rfl)
  have hl : lv_has ls 3 [(0, .ref (a 0))] := hl
  refine lv_aload_n hx hb dX7_clause_0 rfl (lv_at hl 0 rfl) ?_
  obtain ⟨u1, s1, e1, h⟩ := zb_some h
  refine z_calli hS (z_runV (As := []) (rest := []) X hG hA hE hP hS 0 (kX7_word (l := l) (D := D) (a := a) (cI := cI) (cJ := cJ) (cC := cC) e1 _) (cwV 0 hts gX7_clause_X7_word rfl rfl rfl (by decide +kernel) ⟨Nat.le_of_ble_eq_true rfl, Nat.le_of_ble_eq_true rfl⟩) (by decide) (zcM_0 _ _ _ _ _ _) rfl rfl rfl hl.1 rfl (Nat.le_of_ble_eq_true rfl) dX7_clause_1) (fun H locs hP hS => ?_)
  refine lv_if_eq (tgt := 32) hx hb dX7_clause_4 (by decide) (fun c2 => ?_) (fun c2 => ?_)
  · have h := zif_t h c2
    refine lv_iconst (v := 0) hx hb dX7_clause_32 (by decide) ?_
    exact z_zret X hP hS hr hlocks (by decide) h dX7_clause_33
  · have h := zif_f h c2
    refine lv_aload_n hx hb dX7_clause_7 rfl (lv_at hl 0 rfl) ?_
    refine lv_bipush (v := 32) hx hb dX7_clause_8 (by decide) ?_
    obtain ⟨u3, s3, e3, h⟩ := zb_some h
    refine z_calli hS (z_runV (As := [.int (32 : Int32)]) (rest := []) X hG hA hE hP hS 0 (kX7_takes (l := l) (D := D) (a := a) (cI := cI) (cJ := cJ) (cC := cC) e3 _) (cwV 1 hts gX7_clause_X7_takes rfl rfl rfl (by decide +kernel) ⟨Nat.le_of_ble_eq_true rfl, Nat.le_of_ble_eq_true rfl⟩) (by decide) (zcM_0 _ _ _ _ _ _) rfl rfl rfl hl.1 rfl (Nat.le_of_ble_eq_true rfl) dX7_clause_10) (fun H locs hP hS => ?_)
    refine lv_if_eq (tgt := 32) hx hb dX7_clause_13 (by decide) (fun c4 => ?_) (fun c4 => ?_)
    · have h := zif_t h c4
      refine lv_iconst (v := 0) hx hb dX7_clause_32 (by decide) ?_
      exact z_zret X hP hS hr hlocks (by decide) h dX7_clause_33
    · have h := zif_f h c4
      refine lv_aload_n hx hb dX7_clause_16 rfl (lv_at hl 0 rfl) ?_
      obtain ⟨u5, s5, e5, h⟩ := zb_some h
      refine z_calli hS (z_runV (As := []) (rest := []) X hG hA hE hP hS 0 (kX7_aFigure (l := l) (D := D) (a := a) (cI := cI) (cJ := cJ) (cC := cC) e5 _) (cwV 0 hts gX7_clause_X7_aFigure rfl rfl rfl (by decide +kernel) ⟨Nat.le_of_ble_eq_true rfl, Nat.le_of_ble_eq_true rfl⟩) (by decide) (zcM_0 _ _ _ _ _ _) rfl rfl rfl hl.1 rfl (Nat.le_of_ble_eq_true rfl) dX7_clause_17) (fun H locs hP hS => ?_)
      refine lv_if_eq (tgt := 32) hx hb dX7_clause_20 (by decide) (fun c6 => ?_) (fun c6 => ?_)
      · have h := zif_t h c6
        refine lv_iconst (v := 0) hx hb dX7_clause_32 (by decide) ?_
        exact z_zret X hP hS hr hlocks (by decide) h dX7_clause_33
      · have h := zif_f h c6
        refine lv_aload_n hx hb dX7_clause_23 rfl (lv_at hl 0 rfl) ?_
        refine lv_bipush (v := 32) hx hb dX7_clause_24 (by decide) ?_
        obtain ⟨u7, s7, e7, h⟩ := zb_some h
        refine z_calli hS (z_runV (As := [.int (32 : Int32)]) (rest := []) X hG hA hE hP hS 0 (kX7_takes (l := l) (D := D) (a := a) (cI := cI) (cJ := cJ) (cC := cC) e7 _) (cwV 1 hts gX7_clause_X7_takes rfl rfl rfl (by decide +kernel) ⟨Nat.le_of_ble_eq_true rfl, Nat.le_of_ble_eq_true rfl⟩) (by decide) (zcM_0 _ _ _ _ _ _) rfl rfl rfl hl.1 rfl (Nat.le_of_ble_eq_true rfl) dX7_clause_26) (fun H locs hP hS => ?_)
        refine lv_if_ne (tgt := 34) hx hb dX7_clause_29 (by decide) (fun c8 => ?_) (fun c8 => ?_)
        · have h := zif_f h c8
          refine lv_aload_n hx hb dX7_clause_34 rfl (lv_at hl 0 rfl) ?_
          refine z_get (C := RX7) (T := TX7) (N := 26) X inX7 hP 0 (by decide) (zcM_0 _ _ _ _ _ _) rfl 11 (by decide) rfl (by decide +kernel) rfl dX7_clause_35 ?_
          refine lv_istore_n (lv' := [(1, .int ((s7).1 0 11)), (0, .ref (a 0))]) hx hb dX7_clause_38 rfl hl (by decide) rfl (fun ls hl => ?_)
          refine lv_iconst (v := 0) hx hb dX7_clause_39 (by decide) ?_
          refine lv_istore_n (lv' := [(2, .int (0 : Int32)), (1, .int ((s7).1 0 11)), (0, .ref (a 0))]) hx hb dX7_clause_40 rfl hl (by decide) rfl (fun ls hl => ?_)
          exact w41  zN (((s7).1 0 11)) ((0 : Int32)) (s7) _ _ _ h hP hS (lv_sub hl [2, 1, 0] rfl)
        · have h := zif_t h c8
          refine lv_iconst (v := 0) hx hb dX7_clause_32 (by decide) ?_
          exact z_zret X hP hS hr hlocks (by decide) h dX7_clause_33
abbrev rmX7_reads : Room := { frames := 4, cells := 0, slots := 0, locals := 92 }
set_option maxHeartbeats 4000000 in
set_option maxRecDepth 100000 in
theorem kX7_reads {l : Launch} {D : va_G} {a : Nat → Nat} {cI cJ cC : ClassId}  {s τ : ZS} {r : Int32} (h : fX7_reads  s = some (r, τ)) : zMi (zcM a cI cJ cC) 17 a D [(cI, .int), (cJ, .long), (cC, .char)] zEM l yX7_reads wsX7_reads rmX7_reads [.ref (a 0)] s r τ := by
  refine z_start (cc := cX7_reads) (maxL := 4) (ret := (some .int)) RX7 rfl (by decide) rfl (Nat.le_of_ble_eq_true rfl) ?_
  intro p e st m args below meth c ls H locs X hr hlocks hA hE hP hS hl
  obtain ⟨hx, hb, hml, hown, hts, -⟩ := id X
  have hG := zEM_good
  have inX7 : ∀ w ∈ u_ws RX7 TX7 26, w ∈ wsX7_reads := by decide +kernel
  have w94 : ∀ (k9 : Int32 → Int32 → ZS → Option (Int32 × ZS)) (hk9 : ∀ (x1 : Int32) (x2 : Int32) (s : ZS) (H : Heap) (locs : List Loc) (ls : Array Slot), k9 x1 x2 s = some (r, τ) → va_P D vwCl (zW (zcM a cI cJ cC) 17 a s) H → va_S (zF 17 a st.heap.size) st.heap H locs → lv_has ls 4 [(0, .ref (a 0)), (1, .int x1), (2, .int x2)] → W p l e rmX7_reads st m args below meth c H locs 0 0 (MQ below (va_Qi (fun (r' : Int32) (τ' : ZS) => r' = r ∧ τ' = τ) (zPost (zcM a cI cJ cC) 17 a D [(cI, .int), (cJ, .long), (cC, .char)]) (zF 17 a st.heap.size)) args st 0 0 (zF 17 a st.heap.size)) (F0 m 9 ls [])) (x1 : Int32) (s : ZS) (H : Heap) (locs : List Loc) (ls : Array Slot), fX7_reads_94 k9 x1 s = some (r, τ) → va_P D vwCl (zW (zcM a cI cJ cC) 17 a s) H → va_S (zF 17 a st.heap.size) st.heap H locs → lv_has ls 4 [(0, .ref (a 0)), (1, .int x1)] → W p l e rmX7_reads st m args below meth c H locs 0 0 (MQ below (va_Qi (fun (r' : Int32) (τ' : ZS) => r' = r ∧ τ' = τ) (zPost (zcM a cI cJ cC) 17 a D [(cI, .int), (cJ, .long), (cC, .char)]) (zF 17 a st.heap.size)) args st 0 0 (zF 17 a st.heap.size)) (F0 m 94 ls []) := by
    intro k9 hk9 x1 s H locs ls h hP hS hl
    refine lv_iinc (v := (x1 + (1 : Int32))) (lv' := [(1, .int (x1 + (1 : Int32))), (0, .ref (a 0))]) hx hb dX7_reads_94 hl (k := 1) rfl rfl (by decide) rfl (fun ls hl => ?_)
    refine lv_aload_n hx hb dX7_reads_97 rfl (lv_at hl 1 rfl) ?_
    refine lv_bipush (v := 59) hx hb dX7_reads_98 (by decide) ?_
    obtain ⟨u1, s1, e1, h⟩ := zb_some h
    refine z_calli hS (z_runV (As := [.int (59 : Int32)]) (rest := []) X hG hA hE hP hS 0 (kX7_takes (l := l) (D := D) (a := a) (cI := cI) (cJ := cJ) (cC := cC) e1 _) (cwV 1 hts gX7_reads_X7_takes rfl rfl rfl (by decide +kernel) ⟨Nat.le_of_ble_eq_true rfl, Nat.le_of_ble_eq_true rfl⟩) (by decide) (zcM_0 _ _ _ _ _ _) rfl rfl rfl hl.1 rfl (Nat.le_of_ble_eq_true rfl) dX7_reads_100) (fun H locs hP hS => ?_)
    refine lv_istore_n (lv' := [(2, .int u1), (1, .int (x1 + (1 : Int32))), (0, .ref (a 0))]) hx hb dX7_reads_103 rfl hl (by decide) rfl (fun ls hl => ?_)
    refine lv_goto (tgt := 9) hx hb dX7_reads_104 (by decide) ?_
    exact hk9 ((x1 + (1 : Int32))) (u1) (s1) _ _ _ h hP hS (lv_sub hl [2, 1, 0] rfl)
  have w64 : ∀ (k94 : Int32 → ZS → Option (Int32 × ZS)) (hk94 : ∀ (x1 : Int32) (s : ZS) (H : Heap) (locs : List Loc) (ls : Array Slot), k94 x1 s = some (r, τ) → va_P D vwCl (zW (zcM a cI cJ cC) 17 a s) H → va_S (zF 17 a st.heap.size) st.heap H locs → lv_has ls 4 [(0, .ref (a 0)), (1, .int x1)] → W p l e rmX7_reads st m args below meth c H locs 0 0 (MQ below (va_Qi (fun (r' : Int32) (τ' : ZS) => r' = r ∧ τ' = τ) (zPost (zcM a cI cJ cC) 17 a D [(cI, .int), (cJ, .long), (cC, .char)]) (zF 17 a st.heap.size)) args st 0 0 (zF 17 a st.heap.size)) (F0 m 94 ls [])) (n : Nat) (x1 : Int32) (x3 : Int32) (s : ZS) (H : Heap) (locs : List Loc) (ls : Array Slot), fX7_reads_64n k94 n (x1, x3, s) = some (r, τ) → va_P D vwCl (zW (zcM a cI cJ cC) 17 a s) H → va_S (zF 17 a st.heap.size) st.heap H locs → lv_has ls 4 [(0, .ref (a 0)), (1, .int x1), (3, .int x3)] → W p l e rmX7_reads st m args below meth c H locs 0 0 (MQ below (va_Qi (fun (r' : Int32) (τ' : ZS) => r' = r ∧ τ' = τ) (zPost (zcM a cI cJ cC) 17 a D [(cI, .int), (cJ, .long), (cC, .char)]) (zF 17 a st.heap.size)) args st 0 0 (zF 17 a st.heap.size)) (F0 m 64 ls []) := by
    intro k94 hk94 n
    induction n with
    | zero => intro x1 x3 s H locs ls h; exact zloop_0 h
    | succ n ih =>
      intro x1 x3 s H locs ls h hP hS hl
      have h : fX7_reads_64b k94 (fun x1 x3 s => fX7_reads_64n k94 n (x1, x3, s)) x1 x3 s = some (r, τ) := h
      refine lv_iload_n hx hb dX7_reads_64 rfl (lv_at hl 2 rfl) ?_
      refine lv_iconst (v := 5) hx hb dX7_reads_65 (by decide) ?_
      refine lv_icmp_ge (tgt := 94) hx hb dX7_reads_66 (by decide) (fun c1 => ?_) (fun c1 => ?_)
      · have h := zif_t h c1
        exact hk94 (x1) (s) _ _ _ h hP hS (lv_sub hl [0, 1] rfl)
      · have h := zif_f h c1
        refine lv_aload_n hx hb dX7_reads_69 rfl (lv_at hl 0 rfl) ?_
        refine z_get (C := RX7) (T := TX7) (N := 26) X inX7 hP 0 (by decide) (zcM_0 _ _ _ _ _ _) rfl 13 (by decide) rfl (by decide +kernel) rfl dX7_reads_70 ?_
        refine lv_bipush (v := 7) hx hb dX7_reads_73 (by decide) ?_
        refine lv_iload_n hx hb dX7_reads_75 rfl (lv_at hl 1 rfl) ?_
        refine lv_imul hx hb dX7_reads_76 ?_
        refine lv_iconst (v := 2) hx hb dX7_reads_77 (by decide) ?_
        refine lv_iadd hx hb dX7_reads_78 ?_
        refine lv_iload_n hx hb dX7_reads_79 rfl (lv_at hl 2 rfl) ?_
        refine lv_iadd hx hb dX7_reads_80 ?_
        refine lv_aload_n hx hb dX7_reads_81 rfl (lv_at hl 0 rfl) ?_
        refine z_get (C := RX7) (T := TX7) (N := 26) X inX7 hP 0 (by decide) (zcM_0 _ _ _ _ _ _) rfl 12 (by decide) rfl (by decide +kernel) rfl dX7_reads_82 ?_
        refine lv_iload_n hx hb dX7_reads_85 rfl (lv_at hl 2 rfl) ?_
        obtain ⟨g2, h⟩ := zg_some h
        refine z_iald X hP 7 0 (by decide) (zcM_7 _ _ _ _ _ _) rfl g2 dX7_reads_86 ?_
        obtain ⟨g3, h⟩ := zg_some h
        refine z_iast X hA hP hS 8 0 (by decide) (zcM_8 _ _ _ _) rfl g3 dX7_reads_87 (fun H locs hP hS => ?_)
        refine lv_iinc (v := (x3 + (1 : Int32))) (lv' := [(3, .int (x3 + (1 : Int32))), (0, .ref (a 0)), (1, .int x1)]) hx hb dX7_reads_88 hl (k := 2) rfl rfl (by decide) rfl (fun ls hl => ?_)
        refine lv_goto (tgt := 64) hx hb dX7_reads_91 (by decide) ?_
        exact ih (x1) ((x3 + (1 : Int32))) ((zI s 8 (((((7 : Int32) * x1) + (2 : Int32)) + x3)).toNatClampNeg ((s).1 7 (x3).toNatClampNeg))) _ _ _ h hP hS (lv_sub hl [1, 2, 0] rfl)
  have w9 : ∀  (n : Nat) (x1 : Int32) (x2 : Int32) (s : ZS) (H : Heap) (locs : List Loc) (ls : Array Slot), fX7_reads_9n  n (x1, x2, s) = some (r, τ) → va_P D vwCl (zW (zcM a cI cJ cC) 17 a s) H → va_S (zF 17 a st.heap.size) st.heap H locs → lv_has ls 4 [(0, .ref (a 0)), (1, .int x1), (2, .int x2)] → W p l e rmX7_reads st m args below meth c H locs 0 0 (MQ below (va_Qi (fun (r' : Int32) (τ' : ZS) => r' = r ∧ τ' = τ) (zPost (zcM a cI cJ cC) 17 a D [(cI, .int), (cJ, .long), (cC, .char)]) (zF 17 a st.heap.size)) args st 0 0 (zF 17 a st.heap.size)) (F0 m 9 ls []) := by
    intro  n
    induction n with
    | zero => intro x1 x2 s H locs ls h; exact zloop_0 h
    | succ n ih =>
      intro x1 x2 s H locs ls h hP hS hl
      have h : fX7_reads_9b  (fun x1 x2 s => fX7_reads_9n  n (x1, x2, s)) x1 x2 s = some (r, τ) := h
      refine lv_iload_n hx hb dX7_reads_9 rfl (lv_at hl 2 rfl) ?_
      refine lv_if_eq (tgt := 107) hx hb dX7_reads_10 (by decide) (fun c1 => ?_) (fun c1 => ?_)
      · have h := zif_t h c1
        refine lv_aload_n hx hb dX7_reads_107 rfl (lv_at hl 0 rfl) ?_
        refine z_get (C := RX7) (T := TX7) (N := 26) X inX7 hP 0 (by decide) (zcM_0 _ _ _ _ _ _) rfl 9 (by decide) rfl (by decide +kernel) rfl dX7_reads_108 ?_
        refine lv_aload_n hx hb dX7_reads_111 rfl (lv_at hl 0 rfl) ?_
        refine z_get (C := RX7) (T := TX7) (N := 26) X inX7 hP 0 (by decide) (zcM_0 _ _ _ _ _ _) rfl 8 (by decide) rfl (by decide +kernel) rfl dX7_reads_112 ?_
        refine lv_icmp_ge (tgt := 128) hx hb dX7_reads_115 (by decide) (fun c2 => ?_) (fun c2 => ?_)
        · have h := zif_t h c2
          refine lv_iload_n hx hb dX7_reads_128 rfl (lv_at hl 1 rfl) ?_
          exact z_iret X hP hS hr hlocks h dX7_reads_129
        · have h := zif_f h c2
          refine lv_bipush (v := -100) hx hb dX7_reads_118 (by decide) ?_
          refine lv_aload_n hx hb dX7_reads_120 rfl (lv_at hl 0 rfl) ?_
          refine z_get (C := RX7) (T := TX7) (N := 26) X inX7 hP 0 (by decide) (zcM_0 _ _ _ _ _ _) rfl 9 (by decide) rfl (by decide +kernel) rfl dX7_reads_121 ?_
          refine lv_isub hx hb dX7_reads_124 ?_
          refine lv_goto (tgt := 129) hx hb dX7_reads_125 (by decide) ?_
          exact z_iret X hP hS hr hlocks h dX7_reads_129
      · have h := zif_f h c1
        refine lv_aload_n hx hb dX7_reads_13 rfl (lv_at hl 0 rfl) ?_
        obtain ⟨u3, s3, e3, h⟩ := zb_some h
        refine z_calli hS (z_runV (As := []) (rest := []) X hG hA hE hP hS 0 (kX7_clause (l := l) (D := D) (a := a) (cI := cI) (cJ := cJ) (cC := cC) e3 _) (cwV 0 hts gX7_reads_X7_clause rfl rfl rfl (by decide +kernel) ⟨Nat.le_of_ble_eq_true rfl, Nat.le_of_ble_eq_true rfl⟩) (by decide) (zcM_0 _ _ _ _ _ _) rfl rfl rfl hl.1 rfl (Nat.le_of_ble_eq_true rfl) dX7_reads_14) (fun H locs hP hS => ?_)
        refine lv_if_ne (tgt := 28) hx hb dX7_reads_17 (by decide) (fun c4 => ?_) (fun c4 => ?_)
        · have h := zif_f h c4
          refine lv_iload_n hx hb dX7_reads_28 rfl (lv_at hl 1 rfl) ?_
          refine lv_bipush (v := 8) hx hb dX7_reads_29 (by decide) ?_
          refine lv_icmp_ge (tgt := 94) hx hb dX7_reads_31 (by decide) (fun c5 => ?_) (fun c5 => ?_)
          · have h := zif_t h c5
            exact w94 (fun x1 x2 s => fX7_reads_9n  n (x1, x2, s)) (fun x1 x2 s H locs ls h hP hS hl => ih x1 x2 s H locs ls h hP hS hl)  (x1) (s3) _ _ _ h hP hS (lv_sub hl [0, 1] rfl)
          · have h := zif_f h c5
            refine lv_aload_n hx hb dX7_reads_34 rfl (lv_at hl 0 rfl) ?_
            refine z_get (C := RX7) (T := TX7) (N := 26) X inX7 hP 0 (by decide) (zcM_0 _ _ _ _ _ _) rfl 13 (by decide) rfl (by decide +kernel) rfl dX7_reads_35 ?_
            refine lv_bipush (v := 7) hx hb dX7_reads_38 (by decide) ?_
            refine lv_iload_n hx hb dX7_reads_40 rfl (lv_at hl 1 rfl) ?_
            refine lv_imul hx hb dX7_reads_41 ?_
            refine lv_aload_n hx hb dX7_reads_42 rfl (lv_at hl 0 rfl) ?_
            refine z_get (C := RX7) (T := TX7) (N := 26) X inX7 hP 0 (by decide) (zcM_0 _ _ _ _ _ _) rfl 10 (by decide) rfl (by decide +kernel) rfl dX7_reads_43 ?_
            obtain ⟨g6, h⟩ := zg_some h
            refine z_iast X hA hP hS 8 0 (by decide) (zcM_8 _ _ _ _) rfl g6 dX7_reads_46 (fun H locs hP hS => ?_)
            refine lv_aload_n hx hb dX7_reads_47 rfl (lv_at hl 0 rfl) ?_
            refine z_get (C := RX7) (T := TX7) (N := 26) X inX7 hP 0 (by decide) (zcM_0 _ _ _ _ _ _) rfl 13 (by decide) rfl (by decide +kernel) rfl dX7_reads_48 ?_
            refine lv_bipush (v := 7) hx hb dX7_reads_51 (by decide) ?_
            refine lv_iload_n hx hb dX7_reads_53 rfl (lv_at hl 1 rfl) ?_
            refine lv_imul hx hb dX7_reads_54 ?_
            refine lv_iconst (v := 1) hx hb dX7_reads_55 (by decide) ?_
            refine lv_iadd hx hb dX7_reads_56 ?_
            refine lv_aload_n hx hb dX7_reads_57 rfl (lv_at hl 0 rfl) ?_
            refine z_get (C := RX7) (T := TX7) (N := 26) X inX7 hP 0 (by decide) (zcM_0 _ _ _ _ _ _) rfl 11 (by decide) rfl (by decide +kernel) rfl dX7_reads_58 ?_
            obtain ⟨g7, h⟩ := zg_some h
            refine z_iast X hA hP hS 8 0 (by decide) (zcM_8 _ _ _ _) rfl g7 dX7_reads_61 (fun H locs hP hS => ?_)
            refine lv_iconst (v := 0) hx hb dX7_reads_62 (by decide) ?_
            refine lv_istore_n (lv' := [(3, .int (0 : Int32)), (0, .ref (a 0)), (1, .int x1), (2, .int x2)]) hx hb dX7_reads_63 rfl hl (by decide) rfl (fun ls hl => ?_)
            exact w64 (fX7_reads_94 (fun x1 x2 s => fX7_reads_9n  n (x1, x2, s))) (fun x1 s H locs ls h hP hS hl => w94 (fun x1 x2 s => fX7_reads_9n  n (x1, x2, s)) (fun x1 x2 s H locs ls h hP hS hl => ih x1 x2 s H locs ls h hP hS hl)  x1 s H locs ls h hP hS hl) zN (x1) ((0 : Int32)) ((zI (zI s3 8 (((7 : Int32) * x1)).toNatClampNeg ((s3).1 0 10)) 8 ((((7 : Int32) * x1) + (1 : Int32))).toNatClampNeg (((zI s3 8 (((7 : Int32) * x1)).toNatClampNeg ((s3).1 0 10))).1 0 11))) _ _ _ h hP hS (lv_sub hl [1, 2, 0] rfl)
        · have h := zif_t h c4
          refine lv_bipush (v := -100) hx hb dX7_reads_20 (by decide) ?_
          refine lv_aload_n hx hb dX7_reads_22 rfl (lv_at hl 0 rfl) ?_
          refine z_get (C := RX7) (T := TX7) (N := 26) X inX7 hP 0 (by decide) (zcM_0 _ _ _ _ _ _) rfl 9 (by decide) rfl (by decide +kernel) rfl dX7_reads_23 ?_
          refine lv_isub hx hb dX7_reads_26 ?_
          exact z_iret X hP hS hr hlocks h dX7_reads_27
  have hl : lv_has ls 4 [(0, .ref (a 0))] := hl
  refine lv_aload_n hx hb dX7_reads_0 rfl (lv_at hl 0 rfl) ?_
  refine lv_iconst (v := 0) hx hb dX7_reads_1 (by decide) ?_
  refine z_put (ty := .int) (x := (0 : Int32)) (C := RX7) (T := TX7) (N := 26) X inX7 tyX7 tyX7_ok nmX7 hA hP hS 0 (by decide) (zcM_0 _ _ _ _ _ _) rfl 9 (by decide) rfl (by decide +kernel) rfl (by decide +kernel) rfl rfl (Nat.le_of_ble_eq_true rfl) rfl dX7_reads_2 (fun H locs hP hS => ?_)
  refine lv_iconst (v := 0) hx hb dX7_reads_5 (by decide) ?_
  refine lv_istore_n (lv' := [(1, .int (0 : Int32)), (0, .ref (a 0))]) hx hb dX7_reads_6 rfl hl (by decide) rfl (fun ls hl => ?_)
  refine lv_iconst (v := 1) hx hb dX7_reads_7 (by decide) ?_
  refine lv_istore_n (lv' := [(2, .int (1 : Int32)), (1, .int (0 : Int32)), (0, .ref (a 0))]) hx hb dX7_reads_8 rfl hl (by decide) rfl (fun ls hl => ?_)
  exact w9  zN ((0 : Int32)) ((1 : Int32)) ((zI s 0 9 (0 : Int32))) _ _ _ h hP hS (lv_sub hl [2, 1, 0] rfl)
abbrev rmX7_sheets : Room := { frames := 5, cells := 0, slots := 0, locals := 115 }
set_option maxHeartbeats 4000000 in
set_option maxRecDepth 100000 in
theorem kX7_sheets {l : Launch} {D : va_G} {a : Nat → Nat} {cI cJ cC : ClassId}  {s τ : ZS} {r : Int32} (h : fX7_sheets  s = some (r, τ)) : zMi (zcM a cI cJ cC) 17 a D [(cI, .int), (cJ, .long), (cC, .char)] zEM l yX7_sheets wsX7_sheets rmX7_sheets [.ref (a 0)] s r τ := by
  refine z_start (cc := cX7_sheets) (maxL := 3) (ret := (some .int)) RX7 rfl (by decide) rfl (Nat.le_of_ble_eq_true rfl) ?_
  intro p e st m args below meth c ls H locs X hr hlocks hA hE hP hS hl
  obtain ⟨hx, hb, hml, hown, hts, -⟩ := id X
  have hG := zEM_good
  have inX7 : ∀ w ∈ u_ws RX7 TX7 26, w ∈ wsX7_sheets := by decide +kernel
  have w34 : ∀  (n : Nat) (x1 : Int32) (x2 : Int32) (s : ZS) (H : Heap) (locs : List Loc) (ls : Array Slot), fX7_sheets_34n  n (x1, x2, s) = some (r, τ) → va_P D vwCl (zW (zcM a cI cJ cC) 17 a s) H → va_S (zF 17 a st.heap.size) st.heap H locs → lv_has ls 3 [(0, .ref (a 0)), (1, .int x1), (2, .int x2)] → W p l e rmX7_sheets st m args below meth c H locs 0 0 (MQ below (va_Qi (fun (r' : Int32) (τ' : ZS) => r' = r ∧ τ' = τ) (zPost (zcM a cI cJ cC) 17 a D [(cI, .int), (cJ, .long), (cC, .char)]) (zF 17 a st.heap.size)) args st 0 0 (zF 17 a st.heap.size)) (F0 m 34 ls []) := by
    intro  n
    induction n with
    | zero => intro x1 x2 s H locs ls h; exact zloop_0 h
    | succ n ih =>
      intro x1 x2 s H locs ls h hP hS hl
      have h : fX7_sheets_34b  (fun x1 x2 s => fX7_sheets_34n  n (x1, x2, s)) x1 x2 s = some (r, τ) := h
      refine lv_iload_n hx hb dX7_sheets_34 rfl (lv_at hl 2 rfl) ?_
      refine lv_bipush (v := 7) hx hb dX7_sheets_35 (by decide) ?_
      refine lv_iload_n hx hb dX7_sheets_37 rfl (lv_at hl 1 rfl) ?_
      refine lv_imul hx hb dX7_sheets_38 ?_
      refine lv_icmp_ge (tgt := 72) hx hb dX7_sheets_39 (by decide) (fun c1 => ?_) (fun c1 => ?_)
      · have h := zif_t h c1
        refine lv_aload_n hx hb dX7_sheets_72 rfl (lv_at hl 0 rfl) ?_
        refine z_get (C := RX7) (T := TX7) (N := 26) X inX7 hP 0 (by decide) (zcM_0 _ _ _ _ _ _) rfl 0 (by decide) rfl (by decide +kernel) rfl dX7_sheets_73 ?_
        refine lv_iconst (v := 0) hx hb dX7_sheets_76 (by decide) ?_
        refine lv_dup2_11 hx hb dX7_sheets_77 rfl rfl ?_
        obtain ⟨g2, h⟩ := zg_some h
        refine z_iald X hP 1 0 (by decide) (zcM_1 _ _ _ _ _ _) rfl g2 dX7_sheets_78 ?_
        refine lv_iload_n hx hb dX7_sheets_79 rfl (lv_at hl 1 rfl) ?_
        refine lv_iadd hx hb dX7_sheets_80 ?_
        obtain ⟨g3, h⟩ := zg_some h
        refine z_iast X hA hP hS 1 0 (by decide) (zcM_1 _ _ _ _) rfl g3 dX7_sheets_81 (fun H locs hP hS => ?_)
        refine lv_aload_n hx hb dX7_sheets_82 rfl (lv_at hl 0 rfl) ?_
        refine z_get (C := RX7) (T := TX7) (N := 26) X inX7 hP 0 (by decide) (zcM_0 _ _ _ _ _ _) rfl 0 (by decide) rfl (by decide +kernel) rfl dX7_sheets_83 ?_
        refine lv_iconst (v := 0) hx hb dX7_sheets_86 (by decide) ?_
        obtain ⟨g4, h⟩ := zg_some h
        refine z_iald X hP 1 0 (by decide) (zcM_1 _ _ _ _ _ _) rfl g4 dX7_sheets_87 ?_
        exact z_iret X hP hS hr hlocks h dX7_sheets_88
      · have h := zif_f h c1
        refine lv_aload_n hx hb dX7_sheets_42 rfl (lv_at hl 0 rfl) ?_
        refine z_get (C := RX7) (T := TX7) (N := 26) X inX7 hP 0 (by decide) (zcM_0 _ _ _ _ _ _) rfl 0 (by decide) rfl (by decide +kernel) rfl dX7_sheets_43 ?_
        refine lv_iconst (v := 2) hx hb dX7_sheets_46 (by decide) ?_
        refine lv_bipush (v := 7) hx hb dX7_sheets_47 (by decide) ?_
        refine lv_aload_n hx hb dX7_sheets_49 rfl (lv_at hl 0 rfl) ?_
        refine z_get (C := RX7) (T := TX7) (N := 26) X inX7 hP 0 (by decide) (zcM_0 _ _ _ _ _ _) rfl 0 (by decide) rfl (by decide +kernel) rfl dX7_sheets_50 ?_
        refine lv_iconst (v := 0) hx hb dX7_sheets_53 (by decide) ?_
        obtain ⟨g5, h⟩ := zg_some h
        refine z_iald X hP 1 0 (by decide) (zcM_1 _ _ _ _ _ _) rfl g5 dX7_sheets_54 ?_
        refine lv_imul hx hb dX7_sheets_55 ?_
        refine lv_iadd hx hb dX7_sheets_56 ?_
        refine lv_iload_n hx hb dX7_sheets_57 rfl (lv_at hl 2 rfl) ?_
        refine lv_iadd hx hb dX7_sheets_58 ?_
        refine lv_aload_n hx hb dX7_sheets_59 rfl (lv_at hl 0 rfl) ?_
        refine z_get (C := RX7) (T := TX7) (N := 26) X inX7 hP 0 (by decide) (zcM_0 _ _ _ _ _ _) rfl 13 (by decide) rfl (by decide +kernel) rfl dX7_sheets_60 ?_
        refine lv_iload_n hx hb dX7_sheets_63 rfl (lv_at hl 2 rfl) ?_
        obtain ⟨g6, h⟩ := zg_some h
        refine z_iald X hP 8 0 (by decide) (zcM_8 _ _ _ _ _ _) rfl g6 dX7_sheets_64 ?_
        obtain ⟨g7, h⟩ := zg_some h
        refine z_iast X hA hP hS 1 0 (by decide) (zcM_1 _ _ _ _) rfl g7 dX7_sheets_65 (fun H locs hP hS => ?_)
        refine lv_iinc (v := (x2 + (1 : Int32))) (lv' := [(2, .int (x2 + (1 : Int32))), (0, .ref (a 0)), (1, .int x1)]) hx hb dX7_sheets_66 hl (k := 2) rfl rfl (by decide) rfl (fun ls hl => ?_)
        refine lv_goto (tgt := 34) hx hb dX7_sheets_69 (by decide) ?_
        exact ih (x1) ((x2 + (1 : Int32))) ((zI s 1 ((((2 : Int32) + ((7 : Int32) * ((s).1 1 ((0 : Int32)).toNatClampNeg))) + x2)).toNatClampNeg ((s).1 8 (x2).toNatClampNeg))) _ _ _ h hP hS (lv_sub hl [1, 2, 0] rfl)
  have hl : lv_has ls 3 [(0, .ref (a 0))] := hl
  refine lv_aload_n hx hb dX7_sheets_0 rfl (lv_at hl 0 rfl) ?_
  obtain ⟨u1, s1, e1, h⟩ := zb_some h
  refine z_calli hS (z_runV (As := []) (rest := []) X hG hA hE hP hS 0 (kX7_reads (l := l) (D := D) (a := a) (cI := cI) (cJ := cJ) (cC := cC) e1 _) (cwV 0 hts gX7_sheets_X7_reads rfl rfl rfl (by decide +kernel) ⟨Nat.le_of_ble_eq_true rfl, Nat.le_of_ble_eq_true rfl⟩) (by decide) (zcM_0 _ _ _ _ _ _) rfl rfl rfl hl.1 rfl (Nat.le_of_ble_eq_true rfl) dX7_sheets_1) (fun H locs hP hS => ?_)
  refine lv_istore_n (lv' := [(1, .int u1), (0, .ref (a 0))]) hx hb dX7_sheets_4 rfl hl (by decide) rfl (fun ls hl => ?_)
  refine lv_aload_n hx hb dX7_sheets_5 rfl (lv_at hl 1 rfl) ?_
  refine lv_iconst (v := 0) hx hb dX7_sheets_6 (by decide) ?_
  refine z_put (ty := .int) (x := (0 : Int32)) (C := RX7) (T := TX7) (N := 26) X inX7 tyX7 tyX7_ok nmX7 hA hP hS 0 (by decide) (zcM_0 _ _ _ _ _ _) rfl 8 (by decide) rfl (by decide +kernel) rfl (by decide +kernel) rfl rfl (Nat.le_of_ble_eq_true rfl) rfl dX7_sheets_7 (fun H locs hP hS => ?_)
  refine lv_iload_n hx hb dX7_sheets_10 rfl (lv_at hl 0 rfl) ?_
  refine lv_if_ge (tgt := 16) hx hb dX7_sheets_11 (by decide) (fun c2 => ?_) (fun c2 => ?_)
  · have h := zif_t h c2
    refine lv_aload_n hx hb dX7_sheets_16 rfl (lv_at hl 1 rfl) ?_
    refine z_get (C := RX7) (T := TX7) (N := 26) X inX7 hP 0 (by decide) (zcM_0 _ _ _ _ _ _) rfl 0 (by decide) rfl (by decide +kernel) rfl dX7_sheets_17 ?_
    refine lv_iconst (v := 0) hx hb dX7_sheets_20 (by decide) ?_
    obtain ⟨g3, h⟩ := zg_some h
    refine z_iald X hP 1 0 (by decide) (zcM_1 _ _ _ _ _ _) rfl g3 dX7_sheets_21 ?_
    refine lv_iload_n hx hb dX7_sheets_22 rfl (lv_at hl 0 rfl) ?_
    refine lv_iadd hx hb dX7_sheets_23 ?_
    refine lv_bipush (v := 8) hx hb dX7_sheets_24 (by decide) ?_
    refine lv_icmp_le (tgt := 32) hx hb dX7_sheets_26 (by decide) (fun c4 => ?_) (fun c4 => ?_)
    · have h := zif_t h c4
      refine lv_iconst (v := 0) hx hb dX7_sheets_32 (by decide) ?_
      refine lv_istore_n (lv' := [(2, .int (0 : Int32)), (1, .int u1), (0, .ref (a 0))]) hx hb dX7_sheets_33 rfl hl (by decide) rfl (fun ls hl => ?_)
      exact w34  zN (u1) ((0 : Int32)) ((zI s1 0 8 (0 : Int32))) _ _ _ h hP hS (lv_sub hl [2, 1, 0] rfl)
    · have h := zif_f h c4
      refine lv_bipush (v := -4) hx hb dX7_sheets_29 (by decide) ?_
      exact z_iret X hP hS hr hlocks h dX7_sheets_31
  · have h := zif_f h c2
    refine lv_iload_n hx hb dX7_sheets_14 rfl (lv_at hl 0 rfl) ?_
    exact z_iret X hP hS hr hlocks h dX7_sheets_15
abbrev rmX7_number : Room := { frames := 2, cells := 0, slots := 0, locals := 46 }
set_option maxHeartbeats 4000000 in
set_option maxRecDepth 100000 in
theorem kX7_number {l : Launch} {D : va_G} {a : Nat → Nat} {cI cJ cC : ClassId} {x1 : Int32} {x2 : Int32} {x3 : Int32} {s τ : ZS} {r : Int32} (h : fX7_number x1 x2 x3 s = some (r, τ)) : zMi (zcM a cI cJ cC) 17 a D [(cI, .int), (cJ, .long), (cC, .char)] zEM l yX7_number wsX7_number rmX7_number [.ref (a 0), .int x1, .int x2, .int x3] s r τ := by
  refine z_start (cc := cX7_number) (maxL := 5) (ret := (some .int)) RX7 rfl (by decide) rfl (Nat.le_of_ble_eq_true rfl) ?_
  intro p e st m args below meth c ls H locs X hr hlocks hA hE hP hS hl
  obtain ⟨hx, hb, hml, hown, hts, -⟩ := id X
  have hG := zEM_good
  have inX7 : ∀ w ∈ u_ws RX7 TX7 26, w ∈ wsX7_number := by decide +kernel
  have hl : lv_has ls 5 [(0, .ref (a 0)), (1, .int x1), (2, .int x2), (3, .int x3)] := hl
  refine lv_aload_n hx hb dX7_number_0 rfl (lv_at hl 0 rfl) ?_
  refine lv_iload_n hx hb dX7_number_1 rfl (lv_at hl 1 rfl) ?_
  obtain ⟨u1, s1, e1, h⟩ := zb_some h
  refine z_calli hS (z_runV (As := [.int x1]) (rest := []) X hG hA hE hP hS 0 (kX7_isSheet (l := l) (D := D) (a := a) (cI := cI) (cJ := cJ) (cC := cC) e1 _) (cwV 1 hts gX7_number_X7_isSheet rfl rfl rfl (by decide +kernel) ⟨Nat.le_of_ble_eq_true rfl, Nat.le_of_ble_eq_true rfl⟩) (by decide) (zcM_0 _ _ _ _ _ _) rfl rfl rfl hl.1 rfl (Nat.le_of_ble_eq_true rfl) dX7_number_2) (fun H locs hP hS => ?_)
  refine lv_if_eq (tgt := 15) hx hb dX7_number_5 (by decide) (fun c2 => ?_) (fun c2 => ?_)
  · have h := zif_t h c2
    refine lv_iconst (v := -1) hx hb dX7_number_15 (by decide) ?_
    exact z_iret X hP hS hr hlocks h dX7_number_16
  · have h := zif_f h c2
    refine lv_iload_n hx hb dX7_number_8 rfl (lv_at hl 2 rfl) ?_
    obtain ⟨u3, s3, e3, h⟩ := zb_some h
    refine z_calli hS (z_runS (As := [.int x2]) (rest := []) X hG hA hE hP hS (kX7_isBand (l := l) (D := D) (a := a) (cI := cI) (cJ := cJ) (cC := cC) e3 _) (va_cwS 1 hts gX7_number_X7_isBand rfl rfl rfl (by decide +kernel) ⟨Nat.le_of_ble_eq_true rfl, Nat.le_of_ble_eq_true rfl⟩) rfl hl.1 rfl (Nat.le_of_ble_eq_true rfl) dX7_number_9) (fun H locs hP hS => ?_)
    refine lv_if_ne (tgt := 17) hx hb dX7_number_12 (by decide) (fun c4 => ?_) (fun c4 => ?_)
    · have h := zif_f h c4
      refine lv_iload_n hx hb dX7_number_17 rfl (lv_at hl 3 rfl) ?_
      refine lv_i2l hx hb dX7_number_18 rfl ?_
      refine lv_lconst (v := 0) hx hb dX7_number_19 (by decide) ?_
      refine lv_ldc2 (own := RX7) (index := 106) (v := 10) hx hb hown (hts _ (by decide +kernel)) dX7_number_20 ?_
      obtain ⟨u5, s5, e5, h⟩ := zb_some h
      refine z_calli hS (z_runS (As := [.long (x3).toInt64, .long (0 : Int64), .long (10 : Int64)]) (rest := []) X hG hA hE hP hS (kX7_isIn (l := l) (D := D) (a := a) (cI := cI) (cJ := cJ) (cC := cC) e5 _) (va_cwS 3 hts gX7_number_X7_isIn rfl rfl rfl (by decide +kernel) ⟨Nat.le_of_ble_eq_true rfl, Nat.le_of_ble_eq_true rfl⟩) rfl hl.1 rfl (Nat.le_of_ble_eq_true rfl) dX7_number_23) (fun H locs hP hS => ?_)
      refine lv_if_ne (tgt := 32) hx hb dX7_number_26 (by decide) (fun c6 => ?_) (fun c6 => ?_)
      · have h := zif_f h c6
        refine lv_aload_n hx hb dX7_number_32 rfl (lv_at hl 0 rfl) ?_
        refine lv_iload_n hx hb dX7_number_33 rfl (lv_at hl 1 rfl) ?_
        refine lv_iload_n hx hb dX7_number_34 rfl (lv_at hl 2 rfl) ?_
        obtain ⟨u7, s7, e7, h⟩ := zb_some h
        refine z_calli hS (z_runV (As := [.int x1, .int x2]) (rest := []) X hG hA hE hP hS 0 (kX7_numberOf (l := l) (D := D) (a := a) (cI := cI) (cJ := cJ) (cC := cC) e7 _) (cwV 2 hts gX7_number_X7_numberOf rfl rfl rfl (by decide +kernel) ⟨Nat.le_of_ble_eq_true rfl, Nat.le_of_ble_eq_true rfl⟩) (by decide) (zcM_0 _ _ _ _ _ _) rfl rfl rfl hl.1 rfl (Nat.le_of_ble_eq_true rfl) dX7_number_35) (fun H locs hP hS => ?_)
        refine lv_istore (lv' := [(4, .int u7), (0, .ref (a 0)), (1, .int x1), (2, .int x2), (3, .int x3)]) hx hb dX7_number_38 hl (by decide) rfl (fun ls hl => ?_)
        refine lv_aload_n hx hb dX7_number_40 rfl (lv_at hl 1 rfl) ?_
        refine z_get (C := RX7) (T := TX7) (N := 26) X inX7 hP 0 (by decide) (zcM_0 _ _ _ _ _ _) rfl 0 (by decide) rfl (by decide +kernel) rfl dX7_number_41 ?_
        refine lv_iconst (v := 2) hx hb dX7_number_44 (by decide) ?_
        refine lv_bipush (v := 7) hx hb dX7_number_45 (by decide) ?_
        refine lv_iload_n hx hb dX7_number_47 rfl (lv_at hl 2 rfl) ?_
        refine lv_imul hx hb dX7_number_48 ?_
        refine lv_iadd hx hb dX7_number_49 ?_
        refine lv_iconst (v := 2) hx hb dX7_number_50 (by decide) ?_
        refine lv_iadd hx hb dX7_number_51 ?_
        refine lv_iload_n hx hb dX7_number_52 rfl (lv_at hl 3 rfl) ?_
        refine lv_iadd hx hb dX7_number_53 ?_
        refine lv_iload_n hx hb dX7_number_54 rfl (lv_at hl 4 rfl) ?_
        obtain ⟨g8, h⟩ := zg_some h
        refine z_iast X hA hP hS 1 0 (by decide) (zcM_1 _ _ _ _) rfl g8 dX7_number_55 (fun H locs hP hS => ?_)
        refine lv_iload hx hb dX7_number_56 (lv_at hl 0 rfl) ?_
        exact z_iret X hP hS hr hlocks h dX7_number_58
      · have h := zif_t h c6
        refine lv_bipush (v := -2) hx hb dX7_number_29 (by decide) ?_
        exact z_iret X hP hS hr hlocks h dX7_number_31
    · have h := zif_t h c4
      refine lv_iconst (v := -1) hx hb dX7_number_15 (by decide) ?_
      exact z_iret X hP hS hr hlocks h dX7_number_16
abbrev rmX7_becomes : Room := { frames := 2, cells := 0, slots := 0, locals := 46 }
set_option maxHeartbeats 4000000 in
set_option maxRecDepth 100000 in
theorem kX7_becomes {l : Launch} {D : va_G} {a : Nat → Nat} {cI cJ cC : ClassId} {x1 : Int32} {x2 : Int32} {x3 : Int32} {s τ : ZS} {r : Int32} (h : fX7_becomes x1 x2 x3 s = some (r, τ)) : zMi (zcM a cI cJ cC) 17 a D [(cI, .int), (cJ, .long), (cC, .char)] zEM l yX7_becomes wsX7_becomes rmX7_becomes [.ref (a 0), .int x1, .int x2, .int x3] s r τ := by
  refine z_start (cc := cX7_becomes) (maxL := 5) (ret := (some .int)) RX7 rfl (by decide) rfl (Nat.le_of_ble_eq_true rfl) ?_
  intro p e st m args below meth c ls H locs X hr hlocks hA hE hP hS hl
  obtain ⟨hx, hb, hml, hown, hts, -⟩ := id X
  have hG := zEM_good
  have inX7 : ∀ w ∈ u_ws RX7 TX7 26, w ∈ wsX7_becomes := by decide +kernel
  have hl : lv_has ls 5 [(0, .ref (a 0)), (1, .int x1), (2, .int x2), (3, .int x3)] := hl
  refine lv_aload_n hx hb dX7_becomes_0 rfl (lv_at hl 0 rfl) ?_
  refine lv_iload_n hx hb dX7_becomes_1 rfl (lv_at hl 1 rfl) ?_
  obtain ⟨u1, s1, e1, h⟩ := zb_some h
  refine z_calli hS (z_runV (As := [.int x1]) (rest := []) X hG hA hE hP hS 0 (kX7_isSheet (l := l) (D := D) (a := a) (cI := cI) (cJ := cJ) (cC := cC) e1 _) (cwV 1 hts gX7_becomes_X7_isSheet rfl rfl rfl (by decide +kernel) ⟨Nat.le_of_ble_eq_true rfl, Nat.le_of_ble_eq_true rfl⟩) (by decide) (zcM_0 _ _ _ _ _ _) rfl rfl rfl hl.1 rfl (Nat.le_of_ble_eq_true rfl) dX7_becomes_2) (fun H locs hP hS => ?_)
  refine lv_if_eq (tgt := 20) hx hb dX7_becomes_5 (by decide) (fun c2 => ?_) (fun c2 => ?_)
  · have h := zif_t h c2
    refine lv_iconst (v := -1) hx hb dX7_becomes_20 (by decide) ?_
    exact z_iret X hP hS hr hlocks h dX7_becomes_21
  · have h := zif_f h c2
    refine lv_iload_n hx hb dX7_becomes_8 rfl (lv_at hl 2 rfl) ?_
    refine lv_i2l hx hb dX7_becomes_9 rfl ?_
    refine lv_lconst (v := 0) hx hb dX7_becomes_10 (by decide) ?_
    refine lv_ldc2 (own := RX7) (index := 159) (v := 5) hx hb hown (hts _ (by decide +kernel)) dX7_becomes_11 ?_
    obtain ⟨u3, s3, e3, h⟩ := zb_some h
    refine z_calli hS (z_runS (As := [.long (x2).toInt64, .long (0 : Int64), .long (5 : Int64)]) (rest := []) X hG hA hE hP hS (kX7_isIn (l := l) (D := D) (a := a) (cI := cI) (cJ := cJ) (cC := cC) e3 _) (va_cwS 3 hts gX7_becomes_X7_isIn rfl rfl rfl (by decide +kernel) ⟨Nat.le_of_ble_eq_true rfl, Nat.le_of_ble_eq_true rfl⟩) rfl hl.1 rfl (Nat.le_of_ble_eq_true rfl) dX7_becomes_14) (fun H locs hP hS => ?_)
    refine lv_if_ne (tgt := 22) hx hb dX7_becomes_17 (by decide) (fun c4 => ?_) (fun c4 => ?_)
    · have h := zif_f h c4
      refine lv_iload_n hx hb dX7_becomes_22 rfl (lv_at hl 3 rfl) ?_
      refine lv_i2l hx hb dX7_becomes_23 rfl ?_
      refine lv_lconst (v := 0) hx hb dX7_becomes_24 (by decide) ?_
      refine lv_ldc2 (own := RX7) (index := 161) (v := 9) hx hb hown (hts _ (by decide +kernel)) dX7_becomes_25 ?_
      obtain ⟨u5, s5, e5, h⟩ := zb_some h
      refine z_calli hS (z_runS (As := [.long (x3).toInt64, .long (0 : Int64), .long (9 : Int64)]) (rest := []) X hG hA hE hP hS (kX7_isIn (l := l) (D := D) (a := a) (cI := cI) (cJ := cJ) (cC := cC) e5 _) (va_cwS 3 hts gX7_becomes_X7_isIn rfl rfl rfl (by decide +kernel) ⟨Nat.le_of_ble_eq_true rfl, Nat.le_of_ble_eq_true rfl⟩) rfl hl.1 rfl (Nat.le_of_ble_eq_true rfl) dX7_becomes_28) (fun H locs hP hS => ?_)
      refine lv_if_ne (tgt := 37) hx hb dX7_becomes_31 (by decide) (fun c6 => ?_) (fun c6 => ?_)
      · have h := zif_f h c6
        refine lv_bipush (v := 10) hx hb dX7_becomes_37 (by decide) ?_
        refine lv_aload_n hx hb dX7_becomes_39 rfl (lv_at hl 0 rfl) ?_
        refine lv_iload_n hx hb dX7_becomes_40 rfl (lv_at hl 1 rfl) ?_
        obtain ⟨u7, s7, e7, h⟩ := zb_some h
        refine z_calli hS (z_runV (As := [.int x1]) (rest := [.int (10 : Int32)]) X hG hA hE hP hS 0 (kX7_kindOf (l := l) (D := D) (a := a) (cI := cI) (cJ := cJ) (cC := cC) e7 _) (cwV 1 hts gX7_becomes_X7_kindOf rfl rfl rfl (by decide +kernel) ⟨Nat.le_of_ble_eq_true rfl, Nat.le_of_ble_eq_true rfl⟩) (by decide) (zcM_0 _ _ _ _ _ _) rfl rfl rfl hl.1 rfl (Nat.le_of_ble_eq_true rfl) dX7_becomes_41) (fun H locs hP hS => ?_)
        refine lv_imul hx hb dX7_becomes_44 ?_
        refine lv_aload_n hx hb dX7_becomes_45 rfl (lv_at hl 0 rfl) ?_
        refine lv_iload_n hx hb dX7_becomes_46 rfl (lv_at hl 1 rfl) ?_
        obtain ⟨u8, s8, e8, h⟩ := zb_some h
        refine z_calli hS (z_runV (As := [.int x1]) (rest := [.int ((10 : Int32) * u7)]) X hG hA hE hP hS 0 (kX7_figureOf (l := l) (D := D) (a := a) (cI := cI) (cJ := cJ) (cC := cC) e8 _) (cwV 1 hts gX7_becomes_X7_figureOf rfl rfl rfl (by decide +kernel) ⟨Nat.le_of_ble_eq_true rfl, Nat.le_of_ble_eq_true rfl⟩) (by decide) (zcM_0 _ _ _ _ _ _) rfl rfl rfl hl.1 rfl (Nat.le_of_ble_eq_true rfl) dX7_becomes_47) (fun H locs hP hS => ?_)
        refine lv_iadd hx hb dX7_becomes_50 ?_
        refine lv_istore (lv' := [(4, .int (((10 : Int32) * u7) + u8)), (0, .ref (a 0)), (1, .int x1), (2, .int x2), (3, .int x3)]) hx hb dX7_becomes_51 hl (by decide) rfl (fun ls hl => ?_)
        refine lv_aload_n hx hb dX7_becomes_53 rfl (lv_at hl 1 rfl) ?_
        refine z_get (C := RX7) (T := TX7) (N := 26) X inX7 hP 0 (by decide) (zcM_0 _ _ _ _ _ _) rfl 0 (by decide) rfl (by decide +kernel) rfl dX7_becomes_54 ?_
        refine lv_iconst (v := 2) hx hb dX7_becomes_57 (by decide) ?_
        refine lv_bipush (v := 7) hx hb dX7_becomes_58 (by decide) ?_
        refine lv_iload_n hx hb dX7_becomes_60 rfl (lv_at hl 2 rfl) ?_
        refine lv_imul hx hb dX7_becomes_61 ?_
        refine lv_iadd hx hb dX7_becomes_62 ?_
        refine lv_iload_n hx hb dX7_becomes_63 rfl (lv_at hl 3 rfl) ?_
        obtain ⟨g9, h⟩ := zg_some h
        refine z_iast X hA hP hS 1 0 (by decide) (zcM_1 _ _ _ _) rfl g9 dX7_becomes_64 (fun H locs hP hS => ?_)
        refine lv_aload_n hx hb dX7_becomes_65 rfl (lv_at hl 1 rfl) ?_
        refine z_get (C := RX7) (T := TX7) (N := 26) X inX7 hP 0 (by decide) (zcM_0 _ _ _ _ _ _) rfl 0 (by decide) rfl (by decide +kernel) rfl dX7_becomes_66 ?_
        refine lv_iconst (v := 2) hx hb dX7_becomes_69 (by decide) ?_
        refine lv_bipush (v := 7) hx hb dX7_becomes_70 (by decide) ?_
        refine lv_iload_n hx hb dX7_becomes_72 rfl (lv_at hl 2 rfl) ?_
        refine lv_imul hx hb dX7_becomes_73 ?_
        refine lv_iadd hx hb dX7_becomes_74 ?_
        refine lv_iconst (v := 1) hx hb dX7_becomes_75 (by decide) ?_
        refine lv_iadd hx hb dX7_becomes_76 ?_
        refine lv_iload_n hx hb dX7_becomes_77 rfl (lv_at hl 4 rfl) ?_
        obtain ⟨g10, h⟩ := zg_some h
        refine z_iast X hA hP hS 1 0 (by decide) (zcM_1 _ _ _ _) rfl g10 dX7_becomes_78 (fun H locs hP hS => ?_)
        refine lv_iload hx hb dX7_becomes_79 (lv_at hl 0 rfl) ?_
        exact z_iret X hP hS hr hlocks h dX7_becomes_81
      · have h := zif_t h c6
        refine lv_bipush (v := -2) hx hb dX7_becomes_34 (by decide) ?_
        exact z_iret X hP hS hr hlocks h dX7_becomes_36
    · have h := zif_t h c4
      refine lv_iconst (v := -1) hx hb dX7_becomes_20 (by decide) ?_
      exact z_iret X hP hS hr hlocks h dX7_becomes_21
