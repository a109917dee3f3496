abbrev rmX4_append : Room := { frames := 0, cells := 0, slots := 0, locals := 0 }
set_option maxHeartbeats 4000000 in
set_option maxRecDepth 100000 in
theorem kX4_append {l : Launch} {D : va_G} {a : Nat → Nat} {cI cJ cC : ClassId} {adK adV : Nat → Nat} {x1 : Int32} {s τ : ZS} {r : Int32} (h : fX4_append x1 s = some (r, τ)) : zMi (zcC a cI cJ cC) 41 a D [(cI, .int), (cJ, .long)] (zEC adK adV) l yX4_append wsX4_append rmX4_append [.ref (a 26), .int x1] s r τ := by
  refine z_start (cc := cX4_append) (maxL := 2) (ret := (some .boolean)) RX4 rfl (by decide) rfl (Nat.le_of_ble_eq_true rfl) ?_
  intro p e st m args below meth c ls H locs X hr hlocks hA hE hP hS hl
  obtain ⟨hx, hb, hml, hown, hts, -⟩ := id X
  have hG := zEC_good adK adV
  have inX4 : ∀ w ∈ u_ws RX4 TX4 9, w ∈ wsX4_append := by decide +kernel
  have hl : lv_has ls 2 [(0, .ref (a 26)), (1, .int x1)] := hl
  refine lv_aload_n hx hb dX4_append_0 rfl (lv_at hl 0 rfl) ?_
  refine z_get (C := RX4) (T := TX4) (N := 9) X inX4 hP 26 (by decide) (zcC_26 _ _ _ _ _ _) rfl 1 (by decide) rfl (by decide +kernel) rfl dX4_append_1 ?_
  refine lv_bipush (v := 80) hx hb dX4_append_4 (by decide) ?_
  refine lv_icmp_lt (tgt := 11) hx hb dX4_append_6 (by decide) (fun c1 => ?_) (fun c1 => ?_)
  · have h := zif_t h c1
    refine lv_aload_n hx hb dX4_append_11 rfl (lv_at hl 0 rfl) ?_
    refine z_get (C := RX4) (T := TX4) (N := 9) X inX4 hP 26 (by decide) (zcC_26 _ _ _ _ _ _) rfl 0 (by decide) rfl (by decide +kernel) rfl dX4_append_12 ?_
    refine lv_aload_n hx hb dX4_append_15 rfl (lv_at hl 0 rfl) ?_
    refine z_get (C := RX4) (T := TX4) (N := 9) X inX4 hP 26 (by decide) (zcC_26 _ _ _ _ _ _) rfl 1 (by decide) rfl (by decide +kernel) rfl dX4_append_16 ?_
    refine lv_iload_n hx hb dX4_append_19 rfl (lv_at hl 1 rfl) ?_
    obtain ⟨g2, h⟩ := zg_some h
    refine z_iast X hA hP hS 27 0 (by decide) (zcC_27 _ _ _ _) rfl g2 dX4_append_20 (fun H locs hP hS => ?_)
    refine lv_aload_n hx hb dX4_append_21 rfl (lv_at hl 0 rfl) ?_
    refine lv_dup hx hb dX4_append_22 rfl ?_
    refine z_get (C := RX4) (T := TX4) (N := 9) X inX4 hP 26 (by decide) (zcC_26 _ _ _ _ _ _) rfl 1 (by decide) rfl (by decide +kernel) rfl dX4_append_23 ?_
    refine lv_iconst (v := 1) hx hb dX4_append_26 (by decide) ?_
    refine lv_iadd hx hb dX4_append_27 ?_
    refine z_put (ty := .int) (x := ((((zI s 27 (((s).1 26 1)).toNatClampNeg x1)).1 26 1) + (1 : Int32))) (C := RX4) (T := TX4) (N := 9) X inX4 tyX4 tyX4_ok nmX4 hA hP hS 26 (by decide) (zcC_26 _ _ _ _ _ _) rfl 1 (by decide) rfl (by decide +kernel) rfl (by decide +kernel) rfl rfl (Nat.le_of_ble_eq_true rfl) rfl dX4_append_28 (fun H locs hP hS => ?_)
    refine lv_iconst (v := 1) hx hb dX4_append_31 (by decide) ?_
    exact z_zret X hP hS hr hlocks (by decide) h dX4_append_32
  · have h := zif_f h c1
    refine lv_iconst (v := 0) hx hb dX4_append_9 (by decide) ?_
    exact z_zret X hP hS hr hlocks (by decide) h dX4_append_10
abbrev rmX6_feed : Room := { frames := 1, cells := 0, slots := 0, locals := 21 }
set_option maxHeartbeats 4000000 in
set_option maxRecDepth 100000 in
theorem kX6_feed {l : Launch} {D : va_G} {a : Nat → Nat} {cI cJ cC : ClassId} {adK adV : Nat → Nat} {x1 : Int32} {s τ : ZS} {r : Int32} (h : fX6_feed x1 s = some (r, τ)) : zMi (zcC a cI cJ cC) 41 a D [(cI, .int), (cJ, .long)] (zEC adK adV) l yX6_feed wsX6_feed rmX6_feed [.ref (a 0), .int x1] s r τ := by
  refine z_start (cc := cX6_feed) (maxL := 2) (ret := (some .int)) RX6 rfl (by decide) rfl (Nat.le_of_ble_eq_true rfl) ?_
  intro p e st m args below meth c ls H locs X hr hlocks hA hE hP hS hl
  obtain ⟨hx, hb, hml, hown, hts, -⟩ := id X
  have hG := zEC_good adK adV
  have inX4 : ∀ w ∈ u_ws RX4 TX4 9, w ∈ wsX6_feed := by decide +kernel
  have inX6 : ∀ w ∈ u_ws RX6 TX6 12, w ∈ wsX6_feed := by decide +kernel
  have hl : lv_has ls 2 [(0, .ref (a 0)), (1, .int x1)] := hl
  refine lv_iload_n hx hb dX6_feed_0 rfl (lv_at hl 1 rfl) ?_
  refine lv_iconst (v := 1) hx hb dX6_feed_1 (by decide) ?_
  refine lv_icmp_lt (tgt := 11) hx hb dX6_feed_2 (by decide) (fun c1 => ?_) (fun c1 => ?_)
  · have h := zif_t h c1
    refine lv_bipush (v := -2) hx hb dX6_feed_11 (by decide) ?_
    exact z_iret X hP hS hr hlocks h dX6_feed_13
  · have h := zif_f h c1
    refine lv_iload_n hx hb dX6_feed_5 rfl (lv_at hl 1 rfl) ?_
    refine lv_bipush (v := 127) hx hb dX6_feed_6 (by decide) ?_
    refine lv_icmp_le (tgt := 14) hx hb dX6_feed_8 (by decide) (fun c2 => ?_) (fun c2 => ?_)
    · have h := zif_t h c2
      refine lv_aload_n hx hb dX6_feed_14 rfl (lv_at hl 0 rfl) ?_
      refine z_get (C := RX6) (T := TX6) (N := 12) X inX6 hP 0 (by decide) (zcC_0 _ _ _ _ _ _) rfl 5 (by decide) rfl (by decide +kernel) rfl dX6_feed_15 ?_
      refine lv_iload_n hx hb dX6_feed_18 rfl (lv_at hl 1 rfl) ?_
      obtain ⟨u3, s3, e3, h⟩ := zb_some h
      refine z_calli hS (z_runV (As := [.int x1]) (rest := []) X hG hA hE hP hS 26 (kX4_append (l := l) (D := D) (a := a) (cI := cI) (cJ := cJ) (cC := cC) (adK := adK) (adV := adV) e3 _) (cwV 1 hts gX6_feed_X4_append rfl rfl rfl (by decide +kernel) ⟨Nat.le_of_ble_eq_true rfl, Nat.le_of_ble_eq_true rfl⟩) (by decide) (zcC_26 _ _ _ _ _ _) rfl rfl rfl hl.1 rfl (Nat.le_of_ble_eq_true rfl) dX6_feed_19) (fun H locs hP hS => ?_)
      refine lv_if_eq (tgt := 35) hx hb dX6_feed_22 (by decide) (fun c4 => ?_) (fun c4 => ?_)
      · have h := zif_t h c4
        refine lv_bipush (v := -4) hx hb dX6_feed_35 (by decide) ?_
        exact z_iret X hP hS hr hlocks h dX6_feed_37
      · have h := zif_f h c4
        refine lv_aload_n hx hb dX6_feed_25 rfl (lv_at hl 0 rfl) ?_
        refine z_get (C := RX6) (T := TX6) (N := 12) X inX6 hP 0 (by decide) (zcC_0 _ _ _ _ _ _) rfl 5 (by decide) rfl (by decide +kernel) rfl dX6_feed_26 ?_
        refine z_get (C := RX4) (T := TX4) (N := 9) X inX4 hP 26 (by decide) (zcC_26 _ _ _ _ _ _) rfl 1 (by decide) rfl (by decide +kernel) rfl dX6_feed_29 ?_
        refine lv_goto (tgt := 37) hx hb dX6_feed_32 (by decide) ?_
        exact z_iret X hP hS hr hlocks h dX6_feed_37
    · have h := zif_f h c2
      refine lv_bipush (v := -2) hx hb dX6_feed_11 (by decide) ?_
      exact z_iret X hP hS hr hlocks h dX6_feed_13
abbrev rmX3_addSheet : Room := { frames := 0, cells := 0, slots := 0, locals := 0 }
set_option maxHeartbeats 4000000 in
set_option maxRecDepth 100000 in
theorem kX3_addSheet {l : Launch} {D : va_G} {a : Nat → Nat} {cI cJ cC : ClassId} {adK adV : Nat → Nat} {x1 : Int32} {x2 : Int32} {x4 : Int32} {s τ : ZS} {r : Unit} (h : fX3_addSheet x1 x2 x4 s = some (r, τ)) : zMv (zcC a cI cJ cC) 41 a D [(cI, .int), (cJ, .long)] (zEC adK adV) l yX3_addSheet wsX3_addSheet rmX3_addSheet [.ref (a 1), .int x1, .int x2, .ref (a 30), .int x4] s r τ := by
  refine z_start (cc := cX3_addSheet) (maxL := 6) (ret := none) RX3 rfl (by decide) rfl (Nat.le_of_ble_eq_true rfl) ?_
  intro p e st m args below meth c ls H locs X hr hlocks hA hE hP hS hl
  obtain ⟨hx, hb, hml, hown, hts, -⟩ := id X
  have hG := zEC_good adK adV
  have inX3 : ∀ w ∈ u_ws RX3 TX3 10, w ∈ wsX3_addSheet := by decide +kernel
  have w47 : ∀  (n : Nat) (x4 : Int32) (x5 : Int32) (s : ZS) (H : Heap) (locs : List Loc) (ls : Array Slot), fX3_addSheet_47n  n (x4, x5, s) = some (r, τ) → va_P D vwCl (zW (zcC a cI cJ cC) 41 a s) H → va_S (zF 41 a st.heap.size) st.heap H locs → lv_has ls 6 [(0, .ref (a 1)), (3, .ref (a 30)), (4, .int x4), (5, .int x5)] → W p l e rmX3_addSheet st m args below meth c H locs 0 0 (MQ below (va_Qv (fun (τ' : ZS) => τ' = τ) (zPost (zcC a cI cJ cC) 41 a D [(cI, .int), (cJ, .long)]) (zF 41 a st.heap.size)) args st 0 0 (zF 41 a st.heap.size)) (F0 m 47 ls []) := by
    intro  n
    induction n with
    | zero => intro x4 x5 s H locs ls h; exact zloop_0 h
    | succ n ih =>
      intro x4 x5 s H locs ls h hP hS hl
      have h : fX3_addSheet_47b  (fun x4 x5 s => fX3_addSheet_47n  n (x4, x5, s)) x4 x5 s = some (r, τ) := h
      refine lv_iload hx hb dX3_addSheet_47 (lv_at hl 3 rfl) ?_
      refine lv_iconst (v := 5) hx hb dX3_addSheet_49 (by decide) ?_
      refine lv_icmp_ge (tgt := 80) hx hb dX3_addSheet_50 (by decide) (fun c1 => ?_) (fun c1 => ?_)
      · have h := zif_t h c1
        refine lv_aload_n hx hb dX3_addSheet_80 rfl (lv_at hl 0 rfl) ?_
        refine lv_dup hx hb dX3_addSheet_81 rfl ?_
        refine z_get (C := RX3) (T := TX3) (N := 10) X inX3 hP 1 (by decide) (zcC_1 _ _ _ _ _ _) rfl 0 (by decide) rfl (by decide +kernel) rfl dX3_addSheet_82 ?_
        refine lv_iconst (v := 1) hx hb dX3_addSheet_85 (by decide) ?_
        refine lv_iadd hx hb dX3_addSheet_86 ?_
        refine z_put (ty := .int) (x := (((s).1 1 0) + (1 : Int32))) (C := RX3) (T := TX3) (N := 10) X inX3 tyX3 tyX3_ok nmX3 hA hP hS 1 (by decide) (zcC_1 _ _ _ _ _ _) rfl 0 (by decide) rfl (by decide +kernel) rfl (by decide +kernel) rfl rfl (Nat.le_of_ble_eq_true rfl) rfl dX3_addSheet_87 (fun H locs hP hS => ?_)
        exact z_vret X hP hS hr hlocks h dX3_addSheet_90
      · have h := zif_f h c1
        refine lv_aload_n hx hb dX3_addSheet_53 rfl (lv_at hl 0 rfl) ?_
        refine z_get (C := RX3) (T := TX3) (N := 10) X inX3 hP 1 (by decide) (zcC_1 _ _ _ _ _ _) rfl 3 (by decide) rfl (by decide +kernel) rfl dX3_addSheet_54 ?_
        refine lv_aload_n hx hb dX3_addSheet_57 rfl (lv_at hl 0 rfl) ?_
        refine z_get (C := RX3) (T := TX3) (N := 10) X inX3 hP 1 (by decide) (zcC_1 _ _ _ _ _ _) rfl 0 (by decide) rfl (by decide +kernel) rfl dX3_addSheet_58 ?_
        refine lv_iconst (v := 5) hx hb dX3_addSheet_61 (by decide) ?_
        refine lv_imul hx hb dX3_addSheet_62 ?_
        refine lv_iload hx hb dX3_addSheet_63 (lv_at hl 3 rfl) ?_
        refine lv_iadd hx hb dX3_addSheet_65 ?_
        refine lv_aload_n hx hb dX3_addSheet_66 rfl (lv_at hl 1 rfl) ?_
        refine lv_iload hx hb dX3_addSheet_67 (lv_at hl 2 rfl) ?_
        refine lv_iload hx hb dX3_addSheet_69 (lv_at hl 3 rfl) ?_
        refine lv_iadd hx hb dX3_addSheet_71 ?_
        obtain ⟨g2, h⟩ := zg_some h
        refine z_iald X hP 30 0 (by decide) (zcC_30 _ _ _ _ _ _) rfl g2 dX3_addSheet_72 ?_
        obtain ⟨g3, h⟩ := zg_some h
        refine z_iast X hA hP hS 4 0 (by decide) (zcC_4 _ _ _ _) rfl g3 dX3_addSheet_73 (fun H locs hP hS => ?_)
        refine lv_iinc (v := (x5 + (1 : Int32))) (lv' := [(5, .int (x5 + (1 : Int32))), (0, .ref (a 1)), (3, .ref (a 30)), (4, .int x4)]) hx hb dX3_addSheet_74 hl (k := 3) rfl rfl (by decide) rfl (fun ls hl => ?_)
        refine lv_goto (tgt := 47) hx hb dX3_addSheet_77 (by decide) ?_
        exact ih (x4) ((x5 + (1 : Int32))) ((zI s 4 (((((s).1 1 0) * (5 : Int32)) + x5)).toNatClampNeg ((s).1 30 ((x4 + x5)).toNatClampNeg))) _ _ _ h hP hS (lv_sub hl [1, 2, 3, 0] rfl)
  have hl : lv_has ls 6 [(0, .ref (a 1)), (1, .int x1), (2, .int x2), (3, .ref (a 30)), (4, .int x4)] := hl
  refine lv_aload_n hx hb dX3_addSheet_0 rfl (lv_at hl 0 rfl) ?_
  refine z_get (C := RX3) (T := TX3) (N := 10) X inX3 hP 1 (by decide) (zcC_1 _ _ _ _ _ _) rfl 0 (by decide) rfl (by decide +kernel) rfl dX3_addSheet_1 ?_
  refine lv_bipush (v := 8) hx hb dX3_addSheet_4 (by decide) ?_
  refine lv_icmp_ge (tgt := 23) hx hb dX3_addSheet_6 (by decide) (fun c1 => ?_) (fun c1 => ?_)
  · have h := zif_t h c1
    exact z_vret X hP hS hr hlocks h dX3_addSheet_23
  · have h := zif_f h c1
    refine lv_iload hx hb dX3_addSheet_9 (lv_at hl 4 rfl) ?_
    refine lv_if_lt (tgt := 23) hx hb dX3_addSheet_11 (by decide) (fun c2 => ?_) (fun c2 => ?_)
    · have h := zif_t h c2
      exact z_vret X hP hS hr hlocks h dX3_addSheet_23
    · have h := zif_f h c2
      refine lv_iload hx hb dX3_addSheet_14 (lv_at hl 4 rfl) ?_
      refine lv_iconst (v := 5) hx hb dX3_addSheet_16 (by decide) ?_
      refine lv_iadd hx hb dX3_addSheet_17 ?_
      refine lv_aload_n hx hb dX3_addSheet_18 rfl (lv_at hl 3 rfl) ?_
      refine z_alen (v := 40) X hP 30 0 (by decide) (zcC_30 _ _ _ _ _ _) rfl rfl dX3_addSheet_19 ?_
      refine lv_icmp_le (tgt := 24) hx hb dX3_addSheet_20 (by decide) (fun c3 => ?_) (fun c3 => ?_)
      · have h := zif_t h c3
        refine lv_aload_n hx hb dX3_addSheet_24 rfl (lv_at hl 0 rfl) ?_
        refine z_get (C := RX3) (T := TX3) (N := 10) X inX3 hP 1 (by decide) (zcC_1 _ _ _ _ _ _) rfl 1 (by decide) rfl (by decide +kernel) rfl dX3_addSheet_25 ?_
        refine lv_aload_n hx hb dX3_addSheet_28 rfl (lv_at hl 0 rfl) ?_
        refine z_get (C := RX3) (T := TX3) (N := 10) X inX3 hP 1 (by decide) (zcC_1 _ _ _ _ _ _) rfl 0 (by decide) rfl (by decide +kernel) rfl dX3_addSheet_29 ?_
        refine lv_iload_n hx hb dX3_addSheet_32 rfl (lv_at hl 1 rfl) ?_
        obtain ⟨g4, h⟩ := zg_some h
        refine z_iast X hA hP hS 2 0 (by decide) (zcC_2 _ _ _ _) rfl g4 dX3_addSheet_33 (fun H locs hP hS => ?_)
        refine lv_aload_n hx hb dX3_addSheet_34 rfl (lv_at hl 0 rfl) ?_
        refine z_get (C := RX3) (T := TX3) (N := 10) X inX3 hP 1 (by decide) (zcC_1 _ _ _ _ _ _) rfl 2 (by decide) rfl (by decide +kernel) rfl dX3_addSheet_35 ?_
        refine lv_aload_n hx hb dX3_addSheet_38 rfl (lv_at hl 0 rfl) ?_
        refine z_get (C := RX3) (T := TX3) (N := 10) X inX3 hP 1 (by decide) (zcC_1 _ _ _ _ _ _) rfl 0 (by decide) rfl (by decide +kernel) rfl dX3_addSheet_39 ?_
        refine lv_iload_n hx hb dX3_addSheet_42 rfl (lv_at hl 2 rfl) ?_
        obtain ⟨g5, h⟩ := zg_some h
        refine z_iast X hA hP hS 3 0 (by decide) (zcC_3 _ _ _ _) rfl g5 dX3_addSheet_43 (fun H locs hP hS => ?_)
        refine lv_iconst (v := 0) hx hb dX3_addSheet_44 (by decide) ?_
        refine lv_istore (lv' := [(5, .int (0 : Int32)), (0, .ref (a 1)), (1, .int x1), (2, .int x2), (3, .ref (a 30)), (4, .int x4)]) hx hb dX3_addSheet_45 hl (by decide) rfl (fun ls hl => ?_)
        exact w47  zN (x4) ((0 : Int32)) ((zI (zI s 2 (((s).1 1 0)).toNatClampNeg x1) 3 ((((zI s 2 (((s).1 1 0)).toNatClampNeg x1)).1 1 0)).toNatClampNeg x2)) _ _ _ h hP hS (lv_sub hl [1, 4, 5, 0] rfl)
      · have h := zif_f h c3
        exact z_vret X hP hS hr hlocks h dX3_addSheet_23
abbrev rmX6_within : Room := { frames := 0, cells := 0, slots := 0, locals := 0 }
set_option maxHeartbeats 4000000 in
set_option maxRecDepth 100000 in
theorem kX6_within {l : Launch} {D : va_G} {a : Nat → Nat} {cI cJ cC : ClassId} {adK adV : Nat → Nat} {x0 : Int32} {x1 : Int32} {s τ : ZS} {r : Int32} (h : fX6_within x0 x1 s = some (r, τ)) : zMi (zcC a cI cJ cC) 41 a D [(cI, .int), (cJ, .long)] (zEC adK adV) l yX6_within wsX6_within rmX6_within [.int x0, .int x1] s r τ := by
  refine z_start (cc := cX6_within) (maxL := 2) (ret := (some .boolean)) RX6 rfl (by decide) rfl (Nat.le_of_ble_eq_true rfl) ?_
  intro p e st m args below meth c ls H locs X hr hlocks hA hE hP hS hl
  obtain ⟨hx, hb, hml, hown, hts, -⟩ := id X
  have hG := zEC_good adK adV
  have hl : lv_has ls 2 [(0, .int x0), (1, .int x1)] := hl
  refine lv_iload_n hx hb dX6_within_0 rfl (lv_at hl 0 rfl) ?_
  refine lv_if_lt (tgt := 13) hx hb dX6_within_1 (by decide) (fun c1 => ?_) (fun c1 => ?_)
  · have h := zif_t h c1
    refine lv_iconst (v := 0) hx hb dX6_within_13 (by decide) ?_
    exact z_zret X hP hS hr hlocks (by decide) h dX6_within_14
  · have h := zif_f h c1
    refine lv_iload_n hx hb dX6_within_4 rfl (lv_at hl 0 rfl) ?_
    refine lv_iload_n hx hb dX6_within_5 rfl (lv_at hl 1 rfl) ?_
    refine lv_icmp_ge (tgt := 13) hx hb dX6_within_6 (by decide) (fun c2 => ?_) (fun c2 => ?_)
    · have h := zif_t h c2
      refine lv_iconst (v := 0) hx hb dX6_within_13 (by decide) ?_
      exact z_zret X hP hS hr hlocks (by decide) h dX6_within_14
    · have h := zif_f h c2
      refine lv_iconst (v := 1) hx hb dX6_within_9 (by decide) ?_
      refine lv_goto (tgt := 14) hx hb dX6_within_10 (by decide) ?_
      exact z_zret X hP hS hr hlocks (by decide) h dX6_within_14
abbrev rmX4_byteAt : Room := { frames := 1, cells := 0, slots := 0, locals := 21 }
set_option maxHeartbeats 4000000 in
set_option maxRecDepth 100000 in
theorem kX4_byteAt {l : Launch} {D : va_G} {a : Nat → Nat} {cI cJ cC : ClassId} {adK adV : Nat → Nat} {x1 : Int32} {s τ : ZS} {r : Int32} (h : fX4_byteAt x1 s = some (r, τ)) : zMi (zcC a cI cJ cC) 41 a D [(cI, .int), (cJ, .long)] (zEC adK adV) l yX4_byteAt wsX4_byteAt rmX4_byteAt [.ref (a 26), .int x1] s r τ := by
  refine z_start (cc := cX4_byteAt) (maxL := 2) (ret := (some .int)) RX4 rfl (by decide) rfl (Nat.le_of_ble_eq_true rfl) ?_
  intro p e st m args below meth c ls H locs X hr hlocks hA hE hP hS hl
  obtain ⟨hx, hb, hml, hown, hts, -⟩ := id X
  have hG := zEC_good adK adV
  have inX4 : ∀ w ∈ u_ws RX4 TX4 9, w ∈ wsX4_byteAt := by decide +kernel
  have hl : lv_has ls 2 [(0, .ref (a 26)), (1, .int x1)] := hl
  refine lv_iload_n hx hb dX4_byteAt_0 rfl (lv_at hl 1 rfl) ?_
  refine lv_aload_n hx hb dX4_byteAt_1 rfl (lv_at hl 0 rfl) ?_
  refine z_get (C := RX4) (T := TX4) (N := 9) X inX4 hP 26 (by decide) (zcC_26 _ _ _ _ _ _) rfl 1 (by decide) rfl (by decide +kernel) rfl dX4_byteAt_2 ?_
  refine lv_icmp_ge (tgt := 26) hx hb dX4_byteAt_5 (by decide) (fun c1 => ?_) (fun c1 => ?_)
  · have h := zif_t h c1
    refine lv_iconst (v := -1) hx hb dX4_byteAt_26 (by decide) ?_
    exact z_iret X hP hS hr hlocks h dX4_byteAt_27
  · have h := zif_f h c1
    refine lv_iload_n hx hb dX4_byteAt_8 rfl (lv_at hl 1 rfl) ?_
    refine lv_bipush (v := 80) hx hb dX4_byteAt_9 (by decide) ?_
    obtain ⟨u2, s2, e2, h⟩ := zb_some h
    refine z_calli hS (z_runSN (As := [.int x1, .int (80 : Int32)]) (rest := []) X hG hA hE hP hS (kX6_within (l := l) (D := D) (a := a) (cI := cI) (cJ := cJ) (cC := cC) (adK := adK) (adV := adV) e2 _) (va_cnB 2 hts gX4_byteAt_X6_within_n40 rfl rfl rfl (zE_nest hE 3 rfl) (hts (.initialized RX6) (by decide +kernel)) (by decide +kernel) ⟨Nat.le_of_ble_eq_true rfl, Nat.le_of_ble_eq_true rfl⟩) (by decide +kernel) rfl hl.1 rfl (Nat.le_of_ble_eq_true rfl) dX4_byteAt_11) (fun H locs hP hS => ?_)
    refine lv_if_eq (tgt := 26) hx hb dX4_byteAt_14 (by decide) (fun c3 => ?_) (fun c3 => ?_)
    · have h := zif_t h c3
      refine lv_iconst (v := -1) hx hb dX4_byteAt_26 (by decide) ?_
      exact z_iret X hP hS hr hlocks h dX4_byteAt_27
    · have h := zif_f h c3
      refine lv_aload_n hx hb dX4_byteAt_17 rfl (lv_at hl 0 rfl) ?_
      refine z_get (C := RX4) (T := TX4) (N := 9) X inX4 hP 26 (by decide) (zcC_26 _ _ _ _ _ _) rfl 0 (by decide) rfl (by decide +kernel) rfl dX4_byteAt_18 ?_
      refine lv_iload_n hx hb dX4_byteAt_21 rfl (lv_at hl 1 rfl) ?_
      obtain ⟨g4, h⟩ := zg_some h
      refine z_iald X hP 27 0 (by decide) (zcC_27 _ _ _ _ _ _) rfl g4 dX4_byteAt_22 ?_
      refine lv_goto (tgt := 27) hx hb dX4_byteAt_23 (by decide) ?_
      exact z_iret X hP hS hr hlocks h dX4_byteAt_27
abbrev rmX4_readFigure : Room := { frames := 2, cells := 0, slots := 0, locals := 42 }
set_option maxHeartbeats 4000000 in
set_option maxRecDepth 100000 in
theorem kX4_readFigure {l : Launch} {D : va_G} {a : Nat → Nat} {cI cJ cC : ClassId} {adK adV : Nat → Nat}  {s τ : ZS} {r : Int32} (h : fX4_readFigure  s = some (r, τ)) : zMi (zcC a cI cJ cC) 41 a D [(cI, .int), (cJ, .long)] (zEC adK adV) l yX4_readFigure wsX4_readFigure rmX4_readFigure [.ref (a 26)] s r τ := by
  refine z_start (cc := cX4_readFigure) (maxL := 2) (ret := (some .int)) RX4 rfl (by decide) rfl (Nat.le_of_ble_eq_true rfl) ?_
  intro p e st m args below meth c ls H locs X hr hlocks hA hE hP hS hl
  obtain ⟨hx, hb, hml, hown, hts, -⟩ := id X
  have hG := zEC_good adK adV
  have inX4 : ∀ w ∈ u_ws RX4 TX4 9, w ∈ wsX4_readFigure := by decide +kernel
  have hl : lv_has ls 2 [(0, .ref (a 26))] := hl
  refine lv_aload_n hx hb dX4_readFigure_0 rfl (lv_at hl 0 rfl) ?_
  refine lv_aload_n hx hb dX4_readFigure_1 rfl (lv_at hl 0 rfl) ?_
  refine z_get (C := RX4) (T := TX4) (N := 9) X inX4 hP 26 (by decide) (zcC_26 _ _ _ _ _ _) rfl 8 (by decide) rfl (by decide +kernel) rfl dX4_readFigure_2 ?_
  obtain ⟨u1, s1, e1, h⟩ := zb_some h
  refine z_calli hS (z_runV (As := [.int ((s).1 26 8)]) (rest := []) X hG hA hE hP hS 26 (kX4_byteAt (l := l) (D := D) (a := a) (cI := cI) (cJ := cJ) (cC := cC) (adK := adK) (adV := adV) e1 _) (cwV 1 hts gX4_readFigure_X4_byteAt rfl rfl rfl (by decide +kernel) ⟨Nat.le_of_ble_eq_true rfl, Nat.le_of_ble_eq_true rfl⟩) (by decide) (zcC_26 _ _ _ _ _ _) rfl rfl rfl hl.1 rfl (Nat.le_of_ble_eq_true rfl) dX4_readFigure_5) (fun H locs hP hS => ?_)
  refine lv_bipush (v := 48) hx hb dX4_readFigure_8 (by decide) ?_
  refine lv_isub hx hb dX4_readFigure_10 ?_
  refine lv_istore_n (lv' := [(1, .int (u1 - (48 : Int32))), (0, .ref (a 26))]) hx hb dX4_readFigure_11 rfl hl (by decide) rfl (fun ls hl => ?_)
  refine lv_iload_n hx hb dX4_readFigure_12 rfl (lv_at hl 0 rfl) ?_
  refine lv_bipush (v := 10) hx hb dX4_readFigure_13 (by decide) ?_
  obtain ⟨u2, s2, e2, h⟩ := zb_some h
  refine z_calli hS (z_runSN (As := [.int (u1 - (48 : Int32)), .int (10 : Int32)]) (rest := []) X hG hA hE hP hS (kX6_within (l := l) (D := D) (a := a) (cI := cI) (cJ := cJ) (cC := cC) (adK := adK) (adV := adV) e2 _) (va_cnB 2 hts gX4_readFigure_X6_within_n40 rfl rfl rfl (zE_nest hE 3 rfl) (hts (.initialized RX6) (by decide +kernel)) (by decide +kernel) ⟨Nat.le_of_ble_eq_true rfl, Nat.le_of_ble_eq_true rfl⟩) (by decide +kernel) rfl hl.1 rfl (Nat.le_of_ble_eq_true rfl) dX4_readFigure_15) (fun H locs hP hS => ?_)
  refine lv_if_ne (tgt := 23) hx hb dX4_readFigure_18 (by decide) (fun c3 => ?_) (fun c3 => ?_)
  · have h := zif_f h c3
    refine lv_aload_n hx hb dX4_readFigure_23 rfl (lv_at hl 1 rfl) ?_
    refine lv_dup hx hb dX4_readFigure_24 rfl ?_
    refine z_get (C := RX4) (T := TX4) (N := 9) X inX4 hP 26 (by decide) (zcC_26 _ _ _ _ _ _) rfl 8 (by decide) rfl (by decide +kernel) rfl dX4_readFigure_25 ?_
    refine lv_iconst (v := 1) hx hb dX4_readFigure_28 (by decide) ?_
    refine lv_iadd hx hb dX4_readFigure_29 ?_
    refine z_put (ty := .int) (x := (((s2).1 26 8) + (1 : Int32))) (C := RX4) (T := TX4) (N := 9) X inX4 tyX4 tyX4_ok nmX4 hA hP hS 26 (by decide) (zcC_26 _ _ _ _ _ _) rfl 8 (by decide) rfl (by decide +kernel) rfl (by decide +kernel) rfl rfl (Nat.le_of_ble_eq_true rfl) rfl dX4_readFigure_30 (fun H locs hP hS => ?_)
    refine lv_iload_n hx hb dX4_readFigure_33 rfl (lv_at hl 0 rfl) ?_
    exact z_iret X hP hS hr hlocks h dX4_readFigure_34
  · have h := zif_t h c3
    refine lv_iconst (v := -1) hx hb dX4_readFigure_21 (by decide) ?_
    exact z_iret X hP hS hr hlocks h dX4_readFigure_22
abbrev rmX4_pass : Room := { frames := 2, cells := 0, slots := 0, locals := 42 }
set_option maxHeartbeats 4000000 in
set_option maxRecDepth 100000 in
theorem kX4_pass {l : Launch} {D : va_G} {a : Nat → Nat} {cI cJ cC : ClassId} {adK adV : Nat → Nat} {x1 : Int32} {s τ : ZS} {r : Int32} (h : fX4_pass x1 s = some (r, τ)) : zMi (zcC a cI cJ cC) 41 a D [(cI, .int), (cJ, .long)] (zEC adK adV) l yX4_pass wsX4_pass rmX4_pass [.ref (a 26), .int x1] s r τ := by
  refine z_start (cc := cX4_pass) (maxL := 2) (ret := (some .boolean)) RX4 rfl (by decide) rfl (Nat.le_of_ble_eq_true rfl) ?_
  intro p e st m args below meth c ls H locs X hr hlocks hA hE hP hS hl
  obtain ⟨hx, hb, hml, hown, hts, -⟩ := id X
  have hG := zEC_good adK adV
  have inX4 : ∀ w ∈ u_ws RX4 TX4 9, w ∈ wsX4_pass := by decide +kernel
  have hl : lv_has ls 2 [(0, .ref (a 26)), (1, .int x1)] := hl
  refine lv_aload_n hx hb dX4_pass_0 rfl (lv_at hl 0 rfl) ?_
  refine lv_aload_n hx hb dX4_pass_1 rfl (lv_at hl 0 rfl) ?_
  refine z_get (C := RX4) (T := TX4) (N := 9) X inX4 hP 26 (by decide) (zcC_26 _ _ _ _ _ _) rfl 8 (by decide) rfl (by decide +kernel) rfl dX4_pass_2 ?_
  obtain ⟨u1, s1, e1, h⟩ := zb_some h
  refine z_calli hS (z_runV (As := [.int ((s).1 26 8)]) (rest := []) X hG hA hE hP hS 26 (kX4_byteAt (l := l) (D := D) (a := a) (cI := cI) (cJ := cJ) (cC := cC) (adK := adK) (adV := adV) e1 _) (cwV 1 hts gX4_pass_X4_byteAt rfl rfl rfl (by decide +kernel) ⟨Nat.le_of_ble_eq_true rfl, Nat.le_of_ble_eq_true rfl⟩) (by decide) (zcC_26 _ _ _ _ _ _) rfl rfl rfl hl.1 rfl (Nat.le_of_ble_eq_true rfl) dX4_pass_5) (fun H locs hP hS => ?_)
  refine lv_iload_n hx hb dX4_pass_8 rfl (lv_at hl 1 rfl) ?_
  refine lv_icmp_eq (tgt := 14) hx hb dX4_pass_9 (by decide) (fun c2 => ?_) (fun c2 => ?_)
  · have h := zif_t h c2
    refine lv_aload_n hx hb dX4_pass_14 rfl (lv_at hl 0 rfl) ?_
    refine lv_dup hx hb dX4_pass_15 rfl ?_
    refine z_get (C := RX4) (T := TX4) (N := 9) X inX4 hP 26 (by decide) (zcC_26 _ _ _ _ _ _) rfl 8 (by decide) rfl (by decide +kernel) rfl dX4_pass_16 ?_
    refine lv_iconst (v := 1) hx hb dX4_pass_19 (by decide) ?_
    refine lv_iadd hx hb dX4_pass_20 ?_
    refine z_put (ty := .int) (x := (((s1).1 26 8) + (1 : Int32))) (C := RX4) (T := TX4) (N := 9) X inX4 tyX4 tyX4_ok nmX4 hA hP hS 26 (by decide) (zcC_26 _ _ _ _ _ _) rfl 8 (by decide) rfl (by decide +kernel) rfl (by decide +kernel) rfl rfl (Nat.le_of_ble_eq_true rfl) rfl dX4_pass_21 (fun H locs hP hS => ?_)
    refine lv_iconst (v := 1) hx hb dX4_pass_24 (by decide) ?_
    exact z_zret X hP hS hr hlocks (by decide) h dX4_pass_25
  · have h := zif_f h c2
    refine lv_iconst (v := 0) hx hb dX4_pass_12 (by decide) ?_
    exact z_zret X hP hS hr hlocks (by decide) h dX4_pass_13
abbrev rmX4_readNumber : Room := { frames := 3, cells := 0, slots := 0, locals := 63 }
set_option maxHeartbeats 4000000 in
set_option maxRecDepth 100000 in
theorem kX4_readNumber {l : Launch} {D : va_G} {a : Nat → Nat} {cI cJ cC : ClassId} {adK adV : Nat → Nat}  {s τ : ZS} {r : Int32} (h : fX4_readNumber  s = some (r, τ)) : zMi (zcC a cI cJ cC) 41 a D [(cI, .int), (cJ, .long)] (zEC adK adV) l yX4_readNumber wsX4_readNumber rmX4_readNumber [.ref (a 26)] s r τ := by
  refine z_start (cc := cX4_readNumber) (maxL := 2) (ret := (some .int)) RX4 rfl (by decide) rfl (Nat.le_of_ble_eq_true rfl) ?_
  intro p e st m args below meth c ls H locs X hr hlocks hA hE hP hS hl
  obtain ⟨hx, hb, hml, hown, hts, -⟩ := id X
  have hG := zEC_good adK adV
  have hl : lv_has ls 2 [(0, .ref (a 26))] := hl
  refine lv_aload_n hx hb dX4_readNumber_0 rfl (lv_at hl 0 rfl) ?_
  obtain ⟨u1, s1, e1, h⟩ := zb_some h
  refine z_calli hS (z_runV (As := []) (rest := []) X hG hA hE hP hS 26 (kX4_readFigure (l := l) (D := D) (a := a) (cI := cI) (cJ := cJ) (cC := cC) (adK := adK) (adV := adV) e1 _) (cwV 0 hts gX4_readNumber_X4_readFigure rfl rfl rfl (by decide +kernel) ⟨Nat.le_of_ble_eq_true rfl, Nat.le_of_ble_eq_true rfl⟩) (by decide) (zcC_26 _ _ _ _ _ _) rfl rfl rfl hl.1 rfl (Nat.le_of_ble_eq_true rfl) dX4_readNumber_1) (fun H locs hP hS => ?_)
  refine lv_istore_n (lv' := [(1, .int u1), (0, .ref (a 26))]) hx hb dX4_readNumber_4 rfl hl (by decide) rfl (fun ls hl => ?_)
  refine lv_iload_n hx hb dX4_readNumber_5 rfl (lv_at hl 0 rfl) ?_
  refine lv_iconst (v := 1) hx hb dX4_readNumber_6 (by decide) ?_
  refine lv_icmp_ne (tgt := 24) hx hb dX4_readNumber_7 (by decide) (fun c2 => ?_) (fun c2 => ?_)
  · have h := zif_f h c2
    refine lv_iload_n hx hb dX4_readNumber_24 rfl (lv_at hl 0 rfl) ?_
    exact z_iret X hP hS hr hlocks h dX4_readNumber_25
  · have h := zif_t h c2
    refine lv_aload_n hx hb dX4_readNumber_10 rfl (lv_at hl 1 rfl) ?_
    refine lv_bipush (v := 48) hx hb dX4_readNumber_11 (by decide) ?_
    obtain ⟨u3, s3, e3, h⟩ := zb_some h
    refine z_calli hS (z_runV (As := [.int (48 : Int32)]) (rest := []) X hG hA hE hP hS 26 (kX4_pass (l := l) (D := D) (a := a) (cI := cI) (cJ := cJ) (cC := cC) (adK := adK) (adV := adV) e3 _) (cwV 1 hts gX4_readNumber_X4_pass rfl rfl rfl (by decide +kernel) ⟨Nat.le_of_ble_eq_true rfl, Nat.le_of_ble_eq_true rfl⟩) (by decide) (zcC_26 _ _ _ _ _ _) rfl rfl rfl hl.1 rfl (Nat.le_of_ble_eq_true rfl) dX4_readNumber_13) (fun H locs hP hS => ?_)
    refine lv_if_eq (tgt := 24) hx hb dX4_readNumber_16 (by decide) (fun c4 => ?_) (fun c4 => ?_)
    · have h := zif_t h c4
      refine lv_iload_n hx hb dX4_readNumber_24 rfl (lv_at hl 0 rfl) ?_
      exact z_iret X hP hS hr hlocks h dX4_readNumber_25
    · have h := zif_f h c4
      refine lv_bipush (v := 10) hx hb dX4_readNumber_19 (by decide) ?_
      refine lv_goto (tgt := 25) hx hb dX4_readNumber_21 (by decide) ?_
      exact z_iret X hP hS hr hlocks h dX4_readNumber_25
abbrev rmX6_wordOf : Room := { frames := 0, cells := 0, slots := 0, locals := 0 }
set_option maxHeartbeats 4000000 in
set_option maxRecDepth 100000 in
theorem kX6_wordOf {l : Launch} {D : va_G} {a : Nat → Nat} {cI cJ cC : ClassId} {adK adV : Nat → Nat} {x0 : Int32} {s τ : ZS} {r : Nat} (h : fX6_wordOf x0 s = some (r, τ)) : zMr (zcC a cI cJ cC) 41 a D [(cI, .int), (cJ, .long)] (zEC adK adV) l yX6_wordOf wsX6_wordOf rmX6_wordOf [.int x0] s (adK r) τ := by
  refine z_start (cc := cX6_wordOf) (maxL := 1) (ret := (some (.object "java/lang/String"))) RX6 rfl (by decide) rfl (Nat.le_of_ble_eq_true rfl) ?_
  intro p e st m args below meth c ls H locs X hr hlocks hA hE hP hS hl
  obtain ⟨hx, hb, hml, hown, hts, -⟩ := id X
  have hG := zEC_good adK adV
  have hl : lv_has ls 1 [(0, .int x0)] := hl
  refine lv_iload_n hx hb dX6_wordOf_0 rfl (lv_at hl 0 rfl) ?_
  by_cases c1 : x0 = (0 : Int32)
  · have h := zif_t h c1
    refine lv_tableIn (tgt := 40) hx hb dX6_wordOf_1 (by rw [c1]; decide) (by rw [c1]; decide) (by rw [c1]; rfl) (by decide) ?_
    refine z_ldcw hx hb hown (hE.2.2.1 0 (by decide)) dX6_wordOf_40 ?_
    exact z_aret X hP hS hr hlocks h dX6_wordOf_43
  have h := zif_f h c1
  by_cases c2 : x0 = (1 : Int32)
  · have h := zif_t h c2
    refine lv_tableIn (tgt := 44) hx hb dX6_wordOf_1 (by rw [c2]; decide) (by rw [c2]; decide) (by rw [c2]; rfl) (by decide) ?_
    refine z_ldcw hx hb hown (hE.2.2.1 1 (by decide)) dX6_wordOf_44 ?_
    exact z_aret X hP hS hr hlocks h dX6_wordOf_47
  have h := zif_f h c2
  by_cases c3 : x0 = (2 : Int32)
  · have h := zif_t h c3
    refine lv_tableIn (tgt := 48) hx hb dX6_wordOf_1 (by rw [c3]; decide) (by rw [c3]; decide) (by rw [c3]; rfl) (by decide) ?_
    refine z_ldcw hx hb hown (hE.2.2.1 2 (by decide)) dX6_wordOf_48 ?_
    exact z_aret X hP hS hr hlocks h dX6_wordOf_51
  have h := zif_f h c3
  by_cases c4 : x0 = (3 : Int32)
  · have h := zif_t h c4
    refine lv_tableIn (tgt := 52) hx hb dX6_wordOf_1 (by rw [c4]; decide) (by rw [c4]; decide) (by rw [c4]; rfl) (by decide) ?_
    refine z_ldcw hx hb hown (hE.2.2.1 3 (by decide)) dX6_wordOf_52 ?_
    exact z_aret X hP hS hr hlocks h dX6_wordOf_55
  have h := zif_f h c4
  by_cases c5 : x0 = (4 : Int32)
  · have h := zif_t h c5
    refine lv_tableIn (tgt := 56) hx hb dX6_wordOf_1 (by rw [c5]; decide) (by rw [c5]; decide) (by rw [c5]; rfl) (by decide) ?_
    refine z_ldcw hx hb hown (hE.2.2.1 4 (by decide)) dX6_wordOf_56 ?_
    exact z_aret X hP hS hr hlocks h dX6_wordOf_59
  have h := zif_f h c5
  by_cases c6 : x0 = (5 : Int32)
  · have h := zif_t h c6
    refine lv_tableIn (tgt := 60) hx hb dX6_wordOf_1 (by rw [c6]; decide) (by rw [c6]; decide) (by rw [c6]; rfl) (by decide) ?_
    refine z_ldcw hx hb hown (hE.2.2.1 5 (by decide)) dX6_wordOf_60 ?_
    exact z_aret X hP hS hr hlocks h dX6_wordOf_63
  have h := zif_f h c6
  refine lv_tableOut (tgt := 64) hx hb dX6_wordOf_1 (by have := lv_neT (a := 0) c1 rfl; have := lv_neT (a := 1) c2 rfl; have := lv_neT (a := 2) c3 rfl; have := lv_neT (a := 3) c4 rfl; have := lv_neT (a := 4) c5 rfl; have := lv_neT (a := 5) c6 rfl; omega) (by decide) ?_
  refine z_ldcw hx hb hown (hE.2.2.1 6 (by decide)) dX6_wordOf_64 ?_
  exact z_aret X hP hS hr hlocks h dX6_wordOf_67
abbrev rmX4_spells : Room := { frames := 4, cells := 0, slots := 0, locals := 85 }
set_option maxHeartbeats 4000000 in
set_option maxRecDepth 100000 in
theorem kX4_spells {l : Launch} {D : va_G} {a : Nat → Nat} {cI cJ cC : ClassId} {adK adV : Nat → Nat} {x1 : Nat} {x2 : Int32} {s τ : ZS} {r : Int32} (h : fX4_spells x1 x2 s = some (r, τ)) : zMi (zcC a cI cJ cC) 41 a D [(cI, .int), (cJ, .long)] (zEC adK adV) l yX4_spells wsX4_spells rmX4_spells [.ref (a 26), .ref (adK x1), .int x2] s r τ := by
  refine z_start (cc := cX4_spells) (maxL := 4) (ret := (some .boolean)) RX4 rfl (by decide) rfl (Nat.le_of_ble_eq_true rfl) ?_
  intro p e st m args below meth c ls H locs X hr hlocks hA hE hP hS hl
  obtain ⟨hx, hb, hml, hown, hts, -⟩ := id X
  have hG := zEC_good adK adV
  have inX4 : ∀ w ∈ u_ws RX4 TX4 9, w ∈ wsX4_spells := by decide +kernel
  have w17 : ∀  (n : Nat) (x1 : Nat) (x3 : Int32) (s : ZS) (H : Heap) (locs : List Loc) (ls : Array Slot), fX4_spells_17n  n (x1, x3, s) = some (r, τ) → va_P D vwCl (zW (zcC a cI cJ cC) 41 a s) H → va_S (zF 41 a st.heap.size) st.heap H locs → lv_has ls 4 [(0, .ref (a 26)), (1, .ref (adK x1)), (3, .int x3)] → W p l e rmX4_spells st m args below meth c H locs 0 0 (MQ below (va_Qi (fun (r' : Int32) (τ' : ZS) => r' = r ∧ τ' = τ) (zPost (zcC a cI cJ cC) 41 a D [(cI, .int), (cJ, .long)]) (zF 41 a st.heap.size)) args st 0 0 (zF 41 a st.heap.size)) (F0 m 17 ls []) := by
    intro  n
    induction n with
    | zero => intro x1 x3 s H locs ls h; exact zloop_0 h
    | succ n ih =>
      intro x1 x3 s H locs ls h hP hS hl
      have h : fX4_spells_17b  (fun x1 x3 s => fX4_spells_17n  n (x1, x3, s)) x1 x3 s = some (r, τ) := h
      refine lv_iload_n hx hb dX4_spells_17 rfl (lv_at hl 2 rfl) ?_
      refine lv_aload_n hx hb dX4_spells_18 rfl (lv_at hl 1 rfl) ?_
      obtain ⟨u1, s1, e1, h⟩ := zb_some h
      refine z_calli hS (z_runVr (As := []) (rest := [.int x3]) X hG hA hE hP hS (cJlen (l := l) (D := D) (a := a) (cI := cI) (cJ := cJ) (cC := cC) (adK := adK) (adV := adV) e1 _) (cwV 0 hts gX4_spells_J0_length_8abf5 rfl rfl rfl (by decide +kernel) ⟨Nat.le_of_ble_eq_true rfl, Nat.le_of_ble_eq_true rfl⟩) (vk_recv hE.2.1 (fJlen_w e1) hS) rfl hl.1 rfl (Nat.le_of_ble_eq_true rfl) dX4_spells_19) (fun H locs hP hS => ?_)
      refine lv_icmp_ge (tgt := 51) hx hb dX4_spells_22 (by decide) (fun c2 => ?_) (fun c2 => ?_)
      · have h := zif_t h c2
        refine lv_iconst (v := 1) hx hb dX4_spells_51 (by decide) ?_
        exact z_zret X hP hS hr hlocks (by decide) h dX4_spells_52
      · have h := zif_f h c2
        refine lv_aload_n hx hb dX4_spells_25 rfl (lv_at hl 0 rfl) ?_
        refine lv_aload_n hx hb dX4_spells_26 rfl (lv_at hl 0 rfl) ?_
        refine z_get (C := RX4) (T := TX4) (N := 9) X inX4 hP 26 (by decide) (zcC_26 _ _ _ _ _ _) rfl 8 (by decide) rfl (by decide +kernel) rfl dX4_spells_27 ?_
        refine lv_iload_n hx hb dX4_spells_30 rfl (lv_at hl 2 rfl) ?_
        refine lv_iadd hx hb dX4_spells_31 ?_
        obtain ⟨u3, s3, e3, h⟩ := zb_some h
        refine z_calli hS (z_runV (As := [.int (((s1).1 26 8) + x3)]) (rest := []) X hG hA hE hP hS 26 (kX4_byteAt (l := l) (D := D) (a := a) (cI := cI) (cJ := cJ) (cC := cC) (adK := adK) (adV := adV) e3 _) (cwV 1 hts gX4_spells_X4_byteAt rfl rfl rfl (by decide +kernel) ⟨Nat.le_of_ble_eq_true rfl, Nat.le_of_ble_eq_true rfl⟩) (by decide) (zcC_26 _ _ _ _ _ _) rfl rfl rfl hl.1 rfl (Nat.le_of_ble_eq_true rfl) dX4_spells_32) (fun H locs hP hS => ?_)
        refine lv_aload_n hx hb dX4_spells_35 rfl (lv_at hl 1 rfl) ?_
        refine lv_iload_n hx hb dX4_spells_36 rfl (lv_at hl 2 rfl) ?_
        obtain ⟨u4, s4, e4, h⟩ := zb_some h
        refine z_calli hS (z_runVr (As := [.int x3]) (rest := [.int u3]) X hG hA hE hP hS (cJcat (l := l) (D := D) (a := a) (cI := cI) (cJ := cJ) (cC := cC) (adK := adK) (adV := adV) e4 _) (cwV 1 hts gX4_spells_J0_charAt_5068e rfl rfl rfl (by decide +kernel) ⟨Nat.le_of_ble_eq_true rfl, Nat.le_of_ble_eq_true rfl⟩) (vk_recv hE.2.1 (fJcat_w e4) hS) rfl hl.1 rfl (Nat.le_of_ble_eq_true rfl) dX4_spells_37) (fun H locs hP hS => ?_)
        refine lv_icmp_eq (tgt := 45) hx hb dX4_spells_40 (by decide) (fun c5 => ?_) (fun c5 => ?_)
        · have h := zif_t h c5
          refine lv_iinc (v := (x3 + (1 : Int32))) (lv' := [(3, .int (x3 + (1 : Int32))), (0, .ref (a 26)), (1, .ref (adK x1))]) hx hb dX4_spells_45 hl (k := 2) rfl rfl (by decide) rfl (fun ls hl => ?_)
          refine lv_goto (tgt := 17) hx hb dX4_spells_48 (by decide) ?_
          exact ih (x1) ((x3 + (1 : Int32))) (s4) _ _ _ h hP hS (lv_sub hl [1, 2, 0] rfl)
        · have h := zif_f h c5
          refine lv_iconst (v := 0) hx hb dX4_spells_43 (by decide) ?_
          exact z_zret X hP hS hr hlocks (by decide) h dX4_spells_44
  have hl : lv_has ls 4 [(0, .ref (a 26)), (1, .ref (adK x1)), (2, .int x2)] := hl
  refine lv_aload_n hx hb dX4_spells_0 rfl (lv_at hl 1 rfl) ?_
  obtain ⟨u1, s1, e1, h⟩ := zb_some h
  refine z_calli hS (z_runVr (As := []) (rest := []) X hG hA hE hP hS (cJlen (l := l) (D := D) (a := a) (cI := cI) (cJ := cJ) (cC := cC) (adK := adK) (adV := adV) e1 _) (cwV 0 hts gX4_spells_J0_length_8abf5 rfl rfl rfl (by decide +kernel) ⟨Nat.le_of_ble_eq_true rfl, Nat.le_of_ble_eq_true rfl⟩) (vk_recv hE.2.1 (fJlen_w e1) hS) rfl hl.1 rfl (Nat.le_of_ble_eq_true rfl) dX4_spells_1) (fun H locs hP hS => ?_)
  refine lv_iload_n hx hb dX4_spells_4 rfl (lv_at hl 2 rfl) ?_
  refine lv_aload_n hx hb dX4_spells_5 rfl (lv_at hl 0 rfl) ?_
  refine z_get (C := RX4) (T := TX4) (N := 9) X inX4 hP 26 (by decide) (zcC_26 _ _ _ _ _ _) rfl 8 (by decide) rfl (by decide +kernel) rfl dX4_spells_6 ?_
  refine lv_isub hx hb dX4_spells_9 ?_
  refine lv_icmp_eq (tgt := 15) hx hb dX4_spells_10 (by decide) (fun c2 => ?_) (fun c2 => ?_)
  · have h := zif_t h c2
    refine lv_iconst (v := 0) hx hb dX4_spells_15 (by decide) ?_
    refine lv_istore_n (lv' := [(3, .int (0 : Int32)), (0, .ref (a 26)), (1, .ref (adK x1)), (2, .int x2)]) hx hb dX4_spells_16 rfl hl (by decide) rfl (fun ls hl => ?_)
    exact w17  zN (x1) ((0 : Int32)) (s1) _ _ _ h hP hS (lv_sub hl [1, 2, 0] rfl)
  · have h := zif_f h c2
    refine lv_iconst (v := 0) hx hb dX4_spells_13 (by decide) ?_
    exact z_zret X hP hS hr hlocks (by decide) h dX4_spells_14
abbrev rmX4_readWord : Room := { frames := 5, cells := 0, slots := 0, locals := 108 }
set_option maxHeartbeats 4000000 in
set_option maxRecDepth 100000 in
theorem kX4_readWord {l : Launch} {D : va_G} {a : Nat → Nat} {cI cJ cC : ClassId} {adK adV : Nat → Nat}  {s τ : ZS} {r : Int32} (h : fX4_readWord  s = some (r, τ)) : zMi (zcC a cI cJ cC) 41 a D [(cI, .int), (cJ, .long)] (zEC adK adV) l yX4_readWord wsX4_readWord rmX4_readWord [.ref (a 26)] s r τ := by
  refine z_start (cc := cX4_readWord) (maxL := 3) (ret := (some .int)) RX4 rfl (by decide) rfl (Nat.le_of_ble_eq_true rfl) ?_
  intro p e st m args below meth c ls H locs X hr hlocks hA hE hP hS hl
  obtain ⟨hx, hb, hml, hown, hts, -⟩ := id X
  have hG := zEC_good adK adV
  have inX4 : ∀ w ∈ u_ws RX4 TX4 9, w ∈ wsX4_readWord := by decide +kernel
  have w37 : ∀  (n : Nat) (x1 : Int32) (x2 : Int32) (s : ZS) (H : Heap) (locs : List Loc) (ls : Array Slot), fX4_readWord_37n  n (x1, x2, s) = some (r, τ) → va_P D vwCl (zW (zcC a cI cJ cC) 41 a s) H → va_S (zF 41 a st.heap.size) st.heap H locs → lv_has ls 3 [(0, .ref (a 26)), (1, .int x1), (2, .int x2)] → W p l e rmX4_readWord st m args below meth c H locs 0 0 (MQ below (va_Qi (fun (r' : Int32) (τ' : ZS) => r' = r ∧ τ' = τ) (zPost (zcC a cI cJ cC) 41 a D [(cI, .int), (cJ, .long)]) (zF 41 a st.heap.size)) args st 0 0 (zF 41 a st.heap.size)) (F0 m 37 ls []) := by
    intro  n
    induction n with
    | zero => intro x1 x2 s H locs ls h; exact zloop_0 h
    | succ n ih =>
      intro x1 x2 s H locs ls h hP hS hl
      have h : fX4_readWord_37b  (fun x1 x2 s => fX4_readWord_37n  n (x1, x2, s)) x1 x2 s = some (r, τ) := h
      refine lv_iload_n hx hb dX4_readWord_37 rfl (lv_at hl 2 rfl) ?_
      refine lv_bipush (v := 6) hx hb dX4_readWord_38 (by decide) ?_
      refine lv_icmp_ge (tgt := 68) hx hb dX4_readWord_40 (by decide) (fun c1 => ?_) (fun c1 => ?_)
      · have h := zif_t h c1
        refine lv_iconst (v := -1) hx hb dX4_readWord_68 (by decide) ?_
        exact z_iret X hP hS hr hlocks h dX4_readWord_69
      · have h := zif_f h c1
        refine lv_aload_n hx hb dX4_readWord_43 rfl (lv_at hl 0 rfl) ?_
        refine lv_iload_n hx hb dX4_readWord_44 rfl (lv_at hl 2 rfl) ?_
        obtain ⟨u2, s2, e2, h⟩ := zb_some h
        refine z_callr hS (z_runSN (As := [.int x2]) (rest := [.ref (a 26)]) X hG hA hE hP hS (kX6_wordOf (l := l) (D := D) (a := a) (cI := cI) (cJ := cJ) (cC := cC) (adK := adK) (adV := adV) e2 _) (va_cnB 1 hts gX4_readWord_X6_wordOf_n66 rfl rfl rfl (zE_nest hE 8 rfl) (hts (.initialized RX6) (by decide +kernel)) (by decide +kernel) ⟨Nat.le_of_ble_eq_true rfl, Nat.le_of_ble_eq_true rfl⟩) (by decide +kernel) rfl hl.1 rfl (Nat.le_of_ble_eq_true rfl) dX4_readWord_45) (fun H locs hP hS => ?_)
        refine lv_iload_n hx hb dX4_readWord_48 rfl (lv_at hl 1 rfl) ?_
        obtain ⟨u3, s3, e3, h⟩ := zb_some h
        refine z_calli hS (z_runV (As := [.ref (adK u2), .int x1]) (rest := []) X hG hA hE hP hS 26 (kX4_spells (l := l) (D := D) (a := a) (cI := cI) (cJ := cJ) (cC := cC) (adK := adK) (adV := adV) e3 _) (cwV 2 hts gX4_readWord_X4_spells rfl rfl rfl (by decide +kernel) ⟨Nat.le_of_ble_eq_true rfl, Nat.le_of_ble_eq_true rfl⟩) (by decide) (zcC_26 _ _ _ _ _ _) rfl rfl rfl hl.1 rfl (Nat.le_of_ble_eq_true rfl) dX4_readWord_49) (fun H locs hP hS => ?_)
        refine lv_if_eq (tgt := 62) hx hb dX4_readWord_52 (by decide) (fun c4 => ?_) (fun c4 => ?_)
        · have h := zif_t h c4
          refine lv_iinc (v := (x2 + (1 : Int32))) (lv' := [(2, .int (x2 + (1 : Int32))), (0, .ref (a 26)), (1, .int x1)]) hx hb dX4_readWord_62 hl (k := 2) rfl rfl (by decide) rfl (fun ls hl => ?_)
          refine lv_goto (tgt := 37) hx hb dX4_readWord_65 (by decide) ?_
          exact ih (x1) ((x2 + (1 : Int32))) (s3) _ _ _ h hP hS (lv_sub hl [1, 2, 0] rfl)
        · have h := zif_f h c4
          refine lv_aload_n hx hb dX4_readWord_55 rfl (lv_at hl 0 rfl) ?_
          refine lv_iload_n hx hb dX4_readWord_56 rfl (lv_at hl 1 rfl) ?_
          refine z_put (ty := .int) (x := x1) (C := RX4) (T := TX4) (N := 9) X inX4 tyX4 tyX4_ok nmX4 hA hP hS 26 (by decide) (zcC_26 _ _ _ _ _ _) rfl 8 (by decide) rfl (by decide +kernel) rfl (by decide +kernel) rfl rfl (Nat.le_of_ble_eq_true rfl) rfl dX4_readWord_57 (fun H locs hP hS => ?_)
          refine lv_iload_n hx hb dX4_readWord_60 rfl (lv_at hl 2 rfl) ?_
          exact z_iret X hP hS hr hlocks h dX4_readWord_61
  have w35 : ∀  (x1 : Int32) (s : ZS) (H : Heap) (locs : List Loc) (ls : Array Slot), fX4_readWord_35  x1 s = some (r, τ) → va_P D vwCl (zW (zcC a cI cJ cC) 41 a s) H → va_S (zF 41 a st.heap.size) st.heap H locs → lv_has ls 3 [(0, .ref (a 26)), (1, .int x1)] → W p l e rmX4_readWord st m args below meth c H locs 0 0 (MQ below (va_Qi (fun (r' : Int32) (τ' : ZS) => r' = r ∧ τ' = τ) (zPost (zcC a cI cJ cC) 41 a D [(cI, .int), (cJ, .long)]) (zF 41 a st.heap.size)) args st 0 0 (zF 41 a st.heap.size)) (F0 m 35 ls []) := by
    intro  x1 s H locs ls h hP hS hl
    refine lv_iconst (v := 0) hx hb dX4_readWord_35 (by decide) ?_
    refine lv_istore_n (lv' := [(2, .int (0 : Int32)), (0, .ref (a 26)), (1, .int x1)]) hx hb dX4_readWord_36 rfl hl (by decide) rfl (fun ls hl => ?_)
    exact w37  zN (x1) ((0 : Int32)) (s) _ _ _ h hP hS (lv_sub hl [1, 2, 0] rfl)
  have w5 : ∀  (n : Nat) (x1 : Int32) (s : ZS) (H : Heap) (locs : List Loc) (ls : Array Slot), fX4_readWord_5n  n (x1, s) = some (r, τ) → va_P D vwCl (zW (zcC a cI cJ cC) 41 a s) H → va_S (zF 41 a st.heap.size) st.heap H locs → lv_has ls 3 [(0, .ref (a 26)), (1, .int x1)] → W p l e rmX4_readWord st m args below meth c H locs 0 0 (MQ below (va_Qi (fun (r' : Int32) (τ' : ZS) => r' = r ∧ τ' = τ) (zPost (zcC a cI cJ cC) 41 a D [(cI, .int), (cJ, .long)]) (zF 41 a st.heap.size)) args st 0 0 (zF 41 a st.heap.size)) (F0 m 5 ls []) := by
    intro  n
    induction n with
    | zero => intro x1 s H locs ls h; exact zloop_0 h
    | succ n ih =>
      intro x1 s H locs ls h hP hS hl
      have h : fX4_readWord_5b  (fun x1 s => fX4_readWord_5n  n (x1, s)) x1 s = some (r, τ) := h
      refine lv_iload_n hx hb dX4_readWord_5 rfl (lv_at hl 1 rfl) ?_
      refine lv_aload_n hx hb dX4_readWord_6 rfl (lv_at hl 0 rfl) ?_
      refine z_get (C := RX4) (T := TX4) (N := 9) X inX4 hP 26 (by decide) (zcC_26 _ _ _ _ _ _) rfl 1 (by decide) rfl (by decide +kernel) rfl dX4_readWord_7 ?_
      refine lv_icmp_ge (tgt := 35) hx hb dX4_readWord_10 (by decide) (fun c1 => ?_) (fun c1 => ?_)
      · have h := zif_t h c1
        exact w35   (x1) (s) _ _ _ h hP hS (lv_sub hl [0, 1] rfl)
      · have h := zif_f h c1
        refine lv_aload_n hx hb dX4_readWord_13 rfl (lv_at hl 0 rfl) ?_
        refine lv_iload_n hx hb dX4_readWord_14 rfl (lv_at hl 1 rfl) ?_
        obtain ⟨u2, s2, e2, h⟩ := zb_some h
        refine z_calli hS (z_runV (As := [.int x1]) (rest := []) X hG hA hE hP hS 26 (kX4_byteAt (l := l) (D := D) (a := a) (cI := cI) (cJ := cJ) (cC := cC) (adK := adK) (adV := adV) e2 _) (cwV 1 hts gX4_readWord_X4_byteAt rfl rfl rfl (by decide +kernel) ⟨Nat.le_of_ble_eq_true rfl, Nat.le_of_ble_eq_true rfl⟩) (by decide) (zcC_26 _ _ _ _ _ _) rfl rfl rfl hl.1 rfl (Nat.le_of_ble_eq_true rfl) dX4_readWord_15) (fun H locs hP hS => ?_)
        refine lv_bipush (v := 97) hx hb dX4_readWord_18 (by decide) ?_
        refine lv_isub hx hb dX4_readWord_20 ?_
        refine lv_bipush (v := 26) hx hb dX4_readWord_21 (by decide) ?_
        obtain ⟨u3, s3, e3, h⟩ := zb_some h
        refine z_calli hS (z_runSN (As := [.int (u2 - (97 : Int32)), .int (26 : Int32)]) (rest := []) X hG hA hE hP hS (kX6_within (l := l) (D := D) (a := a) (cI := cI) (cJ := cJ) (cC := cC) (adK := adK) (adV := adV) e3 _) (va_cnB 2 hts gX4_readWord_X6_within_n40 rfl rfl rfl (zE_nest hE 3 rfl) (hts (.initialized RX6) (by decide +kernel)) (by decide +kernel) ⟨Nat.le_of_ble_eq_true rfl, Nat.le_of_ble_eq_true rfl⟩) (by decide +kernel) rfl hl.1 rfl (Nat.le_of_ble_eq_true rfl) dX4_readWord_23) (fun H locs hP hS => ?_)
        refine lv_if_eq (tgt := 35) hx hb dX4_readWord_26 (by decide) (fun c4 => ?_) (fun c4 => ?_)
        · have h := zif_t h c4
          exact w35   (x1) (s3) _ _ _ h hP hS (lv_sub hl [0, 1] rfl)
        · have h := zif_f h c4
          refine lv_iinc (v := (x1 + (1 : Int32))) (lv' := [(1, .int (x1 + (1 : Int32))), (0, .ref (a 26))]) hx hb dX4_readWord_29 hl (k := 1) rfl rfl (by decide) rfl (fun ls hl => ?_)
          refine lv_goto (tgt := 5) hx hb dX4_readWord_32 (by decide) ?_
          exact ih ((x1 + (1 : Int32))) (s3) _ _ _ h hP hS (lv_sub hl [1, 0] rfl)
  have hl : lv_has ls 3 [(0, .ref (a 26))] := hl
  refine lv_aload_n hx hb dX4_readWord_0 rfl (lv_at hl 0 rfl) ?_
  refine z_get (C := RX4) (T := TX4) (N := 9) X inX4 hP 26 (by decide) (zcC_26 _ _ _ _ _ _) rfl 8 (by decide) rfl (by decide +kernel) rfl dX4_readWord_1 ?_
  refine lv_istore_n (lv' := [(1, .int ((s).1 26 8)), (0, .ref (a 26))]) hx hb dX4_readWord_4 rfl hl (by decide) rfl (fun ls hl => ?_)
  exact w5  zN (((s).1 26 8)) (s) _ _ _ h hP hS (lv_sub hl [1, 0] rfl)
abbrev rmX4_readClause : Room := { frames := 6, cells := 0, slots := 0, locals := 130 }
set_option maxHeartbeats 4000000 in
set_option maxRecDepth 100000 in
theorem kX4_readClause {l : Launch} {D : va_G} {a : Nat → Nat} {cI cJ cC : ClassId} {adK adV : Nat → Nat}  {s τ : ZS} {r : Int32} (h : fX4_readClause  s = some (r, τ)) : zMi (zcC a cI cJ cC) 41 a D [(cI, .int), (cJ, .long)] (zEC adK adV) l yX4_readClause wsX4_readClause rmX4_readClause [.ref (a 26)] s r τ := by
  refine z_start (cc := cX4_readClause) (maxL := 5) (ret := (some .boolean)) RX4 rfl (by decide) rfl (Nat.le_of_ble_eq_true rfl) ?_
  intro p e st m args below meth c ls H locs X hr hlocks hA hE hP hS hl
  obtain ⟨hx, hb, hml, hown, hts, -⟩ := id X
  have hG := zEC_good adK adV
  have inX4 : ∀ w ∈ u_ws RX4 TX4 9, w ∈ wsX4_readClause := by decide +kernel
  have w73 : ∀ (k53 : Int32 → Int32 → Int32 → ZS → Option (Int32 × ZS)) (hk53 : ∀ (x1 : Int32) (x2 : Int32) (x3 : Int32) (s : ZS) (H : Heap) (locs : List Loc) (ls : Array Slot), k53 x1 x2 x3 s = some (r, τ) → va_P D vwCl (zW (zcC a cI cJ cC) 41 a s) H → va_S (zF 41 a st.heap.size) st.heap H locs → lv_has ls 5 [(0, .ref (a 26)), (1, .int x1), (2, .int x2), (3, .int x3)] → W p l e rmX4_readClause st m args below meth c H locs 0 0 (MQ below (va_Qi (fun (r' : Int32) (τ' : ZS) => r' = r ∧ τ' = τ) (zPost (zcC a cI cJ cC) 41 a D [(cI, .int), (cJ, .long)]) (zF 41 a st.heap.size)) args st 0 0 (zF 41 a st.heap.size)) (F0 m 53 ls [])) (x1 : Int32) (x2 : Int32) (x3 : Int32) (s : ZS) (H : Heap) (locs : List Loc) (ls : Array Slot), fX4_readClause_73 k53 x1 x2 x3 s = some (r, τ) → va_P D vwCl (zW (zcC a cI cJ cC) 41 a s) H → va_S (zF 41 a st.heap.size) st.heap H locs → lv_has ls 5 [(0, .ref (a 26)), (1, .int x1), (2, .int x2), (3, .int x3)] → W p l e rmX4_readClause st m args below meth c H locs 0 0 (MQ below (va_Qi (fun (r' : Int32) (τ' : ZS) => r' = r ∧ τ' = τ) (zPost (zcC a cI cJ cC) 41 a D [(cI, .int), (cJ, .long)]) (zF 41 a st.heap.size)) args st 0 0 (zF 41 a st.heap.size)) (F0 m 73 ls []) := by
    intro k53 hk53 x1 x2 x3 s H locs ls h hP hS hl
    refine lv_aload_n hx hb dX4_readClause_73 rfl (lv_at hl 0 rfl) ?_
    obtain ⟨u1, s1, e1, h⟩ := zb_some h
    refine z_calli hS (z_runV (As := []) (rest := []) X hG hA hE hP hS 26 (kX4_readNumber (l := l) (D := D) (a := a) (cI := cI) (cJ := cJ) (cC := cC) (adK := adK) (adV := adV) e1 _) (cwV 0 hts gX4_readClause_X4_readNumber rfl rfl rfl (by decide +kernel) ⟨Nat.le_of_ble_eq_true rfl, Nat.le_of_ble_eq_true rfl⟩) (by decide) (zcC_26 _ _ _ _ _ _) rfl rfl rfl hl.1 rfl (Nat.le_of_ble_eq_true rfl) dX4_readClause_74) (fun H locs hP hS => ?_)
    refine lv_istore (lv' := [(4, .int u1), (0, .ref (a 26)), (1, .int x1), (2, .int x2), (3, .int x3)]) hx hb dX4_readClause_77 hl (by decide) rfl (fun ls hl => ?_)
    refine lv_iload hx hb dX4_readClause_79 (lv_at hl 0 rfl) ?_
    refine lv_if_ge (tgt := 86) hx hb dX4_readClause_81 (by decide) (fun c2 => ?_) (fun c2 => ?_)
    · have h := zif_t h c2
      refine lv_aload_n hx hb dX4_readClause_86 rfl (lv_at hl 1 rfl) ?_
      refine z_get (C := RX4) (T := TX4) (N := 9) X inX4 hP 26 (by decide) (zcC_26 _ _ _ _ _ _) rfl 5 (by decide) rfl (by decide +kernel) rfl dX4_readClause_87 ?_
      refine lv_aload_n hx hb dX4_readClause_90 rfl (lv_at hl 1 rfl) ?_
      refine z_get (C := RX4) (T := TX4) (N := 9) X inX4 hP 26 (by decide) (zcC_26 _ _ _ _ _ _) rfl 2 (by decide) rfl (by decide +kernel) rfl dX4_readClause_91 ?_
      refine lv_iconst (v := 5) hx hb dX4_readClause_94 (by decide) ?_
      refine lv_imul hx hb dX4_readClause_95 ?_
      refine lv_iload_n hx hb dX4_readClause_96 rfl (lv_at hl 4 rfl) ?_
      refine lv_iadd hx hb dX4_readClause_97 ?_
      refine lv_iload hx hb dX4_readClause_98 (lv_at hl 0 rfl) ?_
      obtain ⟨g3, h⟩ := zg_some h
      refine z_iast X hA hP hS 30 0 (by decide) (zcC_30 _ _ _ _) rfl g3 dX4_readClause_100 (fun H locs hP hS => ?_)
      refine lv_iinc (v := (x3 + (1 : Int32))) (lv' := [(3, .int (x3 + (1 : Int32))), (4, .int u1), (0, .ref (a 26)), (1, .int x1), (2, .int x2)]) hx hb dX4_readClause_101 hl (k := 4) rfl rfl (by decide) rfl (fun ls hl => ?_)
      refine lv_goto (tgt := 53) hx hb dX4_readClause_104 (by decide) ?_
      exact hk53 (x1) (x2) ((x3 + (1 : Int32))) ((zI s1 30 (((((s1).1 26 2) * (5 : Int32)) + x3)).toNatClampNeg u1)) _ _ _ h hP hS (lv_sub hl [2, 3, 4, 0] rfl)
    · have h := zif_f h c2
      refine lv_iconst (v := 0) hx hb dX4_readClause_84 (by decide) ?_
      exact z_zret X hP hS hr hlocks (by decide) h dX4_readClause_85
  have w53 : ∀  (n : Nat) (x1 : Int32) (x2 : Int32) (x3 : Int32) (s : ZS) (H : Heap) (locs : List Loc) (ls : Array Slot), fX4_readClause_53n  n (x1, x2, x3, s) = some (r, τ) → va_P D vwCl (zW (zcC a cI cJ cC) 41 a s) H → va_S (zF 41 a st.heap.size) st.heap H locs → lv_has ls 5 [(0, .ref (a 26)), (1, .int x1), (2, .int x2), (3, .int x3)] → W p l e rmX4_readClause st m args below meth c H locs 0 0 (MQ below (va_Qi (fun (r' : Int32) (τ' : ZS) => r' = r ∧ τ' = τ) (zPost (zcC a cI cJ cC) 41 a D [(cI, .int), (cJ, .long)]) (zF 41 a st.heap.size)) args st 0 0 (zF 41 a st.heap.size)) (F0 m 53 ls []) := by
    intro  n
    induction n with
    | zero => intro x1 x2 x3 s H locs ls h; exact zloop_0 h
    | succ n ih =>
      intro x1 x2 x3 s H locs ls h hP hS hl
      have h : fX4_readClause_53b  (fun x1 x2 x3 s => fX4_readClause_53n  n (x1, x2, x3, s)) x1 x2 x3 s = some (r, τ) := h
      refine lv_iload_n hx hb dX4_readClause_53 rfl (lv_at hl 3 rfl) ?_
      refine lv_iconst (v := 5) hx hb dX4_readClause_54 (by decide) ?_
      refine lv_icmp_ge (tgt := 107) hx hb dX4_readClause_55 (by decide) (fun c1 => ?_) (fun c1 => ?_)
      · have h := zif_t h c1
        refine lv_aload_n hx hb dX4_readClause_107 rfl (lv_at hl 0 rfl) ?_
        refine z_get (C := RX4) (T := TX4) (N := 9) X inX4 hP 26 (by decide) (zcC_26 _ _ _ _ _ _) rfl 3 (by decide) rfl (by decide +kernel) rfl dX4_readClause_108 ?_
        refine lv_aload_n hx hb dX4_readClause_111 rfl (lv_at hl 0 rfl) ?_
        refine z_get (C := RX4) (T := TX4) (N := 9) X inX4 hP 26 (by decide) (zcC_26 _ _ _ _ _ _) rfl 2 (by decide) rfl (by decide +kernel) rfl dX4_readClause_112 ?_
        refine lv_iload_n hx hb dX4_readClause_115 rfl (lv_at hl 1 rfl) ?_
        obtain ⟨g2, h⟩ := zg_some h
        refine z_iast X hA hP hS 28 0 (by decide) (zcC_28 _ _ _ _) rfl g2 dX4_readClause_116 (fun H locs hP hS => ?_)
        refine lv_aload_n hx hb dX4_readClause_117 rfl (lv_at hl 0 rfl) ?_
        refine z_get (C := RX4) (T := TX4) (N := 9) X inX4 hP 26 (by decide) (zcC_26 _ _ _ _ _ _) rfl 4 (by decide) rfl (by decide +kernel) rfl dX4_readClause_118 ?_
        refine lv_aload_n hx hb dX4_readClause_121 rfl (lv_at hl 0 rfl) ?_
        refine z_get (C := RX4) (T := TX4) (N := 9) X inX4 hP 26 (by decide) (zcC_26 _ _ _ _ _ _) rfl 2 (by decide) rfl (by decide +kernel) rfl dX4_readClause_122 ?_
        refine lv_iload_n hx hb dX4_readClause_125 rfl (lv_at hl 2 rfl) ?_
        obtain ⟨g3, h⟩ := zg_some h
        refine z_iast X hA hP hS 29 0 (by decide) (zcC_29 _ _ _ _) rfl g3 dX4_readClause_126 (fun H locs hP hS => ?_)
        refine lv_aload_n hx hb dX4_readClause_127 rfl (lv_at hl 0 rfl) ?_
        refine lv_dup hx hb dX4_readClause_128 rfl ?_
        refine z_get (C := RX4) (T := TX4) (N := 9) X inX4 hP 26 (by decide) (zcC_26 _ _ _ _ _ _) rfl 2 (by decide) rfl (by decide +kernel) rfl dX4_readClause_129 ?_
        refine lv_iconst (v := 1) hx hb dX4_readClause_132 (by decide) ?_
        refine lv_iadd hx hb dX4_readClause_133 ?_
        refine z_put (ty := .int) (x := ((((zI (zI s 28 (((s).1 26 2)).toNatClampNeg x1) 29 ((((zI s 28 (((s).1 26 2)).toNatClampNeg x1)).1 26 2)).toNatClampNeg x2)).1 26 2) + (1 : Int32))) (C := RX4) (T := TX4) (N := 9) X inX4 tyX4 tyX4_ok nmX4 hA hP hS 26 (by decide) (zcC_26 _ _ _ _ _ _) rfl 2 (by decide) rfl (by decide +kernel) rfl (by decide +kernel) rfl rfl (Nat.le_of_ble_eq_true rfl) rfl dX4_readClause_134 (fun H locs hP hS => ?_)
        refine lv_iconst (v := 1) hx hb dX4_readClause_137 (by decide) ?_
        exact z_zret X hP hS hr hlocks (by decide) h dX4_readClause_138
      · have h := zif_f h c1
        refine lv_iload_n hx hb dX4_readClause_58 rfl (lv_at hl 3 rfl) ?_
        refine lv_if_le (tgt := 73) hx hb dX4_readClause_59 (by decide) (fun c4 => ?_) (fun c4 => ?_)
        · have h := zif_t h c4
          exact w73 (fun x1 x2 x3 s => fX4_readClause_53n  n (x1, x2, x3, s)) (fun x1 x2 x3 s H locs ls h hP hS hl => ih x1 x2 x3 s H locs ls h hP hS hl)  (x1) (x2) (x3) (s) _ _ _ h hP hS (lv_sub hl [0, 1, 2, 3] rfl)
        · have h := zif_f h c4
          refine lv_aload_n hx hb dX4_readClause_62 rfl (lv_at hl 0 rfl) ?_
          refine lv_bipush (v := 44) hx hb dX4_readClause_63 (by decide) ?_
          obtain ⟨u5, s5, e5, h⟩ := zb_some h
          refine z_calli hS (z_runV (As := [.int (44 : Int32)]) (rest := []) X hG hA hE hP hS 26 (kX4_pass (l := l) (D := D) (a := a) (cI := cI) (cJ := cJ) (cC := cC) (adK := adK) (adV := adV) e5 _) (cwV 1 hts gX4_readClause_X4_pass rfl rfl rfl (by decide +kernel) ⟨Nat.le_of_ble_eq_true rfl, Nat.le_of_ble_eq_true rfl⟩) (by decide) (zcC_26 _ _ _ _ _ _) rfl rfl rfl hl.1 rfl (Nat.le_of_ble_eq_true rfl) dX4_readClause_65) (fun H locs hP hS => ?_)
          refine lv_if_ne (tgt := 73) hx hb dX4_readClause_68 (by decide) (fun c6 => ?_) (fun c6 => ?_)
          · have h := zif_f h c6
            exact w73 (fun x1 x2 x3 s => fX4_readClause_53n  n (x1, x2, x3, s)) (fun x1 x2 x3 s H locs ls h hP hS hl => ih x1 x2 x3 s H locs ls h hP hS hl)  (x1) (x2) (x3) (s5) _ _ _ h hP hS (lv_sub hl [0, 1, 2, 3] rfl)
          · have h := zif_t h c6
            refine lv_iconst (v := 0) hx hb dX4_readClause_71 (by decide) ?_
            exact z_zret X hP hS hr hlocks (by decide) h dX4_readClause_72
  have hl : lv_has ls 5 [(0, .ref (a 26))] := hl
  refine lv_aload_n hx hb dX4_readClause_0 rfl (lv_at hl 0 rfl) ?_
  refine z_get (C := RX4) (T := TX4) (N := 9) X inX4 hP 26 (by decide) (zcC_26 _ _ _ _ _ _) rfl 2 (by decide) rfl (by decide +kernel) rfl dX4_readClause_1 ?_
  refine lv_bipush (v := 8) hx hb dX4_readClause_4 (by decide) ?_
  refine lv_icmp_lt (tgt := 11) hx hb dX4_readClause_6 (by decide) (fun c1 => ?_) (fun c1 => ?_)
  · have h := zif_t h c1
    refine lv_aload_n hx hb dX4_readClause_11 rfl (lv_at hl 0 rfl) ?_
    obtain ⟨u2, s2, e2, h⟩ := zb_some h
    refine z_calli hS (z_runV (As := []) (rest := []) X hG hA hE hP hS 26 (kX4_readWord (l := l) (D := D) (a := a) (cI := cI) (cJ := cJ) (cC := cC) (adK := adK) (adV := adV) e2 _) (cwV 0 hts gX4_readClause_X4_readWord rfl rfl rfl (by decide +kernel) ⟨Nat.le_of_ble_eq_true rfl, Nat.le_of_ble_eq_true rfl⟩) (by decide) (zcC_26 _ _ _ _ _ _) rfl rfl rfl hl.1 rfl (Nat.le_of_ble_eq_true rfl) dX4_readClause_12) (fun H locs hP hS => ?_)
    refine lv_istore_n (lv' := [(1, .int u2), (0, .ref (a 26))]) hx hb dX4_readClause_15 rfl hl (by decide) rfl (fun ls hl => ?_)
    refine lv_iload_n hx hb dX4_readClause_16 rfl (lv_at hl 0 rfl) ?_
    refine lv_if_lt (tgt := 29) hx hb dX4_readClause_17 (by decide) (fun c3 => ?_) (fun c3 => ?_)
    · have h := zif_t h c3
      refine lv_iconst (v := 0) hx hb dX4_readClause_29 (by decide) ?_
      exact z_zret X hP hS hr hlocks (by decide) h dX4_readClause_30
    · have h := zif_f h c3
      refine lv_aload_n hx hb dX4_readClause_20 rfl (lv_at hl 1 rfl) ?_
      refine lv_bipush (v := 32) hx hb dX4_readClause_21 (by decide) ?_
      obtain ⟨u4, s4, e4, h⟩ := zb_some h
      refine z_calli hS (z_runV (As := [.int (32 : Int32)]) (rest := []) X hG hA hE hP hS 26 (kX4_pass (l := l) (D := D) (a := a) (cI := cI) (cJ := cJ) (cC := cC) (adK := adK) (adV := adV) e4 _) (cwV 1 hts gX4_readClause_X4_pass rfl rfl rfl (by decide +kernel) ⟨Nat.le_of_ble_eq_true rfl, Nat.le_of_ble_eq_true rfl⟩) (by decide) (zcC_26 _ _ _ _ _ _) rfl rfl rfl hl.1 rfl (Nat.le_of_ble_eq_true rfl) dX4_readClause_23) (fun H locs hP hS => ?_)
      refine lv_if_ne (tgt := 31) hx hb dX4_readClause_26 (by decide) (fun c5 => ?_) (fun c5 => ?_)
      · have h := zif_f h c5
        refine lv_aload_n hx hb dX4_readClause_31 rfl (lv_at hl 1 rfl) ?_
        obtain ⟨u6, s6, e6, h⟩ := zb_some h
        refine z_calli hS (z_runV (As := []) (rest := []) X hG hA hE hP hS 26 (kX4_readFigure (l := l) (D := D) (a := a) (cI := cI) (cJ := cJ) (cC := cC) (adK := adK) (adV := adV) e6 _) (cwV 0 hts gX4_readClause_X4_readFigure rfl rfl rfl (by decide +kernel) ⟨Nat.le_of_ble_eq_true rfl, Nat.le_of_ble_eq_true rfl⟩) (by decide) (zcC_26 _ _ _ _ _ _) rfl rfl rfl hl.1 rfl (Nat.le_of_ble_eq_true rfl) dX4_readClause_32) (fun H locs hP hS => ?_)
        refine lv_istore_n (lv' := [(2, .int u6), (1, .int u2), (0, .ref (a 26))]) hx hb dX4_readClause_35 rfl hl (by decide) rfl (fun ls hl => ?_)
        refine lv_iload_n hx hb dX4_readClause_36 rfl (lv_at hl 0 rfl) ?_
        refine lv_if_lt (tgt := 49) hx hb dX4_readClause_37 (by decide) (fun c7 => ?_) (fun c7 => ?_)
        · have h := zif_t h c7
          refine lv_iconst (v := 0) hx hb dX4_readClause_49 (by decide) ?_
          exact z_zret X hP hS hr hlocks (by decide) h dX4_readClause_50
        · have h := zif_f h c7
          refine lv_aload_n hx hb dX4_readClause_40 rfl (lv_at hl 2 rfl) ?_
          refine lv_bipush (v := 32) hx hb dX4_readClause_41 (by decide) ?_
          obtain ⟨u8, s8, e8, h⟩ := zb_some h
          refine z_calli hS (z_runV (As := [.int (32 : Int32)]) (rest := []) X hG hA hE hP hS 26 (kX4_pass (l := l) (D := D) (a := a) (cI := cI) (cJ := cJ) (cC := cC) (adK := adK) (adV := adV) e8 _) (cwV 1 hts gX4_readClause_X4_pass rfl rfl rfl (by decide +kernel) ⟨Nat.le_of_ble_eq_true rfl, Nat.le_of_ble_eq_true rfl⟩) (by decide) (zcC_26 _ _ _ _ _ _) rfl rfl rfl hl.1 rfl (Nat.le_of_ble_eq_true rfl) dX4_readClause_43) (fun H locs hP hS => ?_)
          refine lv_if_ne (tgt := 51) hx hb dX4_readClause_46 (by decide) (fun c9 => ?_) (fun c9 => ?_)
          · have h := zif_f h c9
            refine lv_iconst (v := 0) hx hb dX4_readClause_51 (by decide) ?_
            refine lv_istore_n (lv' := [(3, .int (0 : Int32)), (2, .int u6), (1, .int u2), (0, .ref (a 26))]) hx hb dX4_readClause_52 rfl hl (by decide) rfl (fun ls hl => ?_)
            exact w53  zN (u2) (u6) ((0 : Int32)) (s8) _ _ _ h hP hS (lv_sub hl [3, 2, 1, 0] rfl)
          · have h := zif_t h c9
            refine lv_iconst (v := 0) hx hb dX4_readClause_49 (by decide) ?_
            exact z_zret X hP hS hr hlocks (by decide) h dX4_readClause_50
      · have h := zif_t h c5
        refine lv_iconst (v := 0) hx hb dX4_readClause_29 (by decide) ?_
        exact z_zret X hP hS hr hlocks (by decide) h dX4_readClause_30
  · have h := zif_f h c1
    refine lv_iconst (v := 0) hx hb dX4_readClause_9 (by decide) ?_
    exact z_zret X hP hS hr hlocks (by decide) h dX4_readClause_10
abbrev rmX4_readSheets : Room := { frames := 7, cells := 0, slots := 0, locals := 154 }
set_option maxHeartbeats 4000000 in
set_option maxRecDepth 100000 in
theorem kX4_readSheets {l : Launch} {D : va_G} {a : Nat → Nat} {cI cJ cC : ClassId} {adK adV : Nat → Nat}  {s τ : ZS} {r : Int32} (h : fX4_readSheets  s = some (r, τ)) : zMi (zcC a cI cJ cC) 41 a D [(cI, .int), (cJ, .long)] (zEC adK adV) l yX4_readSheets wsX4_readSheets rmX4_readSheets [.ref (a 26)] s r τ := by
  refine z_start (cc := cX4_readSheets) (maxL := 3) (ret := (some .int)) RX4 rfl (by decide) rfl (Nat.le_of_ble_eq_true rfl) ?_
  intro p e st m args below meth c ls H locs X hr hlocks hA hE hP hS hl
  obtain ⟨hx, hb, hml, hown, hts, -⟩ := id X
  have hG := zEC_good adK adV
  have inX4 : ∀ w ∈ u_ws RX4 TX4 9, w ∈ wsX4_readSheets := by decide +kernel
  have w49 : ∀   (s : ZS) (H : Heap) (locs : List Loc) (ls : Array Slot), fX4_readSheets_49   s = some (r, τ) → va_P D vwCl (zW (zcC a cI cJ cC) 41 a s) H → va_S (zF 41 a st.heap.size) st.heap H locs → lv_has ls 3 [(0, .ref (a 26))] → W p l e rmX4_readSheets st m args below meth c H locs 0 0 (MQ below (va_Qi (fun (r' : Int32) (τ' : ZS) => r' = r ∧ τ' = τ) (zPost (zcC a cI cJ cC) 41 a D [(cI, .int), (cJ, .long)]) (zF 41 a st.heap.size)) args st 0 0 (zF 41 a st.heap.size)) (F0 m 49 ls []) := by
    intro   s H locs ls h hP hS hl
    refine lv_aload_n hx hb dX4_readSheets_49 rfl (lv_at hl 0 rfl) ?_
    refine z_get (C := RX4) (T := TX4) (N := 9) X inX4 hP 26 (by decide) (zcC_26 _ _ _ _ _ _) rfl 8 (by decide) rfl (by decide +kernel) rfl dX4_readSheets_50 ?_
    refine lv_aload_n hx hb dX4_readSheets_53 rfl (lv_at hl 0 rfl) ?_
    refine z_get (C := RX4) (T := TX4) (N := 9) X inX4 hP 26 (by decide) (zcC_26 _ _ _ _ _ _) rfl 1 (by decide) rfl (by decide +kernel) rfl dX4_readSheets_54 ?_
    refine lv_icmp_ge (tgt := 67) hx hb dX4_readSheets_57 (by decide) (fun c1 => ?_) (fun c1 => ?_)
    · have h := zif_t h c1
      refine lv_iconst (v := -1) hx hb dX4_readSheets_67 (by decide) ?_
      exact z_iret X hP hS hr hlocks h dX4_readSheets_68
    · have h := zif_f h c1
      refine lv_aload_n hx hb dX4_readSheets_60 rfl (lv_at hl 0 rfl) ?_
      refine z_get (C := RX4) (T := TX4) (N := 9) X inX4 hP 26 (by decide) (zcC_26 _ _ _ _ _ _) rfl 8 (by decide) rfl (by decide +kernel) rfl dX4_readSheets_61 ?_
      refine lv_goto (tgt := 68) hx hb dX4_readSheets_64 (by decide) ?_
      exact z_iret X hP hS hr hlocks h dX4_readSheets_68
  have w14 : ∀  (n : Nat) (x1 : Int32) (x2 : Int32) (s : ZS) (H : Heap) (locs : List Loc) (ls : Array Slot), fX4_readSheets_14n  n (x1, x2, s) = some (r, τ) → va_P D vwCl (zW (zcC a cI cJ cC) 41 a s) H → va_S (zF 41 a st.heap.size) st.heap H locs → lv_has ls 3 [(0, .ref (a 26)), (1, .int x1), (2, .int x2)] → W p l e rmX4_readSheets st m args below meth c H locs 0 0 (MQ below (va_Qi (fun (r' : Int32) (τ' : ZS) => r' = r ∧ τ' = τ) (zPost (zcC a cI cJ cC) 41 a D [(cI, .int), (cJ, .long)]) (zF 41 a st.heap.size)) args st 0 0 (zF 41 a st.heap.size)) (F0 m 14 ls []) := by
    intro  n
    induction n with
    | zero => intro x1 x2 s H locs ls h; exact zloop_0 h
    | succ n ih =>
      intro x1 x2 s H locs ls h hP hS hl
      have h : fX4_readSheets_14b  (fun x1 x2 s => fX4_readSheets_14n  n (x1, x2, s)) x1 x2 s = some (r, τ) := h
      refine lv_iload_n hx hb dX4_readSheets_14 rfl (lv_at hl 2 rfl) ?_
      refine lv_bipush (v := 8) hx hb dX4_readSheets_15 (by decide) ?_
      refine lv_icmp_ge (tgt := 49) hx hb dX4_readSheets_17 (by decide) (fun c1 => ?_) (fun c1 => ?_)
      · have h := zif_t h c1
        exact w49    (s) _ _ _ h hP hS (lv_sub hl [0] rfl)
      · have h := zif_f h c1
        refine lv_iload_n hx hb dX4_readSheets_20 rfl (lv_at hl 1 rfl) ?_
        refine lv_if_eq (tgt := 49) hx hb dX4_readSheets_21 (by decide) (fun c2 => ?_) (fun c2 => ?_)
        · have h := zif_t h c2
          exact w49    (s) _ _ _ h hP hS (lv_sub hl [0] rfl)
        · have h := zif_f h c2
          refine lv_aload_n hx hb dX4_readSheets_24 rfl (lv_at hl 0 rfl) ?_
          obtain ⟨u3, s3, e3, h⟩ := zb_some h
          refine z_calli hS (z_runV (As := []) (rest := []) X hG hA hE hP hS 26 (kX4_readClause (l := l) (D := D) (a := a) (cI := cI) (cJ := cJ) (cC := cC) (adK := adK) (adV := adV) e3 _) (cwV 0 hts gX4_readSheets_X4_readClause rfl rfl rfl (by decide +kernel) ⟨Nat.le_of_ble_eq_true rfl, Nat.le_of_ble_eq_true rfl⟩) (by decide) (zcC_26 _ _ _ _ _ _) rfl rfl rfl hl.1 rfl (Nat.le_of_ble_eq_true rfl) dX4_readSheets_25) (fun H locs hP hS => ?_)
          refine lv_if_ne (tgt := 36) hx hb dX4_readSheets_28 (by decide) (fun c4 => ?_) (fun c4 => ?_)
          · have h := zif_f h c4
            refine lv_aload_n hx hb dX4_readSheets_36 rfl (lv_at hl 0 rfl) ?_
            refine lv_bipush (v := 59) hx hb dX4_readSheets_37 (by decide) ?_
            obtain ⟨u5, s5, e5, h⟩ := zb_some h
            refine z_calli hS (z_runV (As := [.int (59 : Int32)]) (rest := []) X hG hA hE hP hS 26 (kX4_pass (l := l) (D := D) (a := a) (cI := cI) (cJ := cJ) (cC := cC) (adK := adK) (adV := adV) e5 _) (cwV 1 hts gX4_readSheets_X4_pass rfl rfl rfl (by decide +kernel) ⟨Nat.le_of_ble_eq_true rfl, Nat.le_of_ble_eq_true rfl⟩) (by decide) (zcC_26 _ _ _ _ _ _) rfl rfl rfl hl.1 rfl (Nat.le_of_ble_eq_true rfl) dX4_readSheets_39) (fun H locs hP hS => ?_)
            refine lv_istore_n (lv' := [(1, .int u5), (0, .ref (a 26)), (2, .int x2)]) hx hb dX4_readSheets_42 rfl hl (by decide) rfl (fun ls hl => ?_)
            refine lv_iinc (v := (x2 + (1 : Int32))) (lv' := [(2, .int (x2 + (1 : Int32))), (1, .int u5), (0, .ref (a 26))]) hx hb dX4_readSheets_43 hl (k := 2) rfl rfl (by decide) rfl (fun ls hl => ?_)
            refine lv_goto (tgt := 14) hx hb dX4_readSheets_46 (by decide) ?_
            exact ih (u5) ((x2 + (1 : Int32))) (s5) _ _ _ h hP hS (lv_sub hl [2, 1, 0] rfl)
          · have h := zif_t h c4
            refine lv_aload_n hx hb dX4_readSheets_31 rfl (lv_at hl 0 rfl) ?_
            refine z_get (C := RX4) (T := TX4) (N := 9) X inX4 hP 26 (by decide) (zcC_26 _ _ _ _ _ _) rfl 8 (by decide) rfl (by decide +kernel) rfl dX4_readSheets_32 ?_
            exact z_iret X hP hS hr hlocks h dX4_readSheets_35
  have hl : lv_has ls 3 [(0, .ref (a 26))] := hl
  refine lv_aload_n hx hb dX4_readSheets_0 rfl (lv_at hl 0 rfl) ?_
  refine lv_iconst (v := 0) hx hb dX4_readSheets_1 (by decide) ?_
  refine z_put (ty := .int) (x := (0 : Int32)) (C := RX4) (T := TX4) (N := 9) X inX4 tyX4 tyX4_ok nmX4 hA hP hS 26 (by decide) (zcC_26 _ _ _ _ _ _) rfl 8 (by decide) rfl (by decide +kernel) rfl (by decide +kernel) rfl rfl (Nat.le_of_ble_eq_true rfl) rfl dX4_readSheets_2 (fun H locs hP hS => ?_)
  refine lv_aload_n hx hb dX4_readSheets_5 rfl (lv_at hl 0 rfl) ?_
  refine lv_iconst (v := 0) hx hb dX4_readSheets_6 (by decide) ?_
  refine z_put (ty := .int) (x := (0 : Int32)) (C := RX4) (T := TX4) (N := 9) X inX4 tyX4 tyX4_ok nmX4 hA hP hS 26 (by decide) (zcC_26 _ _ _ _ _ _) rfl 2 (by decide) rfl (by decide +kernel) rfl (by decide +kernel) rfl rfl (Nat.le_of_ble_eq_true rfl) rfl dX4_readSheets_7 (fun H locs hP hS => ?_)
  refine lv_iconst (v := 1) hx hb dX4_readSheets_10 (by decide) ?_
  refine lv_istore_n (lv' := [(1, .int (1 : Int32)), (0, .ref (a 26))]) hx hb dX4_readSheets_11 rfl hl (by decide) rfl (fun ls hl => ?_)
  refine lv_iconst (v := 0) hx hb dX4_readSheets_12 (by decide) ?_
  refine lv_istore_n (lv' := [(2, .int (0 : Int32)), (1, .int (1 : Int32)), (0, .ref (a 26))]) hx hb dX4_readSheets_13 rfl hl (by decide) rfl (fun ls hl => ?_)
  exact w14  zN ((1 : Int32)) ((0 : Int32)) ((zI (zI s 26 8 (0 : Int32)) 26 2 (0 : Int32))) _ _ _ h hP hS (lv_sub hl [2, 1, 0] rfl)
