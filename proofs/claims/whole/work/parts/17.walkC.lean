abbrev rmX6_odds : Room := { frames := 5, cells := 0, slots := 0, locals := 114 }
set_option maxHeartbeats 4000000 in
set_option maxRecDepth 100000 in
theorem kX6_odds {l : Launch} {D : va_G} {a : Nat → Nat} {cI cJ cC : ClassId} {adK adV : Nat → Nat} {x1 : Int32} {x2 : Int32} {x3 : Int32} {x4 : Int32} {x5 : Int32} {x6 : Int32} {x7 : Int32} {s τ : ZS} {r : Int64} (h : fX6_odds x1 x2 x3 x4 x5 x6 x7 s = some (r, τ)) : zMl (zcC a cI cJ cC) 41 a D [(cI, .int), (cJ, .long)] (zEC adK adV) l yX6_odds wsX6_odds rmX6_odds [.ref (a 0), .int x1, .int x2, .int x3, .int x4, .int x5, .int x6, .int x7] s r τ := by
  refine z_start (cc := cX6_odds) (maxL := 10) (ret := (some .long)) RX6 rfl (by decide) rfl (Nat.le_of_ble_eq_true rfl) ?_
  intro p e st m args below meth c ls H locs X hr hlocks hA hE hP hS hl
  obtain ⟨hx, hb, hml, hown, hts, -⟩ := id X
  have hG := zEC_good adK adV
  have inX3 : ∀ w ∈ u_ws RX3 TX3 10, w ∈ wsX6_odds := by decide +kernel
  have inX6 : ∀ w ∈ u_ws RX6 TX6 12, w ∈ wsX6_odds := by decide +kernel
  have w119 : ∀ (k81 : Int32 → Int32 → Int32 → Int32 → Int32 → Int32 → Int32 → Int32 → Int32 → ZS → Option (Int64 × ZS)) (hk81 : ∀ (x1 : Int32) (x2 : Int32) (x3 : Int32) (x4 : Int32) (x5 : Int32) (x6 : Int32) (x7 : Int32) (x8 : Int32) (x9 : Int32) (s : ZS) (H : Heap) (locs : List Loc) (ls : Array Slot), k81 x1 x2 x3 x4 x5 x6 x7 x8 x9 s = some (r, τ) → va_P D vwCl (zW (zcC a cI cJ cC) 41 a s) H → va_S (zF 41 a st.heap.size) st.heap H locs → lv_has ls 10 [(0, .ref (a 0)), (1, .int x1), (2, .int x2), (3, .int x3), (4, .int x4), (5, .int x5), (6, .int x6), (7, .int x7), (8, .int x8), (9, .int x9)] → W p l e rmX6_odds st m args below meth c H locs 0 0 (MQ below (va_Ql (fun (r' : Int64) (τ' : ZS) => r' = r ∧ τ' = τ) (zPost (zcC a cI cJ cC) 41 a D [(cI, .int), (cJ, .long)]) (zF 41 a st.heap.size)) args st 0 0 (zF 41 a st.heap.size)) (F0 m 81 ls [])) (x1 : Int32) (x2 : Int32) (x3 : Int32) (x4 : Int32) (x5 : Int32) (x6 : Int32) (x7 : Int32) (x8 : Int32) (x9 : Int32) (s : ZS) (H : Heap) (locs : List Loc) (ls : Array Slot), fX6_odds_119 k81 x1 x2 x3 x4 x5 x6 x7 x8 x9 s = some (r, τ) → va_P D vwCl (zW (zcC a cI cJ cC) 41 a s) H → va_S (zF 41 a st.heap.size) st.heap H locs → lv_has ls 10 [(0, .ref (a 0)), (1, .int x1), (2, .int x2), (3, .int x3), (4, .int x4), (5, .int x5), (6, .int x6), (7, .int x7), (8, .int x8), (9, .int x9)] → W p l e rmX6_odds st m args below meth c H locs 0 0 (MQ below (va_Ql (fun (r' : Int64) (τ' : ZS) => r' = r ∧ τ' = τ) (zPost (zcC a cI cJ cC) 41 a D [(cI, .int), (cJ, .long)]) (zF 41 a st.heap.size)) args st 0 0 (zF 41 a st.heap.size)) (F0 m 119 ls []) := by
    intro k81 hk81 x1 x2 x3 x4 x5 x6 x7 x8 x9 s H locs ls h hP hS hl
    refine lv_iinc (v := (x9 + (1 : Int32))) (lv' := [(9, .int (x9 + (1 : Int32))), (0, .ref (a 0)), (1, .int x1), (2, .int x2), (3, .int x3), (4, .int x4), (5, .int x5), (6, .int x6), (7, .int x7), (8, .int x8)]) hx hb dX6_odds_119 hl (k := 9) rfl rfl (by decide) rfl (fun ls hl => ?_)
    refine lv_goto (tgt := 81) hx hb dX6_odds_122 (by decide) ?_
    exact hk81 (x1) (x2) (x3) (x4) (x5) (x6) (x7) (x8) ((x9 + (1 : Int32))) (s) _ _ _ h hP hS (lv_sub hl [1, 2, 3, 4, 5, 6, 7, 8, 9, 0] rfl)
  have w81 : ∀  (n : Nat) (x1 : Int32) (x2 : Int32) (x3 : Int32) (x4 : Int32) (x5 : Int32) (x6 : Int32) (x7 : Int32) (x8 : Int32) (x9 : Int32) (s : ZS) (H : Heap) (locs : List Loc) (ls : Array Slot), fX6_odds_81n  n (x1, x2, x3, x4, x5, x6, x7, x8, x9, s) = some (r, τ) → va_P D vwCl (zW (zcC a cI cJ cC) 41 a s) H → va_S (zF 41 a st.heap.size) st.heap H locs → lv_has ls 10 [(0, .ref (a 0)), (1, .int x1), (2, .int x2), (3, .int x3), (4, .int x4), (5, .int x5), (6, .int x6), (7, .int x7), (8, .int x8), (9, .int x9)] → W p l e rmX6_odds st m args below meth c H locs 0 0 (MQ below (va_Ql (fun (r' : Int64) (τ' : ZS) => r' = r ∧ τ' = τ) (zPost (zcC a cI cJ cC) 41 a D [(cI, .int), (cJ, .long)]) (zF 41 a st.heap.size)) args st 0 0 (zF 41 a st.heap.size)) (F0 m 81 ls []) := by
    intro  n
    induction n with
    | zero => intro x1 x2 x3 x4 x5 x6 x7 x8 x9 s H locs ls h; exact zloop_0 h
    | succ n ih =>
      intro x1 x2 x3 x4 x5 x6 x7 x8 x9 s H locs ls h hP hS hl
      have h : fX6_odds_81b  (fun x1 x2 x3 x4 x5 x6 x7 x8 x9 s => fX6_odds_81n  n (x1, x2, x3, x4, x5, x6, x7, x8, x9, s)) x1 x2 x3 x4 x5 x6 x7 x8 x9 s = some (r, τ) := h
      refine lv_iload hx hb dX6_odds_81 (lv_at hl 9 rfl) ?_
      refine lv_iload_n hx hb dX6_odds_83 rfl (lv_at hl 3 rfl) ?_
      refine lv_icmp_ge (tgt := 125) hx hb dX6_odds_84 (by decide) (fun c1 => ?_) (fun c1 => ?_)
      · have h := zif_t h c1
        refine lv_iload hx hb dX6_odds_125 (lv_at hl 8 rfl) ?_
        refine lv_i2l hx hb dX6_odds_127 rfl ?_
        refine lv_iload_n hx hb dX6_odds_128 rfl (lv_at hl 3 rfl) ?_
        refine lv_i2l hx hb dX6_odds_129 rfl ?_
        refine lv_iload hx hb dX6_odds_130 (lv_at hl 7 rfl) ?_
        obtain ⟨u2, s2, e2, h⟩ := zb_some h
        refine z_calll hS (z_runS (As := [.long (x8).toInt64, .long (x3).toInt64, .int x7]) (rest := []) X hG hA hE hP hS (kX6_partOf (l := l) (D := D) (a := a) (cI := cI) (cJ := cJ) (cC := cC) (adK := adK) (adV := adV) e2 _) (va_cwS 3 hts gX6_odds_X6_partOf rfl rfl rfl (by decide +kernel) ⟨Nat.le_of_ble_eq_true rfl, Nat.le_of_ble_eq_true rfl⟩) rfl hl.1 rfl (Nat.le_of_ble_eq_true rfl) dX6_odds_132) (fun H locs hP hS => ?_)
        exact z_lret X hP hS hr hlocks h dX6_odds_135
      · have h := zif_f h c1
        refine lv_aload_n hx hb dX6_odds_87 rfl (lv_at hl 0 rfl) ?_
        refine z_get (C := RX6) (T := TX6) (N := 12) X inX6 hP 0 (by decide) (zcC_0 _ _ _ _ _ _) rfl 3 (by decide) rfl (by decide +kernel) rfl dX6_odds_88 ?_
        refine lv_iload_n hx hb dX6_odds_91 rfl (lv_at hl 1 rfl) ?_
        refine lv_iload_n hx hb dX6_odds_92 rfl (lv_at hl 2 rfl) ?_
        refine lv_iload hx hb dX6_odds_93 (lv_at hl 9 rfl) ?_
        refine lv_iadd hx hb dX6_odds_95 ?_
        obtain ⟨u3, s3, e3, h⟩ := zb_some h
        refine z_callv hS (z_runV (As := [.int x1, .int (x2 + x9)]) (rest := []) X hG hA hE hP hS 19 (kX0_pileDrawn (l := l) (D := D) (a := a) (cI := cI) (cJ := cJ) (cC := cC) (adK := adK) (adV := adV) e3 _) (cwV 2 hts gX6_odds_X0_pileDrawn rfl rfl rfl (by decide +kernel) ⟨Nat.le_of_ble_eq_true rfl, Nat.le_of_ble_eq_true rfl⟩) (by decide) (zcC_19 _ _ _ _ _ _) rfl rfl rfl hl.1 rfl (Nat.le_of_ble_eq_true rfl) dX6_odds_96) (fun H locs hP hS => ?_)
        refine lv_aload_n hx hb dX6_odds_99 rfl (lv_at hl 0 rfl) ?_
        refine z_get (C := RX6) (T := TX6) (N := 12) X inX6 hP 0 (by decide) (zcC_0 _ _ _ _ _ _) rfl 3 (by decide) rfl (by decide +kernel) rfl dX6_odds_100 ?_
        refine lv_iload hx hb dX6_odds_103 (lv_at hl 4 rfl) ?_
        refine lv_iconst (v := 0) hx hb dX6_odds_105 (by decide) ?_
        refine lv_iload hx hb dX6_odds_106 (lv_at hl 5 rfl) ?_
        obtain ⟨u4, s4, e4, h⟩ := zb_some h
        refine z_calli hS (z_runV (As := [.int x4, .int (0 : Int32), .int x5]) (rest := []) X hG hA hE hP hS 19 (kX0_shadeOf (l := l) (D := D) (a := a) (cI := cI) (cJ := cJ) (cC := cC) (adK := adK) (adV := adV) e4 _) (cwV 3 hts gX6_odds_X0_shadeOf rfl rfl rfl (by decide +kernel) ⟨Nat.le_of_ble_eq_true rfl, Nat.le_of_ble_eq_true rfl⟩) (by decide) (zcC_19 _ _ _ _ _ _) rfl rfl rfl hl.1 rfl (Nat.le_of_ble_eq_true rfl) dX6_odds_108) (fun H locs hP hS => ?_)
        refine lv_iload hx hb dX6_odds_111 (lv_at hl 6 rfl) ?_
        refine lv_icmp_lt (tgt := 119) hx hb dX6_odds_113 (by decide) (fun c5 => ?_) (fun c5 => ?_)
        · have h := zif_t h c5
          exact w119 (fun x1 x2 x3 x4 x5 x6 x7 x8 x9 s => fX6_odds_81n  n (x1, x2, x3, x4, x5, x6, x7, x8, x9, s)) (fun x1 x2 x3 x4 x5 x6 x7 x8 x9 s H locs ls h hP hS hl => ih x1 x2 x3 x4 x5 x6 x7 x8 x9 s H locs ls h hP hS hl)  (x1) (x2) (x3) (x4) (x5) (x6) (x7) (x8) (x9) (s4) _ _ _ h hP hS (lv_sub hl [0, 1, 2, 3, 4, 5, 6, 7, 8, 9] rfl)
        · have h := zif_f h c5
          refine lv_iinc (v := (x8 + (1 : Int32))) (lv' := [(8, .int (x8 + (1 : Int32))), (0, .ref (a 0)), (1, .int x1), (2, .int x2), (3, .int x3), (4, .int x4), (5, .int x5), (6, .int x6), (7, .int x7), (9, .int x9)]) hx hb dX6_odds_116 hl (k := 8) rfl rfl (by decide) rfl (fun ls hl => ?_)
          exact w119 (fun x1 x2 x3 x4 x5 x6 x7 x8 x9 s => fX6_odds_81n  n (x1, x2, x3, x4, x5, x6, x7, x8, x9, s)) (fun x1 x2 x3 x4 x5 x6 x7 x8 x9 s H locs ls h hP hS hl => ih x1 x2 x3 x4 x5 x6 x7 x8 x9 s H locs ls h hP hS hl)  (x1) (x2) (x3) (x4) (x5) (x6) (x7) ((x8 + (1 : Int32))) (x9) (s4) _ _ _ h hP hS (lv_sub hl [1, 2, 3, 4, 5, 6, 7, 8, 0, 9] rfl)
  have hl : lv_has ls 10 [(0, .ref (a 0)), (1, .int x1), (2, .int x2), (3, .int x3), (4, .int x4), (5, .int x5), (6, .int x6), (7, .int x7)] := hl
  refine lv_iload_n hx hb dX6_odds_0 rfl (lv_at hl 1 rfl) ?_
  refine lv_iconst (v := 5) hx hb dX6_odds_1 (by decide) ?_
  obtain ⟨u1, s1, e1, h⟩ := zb_some h
  refine z_calli hS (z_runS (As := [.int x1, .int (5 : Int32)]) (rest := []) X hG hA hE hP hS (kX6_within (l := l) (D := D) (a := a) (cI := cI) (cJ := cJ) (cC := cC) (adK := adK) (adV := adV) e1 _) (va_cwS 2 hts gX6_odds_X6_within rfl rfl rfl (by decide +kernel) ⟨Nat.le_of_ble_eq_true rfl, Nat.le_of_ble_eq_true rfl⟩) rfl hl.1 rfl (Nat.le_of_ble_eq_true rfl) dX6_odds_2) (fun H locs hP hS => ?_)
  refine lv_if_eq (tgt := 19) hx hb dX6_odds_5 (by decide) (fun c2 => ?_) (fun c2 => ?_)
  · have h := zif_t h c2
    refine lv_ldc2 (own := RX6) (index := 160) (v := -9223372036854775808) hx hb hown (hts _ (by decide +kernel)) dX6_odds_19 ?_
    exact z_lret X hP hS hr hlocks h dX6_odds_22
  · have h := zif_f h c2
    refine lv_iload_n hx hb dX6_odds_8 rfl (lv_at hl 3 rfl) ?_
    refine lv_iconst (v := 1) hx hb dX6_odds_9 (by decide) ?_
    refine lv_icmp_lt (tgt := 19) hx hb dX6_odds_10 (by decide) (fun c3 => ?_) (fun c3 => ?_)
    · have h := zif_t h c3
      refine lv_ldc2 (own := RX6) (index := 160) (v := -9223372036854775808) hx hb hown (hts _ (by decide +kernel)) dX6_odds_19 ?_
      exact z_lret X hP hS hr hlocks h dX6_odds_22
    · have h := zif_f h c3
      refine lv_iload_n hx hb dX6_odds_13 rfl (lv_at hl 3 rfl) ?_
      refine lv_bipush (v := 20) hx hb dX6_odds_14 (by decide) ?_
      refine lv_icmp_le (tgt := 23) hx hb dX6_odds_16 (by decide) (fun c4 => ?_) (fun c4 => ?_)
      · have h := zif_t h c4
        refine lv_iload hx hb dX6_odds_23 (lv_at hl 4 rfl) ?_
        refine lv_iconst (v := 3) hx hb dX6_odds_25 (by decide) ?_
        obtain ⟨u5, s5, e5, h⟩ := zb_some h
        refine z_calli hS (z_runS (As := [.int x4, .int (3 : Int32)]) (rest := []) X hG hA hE hP hS (kX6_within (l := l) (D := D) (a := a) (cI := cI) (cJ := cJ) (cC := cC) (adK := adK) (adV := adV) e5 _) (va_cwS 2 hts gX6_odds_X6_within rfl rfl rfl (by decide +kernel) ⟨Nat.le_of_ble_eq_true rfl, Nat.le_of_ble_eq_true rfl⟩) rfl hl.1 rfl (Nat.le_of_ble_eq_true rfl) dX6_odds_26) (fun H locs hP hS => ?_)
        refine lv_if_eq (tgt := 50) hx hb dX6_odds_29 (by decide) (fun c6 => ?_) (fun c6 => ?_)
        · have h := zif_t h c6
          refine lv_ldc2 (own := RX6) (index := 160) (v := -9223372036854775808) hx hb hown (hts _ (by decide +kernel)) dX6_odds_50 ?_
          exact z_lret X hP hS hr hlocks h dX6_odds_53
        · have h := zif_f h c6
          refine lv_iload hx hb dX6_odds_32 (lv_at hl 5 rfl) ?_
          refine lv_iconst (v := 3) hx hb dX6_odds_34 (by decide) ?_
          obtain ⟨u7, s7, e7, h⟩ := zb_some h
          refine z_calli hS (z_runS (As := [.int x5, .int (3 : Int32)]) (rest := []) X hG hA hE hP hS (kX6_within (l := l) (D := D) (a := a) (cI := cI) (cJ := cJ) (cC := cC) (adK := adK) (adV := adV) e7 _) (va_cwS 2 hts gX6_odds_X6_within rfl rfl rfl (by decide +kernel) ⟨Nat.le_of_ble_eq_true rfl, Nat.le_of_ble_eq_true rfl⟩) rfl hl.1 rfl (Nat.le_of_ble_eq_true rfl) dX6_odds_35) (fun H locs hP hS => ?_)
          refine lv_if_eq (tgt := 50) hx hb dX6_odds_38 (by decide) (fun c8 => ?_) (fun c8 => ?_)
          · have h := zif_t h c8
            refine lv_ldc2 (own := RX6) (index := 160) (v := -9223372036854775808) hx hb hown (hts _ (by decide +kernel)) dX6_odds_50 ?_
            exact z_lret X hP hS hr hlocks h dX6_odds_53
          · have h := zif_f h c8
            refine lv_iload hx hb dX6_odds_41 (lv_at hl 7 rfl) ?_
            refine lv_iconst (v := 2) hx hb dX6_odds_43 (by decide) ?_
            obtain ⟨u9, s9, e9, h⟩ := zb_some h
            refine z_calli hS (z_runS (As := [.int x7, .int (2 : Int32)]) (rest := []) X hG hA hE hP hS (kX6_within (l := l) (D := D) (a := a) (cI := cI) (cJ := cJ) (cC := cC) (adK := adK) (adV := adV) e9 _) (va_cwS 2 hts gX6_odds_X6_within rfl rfl rfl (by decide +kernel) ⟨Nat.le_of_ble_eq_true rfl, Nat.le_of_ble_eq_true rfl⟩) rfl hl.1 rfl (Nat.le_of_ble_eq_true rfl) dX6_odds_44) (fun H locs hP hS => ?_)
            refine lv_if_ne (tgt := 54) hx hb dX6_odds_47 (by decide) (fun c10 => ?_) (fun c10 => ?_)
            · have h := zif_f h c10
              refine lv_aload_n hx hb dX6_odds_54 rfl (lv_at hl 0 rfl) ?_
              refine z_get (C := RX6) (T := TX6) (N := 12) X inX6 hP 0 (by decide) (zcC_0 _ _ _ _ _ _) rfl 0 (by decide) rfl (by decide +kernel) rfl dX6_odds_55 ?_
              refine z_get (C := RX3) (T := TX3) (N := 10) X inX3 hP 1 (by decide) (zcC_1 _ _ _ _ _ _) rfl 0 (by decide) rfl (by decide +kernel) rfl dX6_odds_58 ?_
              refine lv_if_gt (tgt := 68) hx hb dX6_odds_61 (by decide) (fun c11 => ?_) (fun c11 => ?_)
              · have h := zif_t h c11
                refine lv_aload_n hx hb dX6_odds_68 rfl (lv_at hl 0 rfl) ?_
                refine z_get (C := RX6) (T := TX6) (N := 12) X inX6 hP 0 (by decide) (zcC_0 _ _ _ _ _ _) rfl 3 (by decide) rfl (by decide +kernel) rfl dX6_odds_69 ?_
                obtain ⟨u12, s12, e12, h⟩ := zb_some h
                refine z_callv hS (z_runV (As := []) (rest := []) X hG hA hE hP hS 19 (kX0_lookAtSheets (l := l) (D := D) (a := a) (cI := cI) (cJ := cJ) (cC := cC) (adK := adK) (adV := adV) e12 _) (cwV 0 hts gX6_odds_X0_lookAtSheets rfl rfl rfl (by decide +kernel) ⟨Nat.le_of_ble_eq_true rfl, Nat.le_of_ble_eq_true rfl⟩) (by decide) (zcC_19 _ _ _ _ _ _) rfl rfl rfl hl.1 rfl (Nat.le_of_ble_eq_true rfl) dX6_odds_72) (fun H locs hP hS => ?_)
                refine lv_iconst (v := 0) hx hb dX6_odds_75 (by decide) ?_
                refine lv_istore (lv' := [(8, .int (0 : Int32)), (0, .ref (a 0)), (1, .int x1), (2, .int x2), (3, .int x3), (4, .int x4), (5, .int x5), (6, .int x6), (7, .int x7)]) hx hb dX6_odds_76 hl (by decide) rfl (fun ls hl => ?_)
                refine lv_iconst (v := 0) hx hb dX6_odds_78 (by decide) ?_
                refine lv_istore (lv' := [(9, .int (0 : Int32)), (8, .int (0 : Int32)), (0, .ref (a 0)), (1, .int x1), (2, .int x2), (3, .int x3), (4, .int x4), (5, .int x5), (6, .int x6), (7, .int x7)]) hx hb dX6_odds_79 hl (by decide) rfl (fun ls hl => ?_)
                exact w81  zN (x1) (x2) (x3) (x4) (x5) (x6) (x7) ((0 : Int32)) ((0 : Int32)) (s12) _ _ _ h hP hS (lv_sub hl [2, 3, 4, 5, 6, 7, 8, 9, 1, 0] rfl)
              · have h := zif_f h c11
                refine lv_ldc2 (own := RX6) (index := 160) (v := -9223372036854775808) hx hb hown (hts _ (by decide +kernel)) dX6_odds_64 ?_
                exact z_lret X hP hS hr hlocks h dX6_odds_67
            · have h := zif_t h c10
              refine lv_ldc2 (own := RX6) (index := 160) (v := -9223372036854775808) hx hb hown (hts _ (by decide +kernel)) dX6_odds_50 ?_
              exact z_lret X hP hS hr hlocks h dX6_odds_53
      · have h := zif_f h c4
        refine lv_ldc2 (own := RX6) (index := 160) (v := -9223372036854775808) hx hb hown (hts _ (by decide +kernel)) dX6_odds_19 ?_
        exact z_lret X hP hS hr hlocks h dX6_odds_22
abbrev rmX2_write : Room := { frames := 0, cells := 0, slots := 0, locals := 0 }
set_option maxHeartbeats 4000000 in
set_option maxRecDepth 100000 in
theorem kX2_write {l : Launch} {D : va_G} {a : Nat → Nat} {cI cJ cC : ClassId} {adK adV : Nat → Nat} {x1 : Int32} {s τ : ZS} {r : Unit} (h : fX2_write x1 s = some (r, τ)) : zMv (zcC a cI cJ cC) 41 a D [(cI, .int), (cJ, .long)] (zEC adK adV) l yX2_write wsX2_write rmX2_write [.ref (a 32), .int x1] s r τ := by
  refine z_start (cc := cX2_write) (maxL := 2) (ret := none) RX2 rfl (by decide) rfl (Nat.le_of_ble_eq_true rfl) ?_
  intro p e st m args below meth c ls H locs X hr hlocks hA hE hP hS hl
  obtain ⟨hx, hb, hml, hown, hts, -⟩ := id X
  have hG := zEC_good adK adV
  have inX2 : ∀ w ∈ u_ws RX2 TX2 2, w ∈ wsX2_write := by decide +kernel
  have hl : lv_has ls 2 [(0, .ref (a 32)), (1, .int x1)] := hl
  refine lv_aload_n hx hb dX2_write_0 rfl (lv_at hl 0 rfl) ?_
  refine z_get (C := RX2) (T := TX2) (N := 2) X inX2 hP 32 (by decide) (zcC_32 _ _ _ _ _ _) rfl 1 (by decide) rfl (by decide +kernel) rfl dX2_write_1 ?_
  refine lv_bipush (v := 47) hx hb dX2_write_4 (by decide) ?_
  refine lv_icmp_lt (tgt := 10) hx hb dX2_write_6 (by decide) (fun c1 => ?_) (fun c1 => ?_)
  · have h := zif_t h c1
    refine lv_aload_n hx hb dX2_write_10 rfl (lv_at hl 0 rfl) ?_
    refine z_get (C := RX2) (T := TX2) (N := 2) X inX2 hP 32 (by decide) (zcC_32 _ _ _ _ _ _) rfl 0 (by decide) rfl (by decide +kernel) rfl dX2_write_11 ?_
    refine lv_aload_n hx hb dX2_write_14 rfl (lv_at hl 0 rfl) ?_
    refine z_get (C := RX2) (T := TX2) (N := 2) X inX2 hP 32 (by decide) (zcC_32 _ _ _ _ _ _) rfl 1 (by decide) rfl (by decide +kernel) rfl dX2_write_15 ?_
    refine lv_iload_n hx hb dX2_write_18 rfl (lv_at hl 1 rfl) ?_
    obtain ⟨g2, h⟩ := zg_some h
    refine z_iast X hA hP hS 33 0 (by decide) (zcC_33 _ _ _ _) rfl g2 dX2_write_19 (fun H locs hP hS => ?_)
    refine lv_aload_n hx hb dX2_write_20 rfl (lv_at hl 0 rfl) ?_
    refine lv_dup hx hb dX2_write_21 rfl ?_
    refine z_get (C := RX2) (T := TX2) (N := 2) X inX2 hP 32 (by decide) (zcC_32 _ _ _ _ _ _) rfl 1 (by decide) rfl (by decide +kernel) rfl dX2_write_22 ?_
    refine lv_iconst (v := 1) hx hb dX2_write_25 (by decide) ?_
    refine lv_iadd hx hb dX2_write_26 ?_
    refine z_put (ty := .int) (x := ((((zI s 33 (((s).1 32 1)).toNatClampNeg x1)).1 32 1) + (1 : Int32))) (C := RX2) (T := TX2) (N := 2) X inX2 tyX2 tyX2_ok nmX2 hA hP hS 32 (by decide) (zcC_32 _ _ _ _ _ _) rfl 1 (by decide) rfl (by decide +kernel) rfl (by decide +kernel) rfl rfl (Nat.le_of_ble_eq_true rfl) rfl dX2_write_27 (fun H locs hP hS => ?_)
    exact z_vret X hP hS hr hlocks h dX2_write_30
  · have h := zif_f h c1
    exact z_vret X hP hS hr hlocks h dX2_write_9
abbrev rmX2_spellSheet : Room := { frames := 4, cells := 0, slots := 0, locals := 85 }
set_option maxHeartbeats 4000000 in
set_option maxRecDepth 100000 in
theorem kX2_spellSheet {l : Launch} {D : va_G} {a : Nat → Nat} {cI cJ cC : ClassId} {adK adV : Nat → Nat} {x2 : Int32} {s τ : ZS} {r : Unit} (h : fX2_spellSheet x2 s = some (r, τ)) : zMv (zcC a cI cJ cC) 41 a D [(cI, .int), (cJ, .long)] (zEC adK adV) l yX2_spellSheet wsX2_spellSheet rmX2_spellSheet [.ref (a 32), .ref (a 1), .int x2] s r τ := by
  refine z_start (cc := cX2_spellSheet) (maxL := 5) (ret := none) RX2 rfl (by decide) rfl (Nat.le_of_ble_eq_true rfl) ?_
  intro p e st m args below meth c ls H locs X hr hlocks hA hE hP hS hl
  obtain ⟨hx, hb, hml, hown, hts, -⟩ := id X
  have hG := zEC_good adK adV
  have inX3 : ∀ w ∈ u_ws RX3 TX3 10, w ∈ wsX2_spellSheet := by decide +kernel
  have w22 : ∀  (n : Nat) (x2 : Int32) (x3 : Nat) (x4 : Int32) (s : ZS) (H : Heap) (locs : List Loc) (ls : Array Slot), fX2_spellSheet_22n  n (x2, x3, x4, s) = some (r, τ) → va_P D vwCl (zW (zcC a cI cJ cC) 41 a s) H → va_S (zF 41 a st.heap.size) st.heap H locs → lv_has ls 5 [(0, .ref (a 32)), (1, .ref (a 1)), (2, .int x2), (3, .ref (adK x3)), (4, .int x4)] → W p l e rmX2_spellSheet st m args below meth c H locs 0 0 (MQ below (va_Qv (fun (τ' : ZS) => τ' = τ) (zPost (zcC a cI cJ cC) 41 a D [(cI, .int), (cJ, .long)]) (zF 41 a st.heap.size)) args st 0 0 (zF 41 a st.heap.size)) (F0 m 22 ls []) := by
    intro  n
    induction n with
    | zero => intro x2 x3 x4 s H locs ls h; exact zloop_0 h
    | succ n ih =>
      intro x2 x3 x4 s H locs ls h hP hS hl
      have h : fX2_spellSheet_22b  (fun x2 x3 x4 s => fX2_spellSheet_22n  n (x2, x3, x4, s)) x2 x3 x4 s = some (r, τ) := h
      refine lv_iload hx hb dX2_spellSheet_22 (lv_at hl 4 rfl) ?_
      refine lv_aload_n hx hb dX2_spellSheet_24 rfl (lv_at hl 3 rfl) ?_
      obtain ⟨u1, s1, e1, h⟩ := zb_some h
      refine z_calli hS (z_runVr (As := []) (rest := [.int x4]) X hG hA hE hP hS (cJlen (l := l) (D := D) (a := a) (cI := cI) (cJ := cJ) (cC := cC) (adK := adK) (adV := adV) e1 _) (cwV 0 hts gX2_spellSheet_J0_length_8abf5 rfl rfl rfl (by decide +kernel) ⟨Nat.le_of_ble_eq_true rfl, Nat.le_of_ble_eq_true rfl⟩) (vk_recv hE.2.1 (fJlen_w e1) hS) rfl hl.1 rfl (Nat.le_of_ble_eq_true rfl) dX2_spellSheet_25) (fun H locs hP hS => ?_)
      refine lv_icmp_ge (tgt := 47) hx hb dX2_spellSheet_28 (by decide) (fun c2 => ?_) (fun c2 => ?_)
      · have h := zif_t h c2
        refine lv_aload_n hx hb dX2_spellSheet_47 rfl (lv_at hl 0 rfl) ?_
        refine lv_bipush (v := 48) hx hb dX2_spellSheet_48 (by decide) ?_
        refine lv_aload_n hx hb dX2_spellSheet_50 rfl (lv_at hl 1 rfl) ?_
        refine z_get (C := RX3) (T := TX3) (N := 10) X inX3 hP 1 (by decide) (zcC_1 _ _ _ _ _ _) rfl 2 (by decide) rfl (by decide +kernel) rfl dX2_spellSheet_51 ?_
        refine lv_iload_n hx hb dX2_spellSheet_54 rfl (lv_at hl 2 rfl) ?_
        obtain ⟨g3, h⟩ := zg_some h
        refine z_iald X hP 3 0 (by decide) (zcC_3 _ _ _ _ _ _) rfl g3 dX2_spellSheet_55 ?_
        refine lv_iadd hx hb dX2_spellSheet_56 ?_
        obtain ⟨u4, s4, e4, h⟩ := zb_some h
        refine z_callv hS (z_runV (As := [.int ((48 : Int32) + ((s1).1 3 (x2).toNatClampNeg))]) (rest := []) X hG hA hE hP hS 32 (kX2_write (l := l) (D := D) (a := a) (cI := cI) (cJ := cJ) (cC := cC) (adK := adK) (adV := adV) e4 _) (cwV 1 hts gX2_spellSheet_X2_write rfl rfl rfl (by decide +kernel) ⟨Nat.le_of_ble_eq_true rfl, Nat.le_of_ble_eq_true rfl⟩) (by decide) (zcC_32 _ _ _ _ _ _) rfl rfl rfl hl.1 rfl (Nat.le_of_ble_eq_true rfl) dX2_spellSheet_57) (fun H locs hP hS => ?_)
        exact z_vret X hP hS hr hlocks h dX2_spellSheet_60
      · have h := zif_f h c2
        refine lv_aload_n hx hb dX2_spellSheet_31 rfl (lv_at hl 0 rfl) ?_
        refine lv_aload_n hx hb dX2_spellSheet_32 rfl (lv_at hl 3 rfl) ?_
        refine lv_iload hx hb dX2_spellSheet_33 (lv_at hl 4 rfl) ?_
        obtain ⟨u5, s5, e5, h⟩ := zb_some h
        refine z_calli hS (z_runVr (As := [.int x4]) (rest := [.ref (a 32)]) X hG hA hE hP hS (cJcat (l := l) (D := D) (a := a) (cI := cI) (cJ := cJ) (cC := cC) (adK := adK) (adV := adV) e5 _) (cwV 1 hts gX2_spellSheet_J0_charAt_5068e rfl rfl rfl (by decide +kernel) ⟨Nat.le_of_ble_eq_true rfl, Nat.le_of_ble_eq_true rfl⟩) (vk_recv hE.2.1 (fJcat_w e5) hS) rfl hl.1 rfl (Nat.le_of_ble_eq_true rfl) dX2_spellSheet_35) (fun H locs hP hS => ?_)
        obtain ⟨u6, s6, e6, h⟩ := zb_some h
        refine z_callv hS (z_runV (As := [.int u5]) (rest := []) X hG hA hE hP hS 32 (kX2_write (l := l) (D := D) (a := a) (cI := cI) (cJ := cJ) (cC := cC) (adK := adK) (adV := adV) e6 _) (cwV 1 hts gX2_spellSheet_X2_write rfl rfl rfl (by decide +kernel) ⟨Nat.le_of_ble_eq_true rfl, Nat.le_of_ble_eq_true rfl⟩) (by decide) (zcC_32 _ _ _ _ _ _) rfl rfl rfl hl.1 rfl (Nat.le_of_ble_eq_true rfl) dX2_spellSheet_38) (fun H locs hP hS => ?_)
        refine lv_iinc (v := (x4 + (1 : Int32))) (lv' := [(4, .int (x4 + (1 : Int32))), (0, .ref (a 32)), (1, .ref (a 1)), (2, .int x2), (3, .ref (adK x3))]) hx hb dX2_spellSheet_41 hl (k := 4) rfl rfl (by decide) rfl (fun ls hl => ?_)
        refine lv_goto (tgt := 22) hx hb dX2_spellSheet_44 (by decide) ?_
        exact ih (x2) (x3) ((x4 + (1 : Int32))) (s6) _ _ _ h hP hS (lv_sub hl [1, 2, 3, 4, 0] rfl)
  have hl : lv_has ls 5 [(0, .ref (a 32)), (1, .ref (a 1)), (2, .int x2)] := hl
  refine lv_aload_n hx hb dX2_spellSheet_0 rfl (lv_at hl 1 rfl) ?_
  refine lv_iload_n hx hb dX2_spellSheet_1 rfl (lv_at hl 2 rfl) ?_
  obtain ⟨u1, s1, e1, h⟩ := zb_some h
  refine z_calli hS (z_runV (As := [.int x2]) (rest := []) X hG hA hE hP hS 1 (kX3_hasSheet (l := l) (D := D) (a := a) (cI := cI) (cJ := cJ) (cC := cC) (adK := adK) (adV := adV) e1 _) (cwV 1 hts gX2_spellSheet_X3_hasSheet rfl rfl rfl (by decide +kernel) ⟨Nat.le_of_ble_eq_true rfl, Nat.le_of_ble_eq_true rfl⟩) (by decide) (zcC_1 _ _ _ _ _ _) rfl rfl rfl hl.1 rfl (Nat.le_of_ble_eq_true rfl) dX2_spellSheet_2) (fun H locs hP hS => ?_)
  refine lv_if_ne (tgt := 9) hx hb dX2_spellSheet_5 (by decide) (fun c2 => ?_) (fun c2 => ?_)
  · have h := zif_f h c2
    refine lv_aload_n hx hb dX2_spellSheet_9 rfl (lv_at hl 1 rfl) ?_
    refine z_get (C := RX3) (T := TX3) (N := 10) X inX3 hP 1 (by decide) (zcC_1 _ _ _ _ _ _) rfl 1 (by decide) rfl (by decide +kernel) rfl dX2_spellSheet_10 ?_
    refine lv_iload_n hx hb dX2_spellSheet_13 rfl (lv_at hl 2 rfl) ?_
    obtain ⟨g3, h⟩ := zg_some h
    refine z_iald X hP 2 0 (by decide) (zcC_2 _ _ _ _ _ _) rfl g3 dX2_spellSheet_14 ?_
    obtain ⟨u4, s4, e4, h⟩ := zb_some h
    refine z_callr hS (z_runSN (As := [.int ((s1).1 2 (x2).toNatClampNeg)]) (rest := []) X hG hA hE hP hS (kX6_wordOf (l := l) (D := D) (a := a) (cI := cI) (cJ := cJ) (cC := cC) (adK := adK) (adV := adV) e4 _) (va_cnB 1 hts gX2_spellSheet_X6_wordOf_n44 rfl rfl rfl (zE_nest hE 7 rfl) (hts (.initialized RX6) (by decide +kernel)) (by decide +kernel) ⟨Nat.le_of_ble_eq_true rfl, Nat.le_of_ble_eq_true rfl⟩) (by decide +kernel) rfl hl.1 rfl (Nat.le_of_ble_eq_true rfl) dX2_spellSheet_15) (fun H locs hP hS => ?_)
    refine lv_astore_n (lv' := [(3, .ref (adK u4)), (0, .ref (a 32)), (1, .ref (a 1)), (2, .int x2)]) hx hb dX2_spellSheet_18 rfl hl (by decide) rfl (fun ls hl => ?_)
    refine lv_iconst (v := 0) hx hb dX2_spellSheet_19 (by decide) ?_
    refine lv_istore (lv' := [(4, .int (0 : Int32)), (3, .ref (adK u4)), (0, .ref (a 32)), (1, .ref (a 1)), (2, .int x2)]) hx hb dX2_spellSheet_20 hl (by decide) rfl (fun ls hl => ?_)
    exact w22  zN (x2) (u4) ((0 : Int32)) (s4) _ _ _ h hP hS (lv_sub hl [2, 3, 4, 1, 0] rfl)
  · have h := zif_t h c2
    exact z_vret X hP hS hr hlocks h dX2_spellSheet_8
abbrev rmX2_spellStack : Room := { frames := 5, cells := 0, slots := 0, locals := 109 }
set_option maxHeartbeats 4000000 in
set_option maxRecDepth 100000 in
theorem kX2_spellStack {l : Launch} {D : va_G} {a : Nat → Nat} {cI cJ cC : ClassId} {adK adV : Nat → Nat} {x2 : Int32} {s τ : ZS} {r : Unit} (h : fX2_spellStack x2 s = some (r, τ)) : zMv (zcC a cI cJ cC) 41 a D [(cI, .int), (cJ, .long)] (zEC adK adV) l yX2_spellStack wsX2_spellStack rmX2_spellStack [.ref (a 32), .ref (a 1), .int x2] s r τ := by
  refine z_start (cc := cX2_spellStack) (maxL := 4) (ret := none) RX2 rfl (by decide) rfl (Nat.le_of_ble_eq_true rfl) ?_
  intro p e st m args below meth c ls H locs X hr hlocks hA hE hP hS hl
  obtain ⟨hx, hb, hml, hown, hts, -⟩ := id X
  have hG := zEC_good adK adV
  have inX2 : ∀ w ∈ u_ws RX2 TX2 2, w ∈ wsX2_spellStack := by decide +kernel
  have inX3 : ∀ w ∈ u_ws RX3 TX3 10, w ∈ wsX2_spellStack := by decide +kernel
  have w51 : ∀ (k31 : Int32 → Int32 → ZS → Option (Unit × ZS)) (hk31 : ∀ (x2 : Int32) (x3 : Int32) (s : ZS) (H : Heap) (locs : List Loc) (ls : Array Slot), k31 x2 x3 s = some (r, τ) → va_P D vwCl (zW (zcC a cI cJ cC) 41 a s) H → va_S (zF 41 a st.heap.size) st.heap H locs → lv_has ls 4 [(0, .ref (a 32)), (1, .ref (a 1)), (2, .int x2), (3, .int x3)] → W p l e rmX2_spellStack st m args below meth c H locs 0 0 (MQ below (va_Qv (fun (τ' : ZS) => τ' = τ) (zPost (zcC a cI cJ cC) 41 a D [(cI, .int), (cJ, .long)]) (zF 41 a st.heap.size)) args st 0 0 (zF 41 a st.heap.size)) (F0 m 31 ls [])) (x2 : Int32) (x3 : Int32) (s : ZS) (H : Heap) (locs : List Loc) (ls : Array Slot), fX2_spellStack_51 k31 x2 x3 s = some (r, τ) → va_P D vwCl (zW (zcC a cI cJ cC) 41 a s) H → va_S (zF 41 a st.heap.size) st.heap H locs → lv_has ls 4 [(0, .ref (a 32)), (1, .ref (a 1)), (2, .int x2), (3, .int x3)] → W p l e rmX2_spellStack st m args below meth c H locs 0 0 (MQ below (va_Qv (fun (τ' : ZS) => τ' = τ) (zPost (zcC a cI cJ cC) 41 a D [(cI, .int), (cJ, .long)]) (zF 41 a st.heap.size)) args st 0 0 (zF 41 a st.heap.size)) (F0 m 51 ls []) := by
    intro k31 hk31 x2 x3 s H locs ls h hP hS hl
    refine lv_aload_n hx hb dX2_spellStack_51 rfl (lv_at hl 0 rfl) ?_
    refine lv_aload_n hx hb dX2_spellStack_52 rfl (lv_at hl 1 rfl) ?_
    refine lv_aload_n hx hb dX2_spellStack_53 rfl (lv_at hl 1 rfl) ?_
    refine lv_iload_n hx hb dX2_spellStack_54 rfl (lv_at hl 2 rfl) ?_
    refine lv_iload_n hx hb dX2_spellStack_55 rfl (lv_at hl 3 rfl) ?_
    obtain ⟨u1, s1, e1, h⟩ := zb_some h
    refine z_calli hS (z_runV (As := [.int x2, .int x3]) (rest := [.ref (a 1), .ref (a 32)]) X hG hA hE hP hS 1 (kX3_sheetAt (l := l) (D := D) (a := a) (cI := cI) (cJ := cJ) (cC := cC) (adK := adK) (adV := adV) e1 _) (cwV 2 hts gX2_spellStack_X3_sheetAt rfl rfl rfl (by decide +kernel) ⟨Nat.le_of_ble_eq_true rfl, Nat.le_of_ble_eq_true rfl⟩) (by decide) (zcC_1 _ _ _ _ _ _) rfl rfl rfl hl.1 rfl (Nat.le_of_ble_eq_true rfl) dX2_spellStack_56) (fun H locs hP hS => ?_)
    obtain ⟨u2, s2, e2, h⟩ := zb_some h
    refine z_callv hS (z_runV (As := [.ref (a 1), .int u1]) (rest := []) X hG hA hE hP hS 32 (kX2_spellSheet (l := l) (D := D) (a := a) (cI := cI) (cJ := cJ) (cC := cC) (adK := adK) (adV := adV) e2 _) (cwV 2 hts gX2_spellStack_X2_spellSheet rfl rfl rfl (by decide +kernel) ⟨Nat.le_of_ble_eq_true rfl, Nat.le_of_ble_eq_true rfl⟩) (by decide) (zcC_32 _ _ _ _ _ _) rfl rfl rfl hl.1 rfl (Nat.le_of_ble_eq_true rfl) dX2_spellStack_59) (fun H locs hP hS => ?_)
    refine lv_iinc (v := (x3 + (1 : Int32))) (lv' := [(3, .int (x3 + (1 : Int32))), (0, .ref (a 32)), (1, .ref (a 1)), (2, .int x2)]) hx hb dX2_spellStack_62 hl (k := 3) rfl rfl (by decide) rfl (fun ls hl => ?_)
    refine lv_goto (tgt := 31) hx hb dX2_spellStack_65 (by decide) ?_
    exact hk31 (x2) ((x3 + (1 : Int32))) (s2) _ _ _ h hP hS (lv_sub hl [1, 2, 3, 0] rfl)
  have w31 : ∀  (n : Nat) (x2 : Int32) (x3 : Int32) (s : ZS) (H : Heap) (locs : List Loc) (ls : Array Slot), fX2_spellStack_31n  n (x2, x3, s) = some (r, τ) → va_P D vwCl (zW (zcC a cI cJ cC) 41 a s) H → va_S (zF 41 a st.heap.size) st.heap H locs → lv_has ls 4 [(0, .ref (a 32)), (1, .ref (a 1)), (2, .int x2), (3, .int x3)] → W p l e rmX2_spellStack st m args below meth c H locs 0 0 (MQ below (va_Qv (fun (τ' : ZS) => τ' = τ) (zPost (zcC a cI cJ cC) 41 a D [(cI, .int), (cJ, .long)]) (zF 41 a st.heap.size)) args st 0 0 (zF 41 a st.heap.size)) (F0 m 31 ls []) := by
    intro  n
    induction n with
    | zero => intro x2 x3 s H locs ls h; exact zloop_0 h
    | succ n ih =>
      intro x2 x3 s H locs ls h hP hS hl
      have h : fX2_spellStack_31b  (fun x2 x3 s => fX2_spellStack_31n  n (x2, x3, s)) x2 x3 s = some (r, τ) := h
      refine lv_iload_n hx hb dX2_spellStack_31 rfl (lv_at hl 3 rfl) ?_
      refine lv_aload_n hx hb dX2_spellStack_32 rfl (lv_at hl 1 rfl) ?_
      refine z_get (C := RX3) (T := TX3) (N := 10) X inX3 hP 1 (by decide) (zcC_1 _ _ _ _ _ _) rfl 5 (by decide) rfl (by decide +kernel) rfl dX2_spellStack_33 ?_
      refine lv_iload_n hx hb dX2_spellStack_36 rfl (lv_at hl 2 rfl) ?_
      obtain ⟨g1, h⟩ := zg_some h
      refine z_iald X hP 5 0 (by decide) (zcC_5 _ _ _ _ _ _) rfl g1 dX2_spellStack_37 ?_
      refine lv_icmp_ge (tgt := 68) hx hb dX2_spellStack_38 (by decide) (fun c2 => ?_) (fun c2 => ?_)
      · have h := zif_t h c2
        exact z_vret X hP hS hr hlocks h dX2_spellStack_68
      · have h := zif_f h c2
        refine lv_iload_n hx hb dX2_spellStack_41 rfl (lv_at hl 3 rfl) ?_
        refine lv_if_le (tgt := 51) hx hb dX2_spellStack_42 (by decide) (fun c3 => ?_) (fun c3 => ?_)
        · have h := zif_t h c3
          exact w51 (fun x2 x3 s => fX2_spellStack_31n  n (x2, x3, s)) (fun x2 x3 s H locs ls h hP hS hl => ih x2 x3 s H locs ls h hP hS hl)  (x2) (x3) (s) _ _ _ h hP hS (lv_sub hl [0, 1, 2, 3] rfl)
        · have h := zif_f h c3
          refine lv_aload_n hx hb dX2_spellStack_45 rfl (lv_at hl 0 rfl) ?_
          refine lv_bipush (v := 47) hx hb dX2_spellStack_46 (by decide) ?_
          obtain ⟨u4, s4, e4, h⟩ := zb_some h
          refine z_callv hS (z_runV (As := [.int (47 : Int32)]) (rest := []) X hG hA hE hP hS 32 (kX2_write (l := l) (D := D) (a := a) (cI := cI) (cJ := cJ) (cC := cC) (adK := adK) (adV := adV) e4 _) (cwV 1 hts gX2_spellStack_X2_write rfl rfl rfl (by decide +kernel) ⟨Nat.le_of_ble_eq_true rfl, Nat.le_of_ble_eq_true rfl⟩) (by decide) (zcC_32 _ _ _ _ _ _) rfl rfl rfl hl.1 rfl (Nat.le_of_ble_eq_true rfl) dX2_spellStack_48) (fun H locs hP hS => ?_)
          exact w51 (fun x2 x3 s => fX2_spellStack_31n  n (x2, x3, s)) (fun x2 x3 s H locs ls h hP hS hl => ih x2 x3 s H locs ls h hP hS hl)  (x2) (x3) (s4) _ _ _ h hP hS (lv_sub hl [0, 1, 2, 3] rfl)
  have w29 : ∀  (x2 : Int32) (s : ZS) (H : Heap) (locs : List Loc) (ls : Array Slot), fX2_spellStack_29  x2 s = some (r, τ) → va_P D vwCl (zW (zcC a cI cJ cC) 41 a s) H → va_S (zF 41 a st.heap.size) st.heap H locs → lv_has ls 4 [(0, .ref (a 32)), (1, .ref (a 1)), (2, .int x2)] → W p l e rmX2_spellStack st m args below meth c H locs 0 0 (MQ below (va_Qv (fun (τ' : ZS) => τ' = τ) (zPost (zcC a cI cJ cC) 41 a D [(cI, .int), (cJ, .long)]) (zF 41 a st.heap.size)) args st 0 0 (zF 41 a st.heap.size)) (F0 m 29 ls []) := by
    intro  x2 s H locs ls h hP hS hl
    refine lv_iconst (v := 0) hx hb dX2_spellStack_29 (by decide) ?_
    refine lv_istore_n (lv' := [(3, .int (0 : Int32)), (0, .ref (a 32)), (1, .ref (a 1)), (2, .int x2)]) hx hb dX2_spellStack_30 rfl hl (by decide) rfl (fun ls hl => ?_)
    exact w31  zN (x2) ((0 : Int32)) (s) _ _ _ h hP hS (lv_sub hl [1, 2, 3, 0] rfl)
  have hl : lv_has ls 4 [(0, .ref (a 32)), (1, .ref (a 1)), (2, .int x2)] := hl
  refine lv_aload_n hx hb dX2_spellStack_0 rfl (lv_at hl 0 rfl) ?_
  refine lv_iconst (v := 0) hx hb dX2_spellStack_1 (by decide) ?_
  refine z_put (ty := .int) (x := (0 : Int32)) (C := RX2) (T := TX2) (N := 2) X inX2 tyX2 tyX2_ok nmX2 hA hP hS 32 (by decide) (zcC_32 _ _ _ _ _ _) rfl 1 (by decide) rfl (by decide +kernel) rfl (by decide +kernel) rfl rfl (Nat.le_of_ble_eq_true rfl) rfl dX2_spellStack_2 (fun H locs hP hS => ?_)
  refine lv_aload_n hx hb dX2_spellStack_5 rfl (lv_at hl 1 rfl) ?_
  refine lv_iload_n hx hb dX2_spellStack_6 rfl (lv_at hl 2 rfl) ?_
  obtain ⟨u1, s1, e1, h⟩ := zb_some h
  refine z_calli hS (z_runV (As := [.int x2]) (rest := []) X hG hA hE hP hS 1 (kX3_hasStack (l := l) (D := D) (a := a) (cI := cI) (cJ := cJ) (cC := cC) (adK := adK) (adV := adV) e1 _) (cwV 1 hts gX2_spellStack_X3_hasStack rfl rfl rfl (by decide +kernel) ⟨Nat.le_of_ble_eq_true rfl, Nat.le_of_ble_eq_true rfl⟩) (by decide) (zcC_1 _ _ _ _ _ _) rfl rfl rfl hl.1 rfl (Nat.le_of_ble_eq_true rfl) dX2_spellStack_7) (fun H locs hP hS => ?_)
  refine lv_if_ne (tgt := 14) hx hb dX2_spellStack_10 (by decide) (fun c2 => ?_) (fun c2 => ?_)
  · have h := zif_f h c2
    refine lv_aload_n hx hb dX2_spellStack_14 rfl (lv_at hl 1 rfl) ?_
    refine z_get (C := RX3) (T := TX3) (N := 10) X inX3 hP 1 (by decide) (zcC_1 _ _ _ _ _ _) rfl 5 (by decide) rfl (by decide +kernel) rfl dX2_spellStack_15 ?_
    refine lv_iload_n hx hb dX2_spellStack_18 rfl (lv_at hl 2 rfl) ?_
    obtain ⟨g3, h⟩ := zg_some h
    refine z_iald X hP 5 0 (by decide) (zcC_5 _ _ _ _ _ _) rfl g3 dX2_spellStack_19 ?_
    refine lv_if_ne (tgt := 29) hx hb dX2_spellStack_20 (by decide) (fun c4 => ?_) (fun c4 => ?_)
    · have h := zif_f h c4
      exact w29   (x2) (s1) _ _ _ h hP hS (lv_sub hl [0, 1, 2] rfl)
    · have h := zif_t h c4
      refine lv_aload_n hx hb dX2_spellStack_23 rfl (lv_at hl 0 rfl) ?_
      refine lv_bipush (v := 45) hx hb dX2_spellStack_24 (by decide) ?_
      obtain ⟨u5, s5, e5, h⟩ := zb_some h
      refine z_callv hS (z_runV (As := [.int (45 : Int32)]) (rest := []) X hG hA hE hP hS 32 (kX2_write (l := l) (D := D) (a := a) (cI := cI) (cJ := cJ) (cC := cC) (adK := adK) (adV := adV) e5 _) (cwV 1 hts gX2_spellStack_X2_write rfl rfl rfl (by decide +kernel) ⟨Nat.le_of_ble_eq_true rfl, Nat.le_of_ble_eq_true rfl⟩) (by decide) (zcC_32 _ _ _ _ _ _) rfl rfl rfl hl.1 rfl (Nat.le_of_ble_eq_true rfl) dX2_spellStack_26) (fun H locs hP hS => ?_)
      exact w29   (x2) (s5) _ _ _ h hP hS (lv_sub hl [0, 1, 2] rfl)
  · have h := zif_t h c2
    exact z_vret X hP hS hr hlocks h dX2_spellStack_13
abbrev rmX6_spell : Room := { frames := 6, cells := 0, slots := 0, locals := 132 }
set_option maxHeartbeats 4000000 in
set_option maxRecDepth 100000 in
theorem kX6_spell {l : Launch} {D : va_G} {a : Nat → Nat} {cI cJ cC : ClassId} {adK adV : Nat → Nat} {x1 : Int32} {s τ : ZS} {r : Int32} (h : fX6_spell x1 s = some (r, τ)) : zMi (zcC a cI cJ cC) 41 a D [(cI, .int), (cJ, .long)] (zEC adK adV) l yX6_spell wsX6_spell rmX6_spell [.ref (a 0), .int x1] s r τ := by
  refine z_start (cc := cX6_spell) (maxL := 2) (ret := (some .int)) RX6 rfl (by decide) rfl (Nat.le_of_ble_eq_true rfl) ?_
  intro p e st m args below meth c ls H locs X hr hlocks hA hE hP hS hl
  obtain ⟨hx, hb, hml, hown, hts, -⟩ := id X
  have hG := zEC_good adK adV
  have inX2 : ∀ w ∈ u_ws RX2 TX2 2, w ∈ wsX6_spell := by decide +kernel
  have inX6 : ∀ w ∈ u_ws RX6 TX6 12, w ∈ wsX6_spell := by decide +kernel
  have hl : lv_has ls 2 [(0, .ref (a 0)), (1, .int x1)] := hl
  refine lv_aload_n hx hb dX6_spell_0 rfl (lv_at hl 0 rfl) ?_
  refine z_get (C := RX6) (T := TX6) (N := 12) X inX6 hP 0 (by decide) (zcC_0 _ _ _ _ _ _) rfl 0 (by decide) rfl (by decide +kernel) rfl dX6_spell_1 ?_
  refine lv_iload_n hx hb dX6_spell_4 rfl (lv_at hl 1 rfl) ?_
  obtain ⟨u1, s1, e1, h⟩ := zb_some h
  refine z_calli hS (z_runV (As := [.int x1]) (rest := []) X hG hA hE hP hS 1 (kX3_hasStack (l := l) (D := D) (a := a) (cI := cI) (cJ := cJ) (cC := cC) (adK := adK) (adV := adV) e1 _) (cwV 1 hts gX6_spell_X3_hasStack rfl rfl rfl (by decide +kernel) ⟨Nat.le_of_ble_eq_true rfl, Nat.le_of_ble_eq_true rfl⟩) (by decide) (zcC_1 _ _ _ _ _ _) rfl rfl rfl hl.1 rfl (Nat.le_of_ble_eq_true rfl) dX6_spell_5) (fun H locs hP hS => ?_)
  refine lv_if_ne (tgt := 13) hx hb dX6_spell_8 (by decide) (fun c2 => ?_) (fun c2 => ?_)
  · have h := zif_f h c2
    refine lv_aload_n hx hb dX6_spell_13 rfl (lv_at hl 0 rfl) ?_
    refine z_get (C := RX6) (T := TX6) (N := 12) X inX6 hP 0 (by decide) (zcC_0 _ _ _ _ _ _) rfl 6 (by decide) rfl (by decide +kernel) rfl dX6_spell_14 ?_
    refine lv_aload_n hx hb dX6_spell_17 rfl (lv_at hl 0 rfl) ?_
    refine z_get (C := RX6) (T := TX6) (N := 12) X inX6 hP 0 (by decide) (zcC_0 _ _ _ _ _ _) rfl 0 (by decide) rfl (by decide +kernel) rfl dX6_spell_18 ?_
    refine lv_iload_n hx hb dX6_spell_21 rfl (lv_at hl 1 rfl) ?_
    obtain ⟨u3, s3, e3, h⟩ := zb_some h
    refine z_callv hS (z_runV (As := [.ref (a 1), .int x1]) (rest := []) X hG hA hE hP hS 32 (kX2_spellStack (l := l) (D := D) (a := a) (cI := cI) (cJ := cJ) (cC := cC) (adK := adK) (adV := adV) e3 _) (cwV 2 hts gX6_spell_X2_spellStack rfl rfl rfl (by decide +kernel) ⟨Nat.le_of_ble_eq_true rfl, Nat.le_of_ble_eq_true rfl⟩) (by decide) (zcC_32 _ _ _ _ _ _) rfl rfl rfl hl.1 rfl (Nat.le_of_ble_eq_true rfl) dX6_spell_22) (fun H locs hP hS => ?_)
    refine lv_aload_n hx hb dX6_spell_25 rfl (lv_at hl 0 rfl) ?_
    refine z_get (C := RX6) (T := TX6) (N := 12) X inX6 hP 0 (by decide) (zcC_0 _ _ _ _ _ _) rfl 6 (by decide) rfl (by decide +kernel) rfl dX6_spell_26 ?_
    refine z_get (C := RX2) (T := TX2) (N := 2) X inX2 hP 32 (by decide) (zcC_32 _ _ _ _ _ _) rfl 1 (by decide) rfl (by decide +kernel) rfl dX6_spell_29 ?_
    exact z_iret X hP hS hr hlocks h dX6_spell_32
  · have h := zif_t h c2
    refine lv_iconst (v := -1) hx hb dX6_spell_11 (by decide) ?_
    exact z_iret X hP hS hr hlocks h dX6_spell_12
abbrev rmX6_paper : Room := { frames := 1, cells := 0, slots := 0, locals := 21 }
set_option maxHeartbeats 4000000 in
set_option maxRecDepth 100000 in
theorem kX6_paper {l : Launch} {D : va_G} {a : Nat → Nat} {cI cJ cC : ClassId} {adK adV : Nat → Nat} {x1 : Int32} {s τ : ZS} {r : Int32} (h : fX6_paper x1 s = some (r, τ)) : zMi (zcC a cI cJ cC) 41 a D [(cI, .int), (cJ, .long)] (zEC adK adV) l yX6_paper wsX6_paper rmX6_paper [.ref (a 0), .int x1] s r τ := by
  refine z_start (cc := cX6_paper) (maxL := 2) (ret := (some .int)) RX6 rfl (by decide) rfl (Nat.le_of_ble_eq_true rfl) ?_
  intro p e st m args below meth c ls H locs X hr hlocks hA hE hP hS hl
  obtain ⟨hx, hb, hml, hown, hts, -⟩ := id X
  have hG := zEC_good adK adV
  have inX2 : ∀ w ∈ u_ws RX2 TX2 2, w ∈ wsX6_paper := by decide +kernel
  have inX6 : ∀ w ∈ u_ws RX6 TX6 12, w ∈ wsX6_paper := by decide +kernel
  have hl : lv_has ls 2 [(0, .ref (a 0)), (1, .int x1)] := hl
  refine lv_iload_n hx hb dX6_paper_0 rfl (lv_at hl 1 rfl) ?_
  refine lv_aload_n hx hb dX6_paper_1 rfl (lv_at hl 0 rfl) ?_
  refine z_get (C := RX6) (T := TX6) (N := 12) X inX6 hP 0 (by decide) (zcC_0 _ _ _ _ _ _) rfl 6 (by decide) rfl (by decide +kernel) rfl dX6_paper_2 ?_
  refine z_get (C := RX2) (T := TX2) (N := 2) X inX2 hP 32 (by decide) (zcC_32 _ _ _ _ _ _) rfl 1 (by decide) rfl (by decide +kernel) rfl dX6_paper_5 ?_
  obtain ⟨u1, s1, e1, h⟩ := zb_some h
  refine z_calli hS (z_runS (As := [.int x1, .int ((s).1 32 1)]) (rest := []) X hG hA hE hP hS (kX6_within (l := l) (D := D) (a := a) (cI := cI) (cJ := cJ) (cC := cC) (adK := adK) (adV := adV) e1 _) (va_cwS 2 hts gX6_paper_X6_within rfl rfl rfl (by decide +kernel) ⟨Nat.le_of_ble_eq_true rfl, Nat.le_of_ble_eq_true rfl⟩) rfl hl.1 rfl (Nat.le_of_ble_eq_true rfl) dX6_paper_8) (fun H locs hP hS => ?_)
  refine lv_if_eq (tgt := 26) hx hb dX6_paper_11 (by decide) (fun c2 => ?_) (fun c2 => ?_)
  · have h := zif_t h c2
    refine lv_iconst (v := -1) hx hb dX6_paper_26 (by decide) ?_
    exact z_iret X hP hS hr hlocks h dX6_paper_27
  · have h := zif_f h c2
    refine lv_aload_n hx hb dX6_paper_14 rfl (lv_at hl 0 rfl) ?_
    refine z_get (C := RX6) (T := TX6) (N := 12) X inX6 hP 0 (by decide) (zcC_0 _ _ _ _ _ _) rfl 6 (by decide) rfl (by decide +kernel) rfl dX6_paper_15 ?_
    refine z_get (C := RX2) (T := TX2) (N := 2) X inX2 hP 32 (by decide) (zcC_32 _ _ _ _ _ _) rfl 0 (by decide) rfl (by decide +kernel) rfl dX6_paper_18 ?_
    refine lv_iload_n hx hb dX6_paper_21 rfl (lv_at hl 1 rfl) ?_
    obtain ⟨g3, h⟩ := zg_some h
    refine z_iald X hP 33 0 (by decide) (zcC_33 _ _ _ _ _ _) rfl g3 dX6_paper_22 ?_
    refine lv_goto (tgt := 27) hx hb dX6_paper_23 (by decide) ?_
    exact z_iret X hP hS hr hlocks h dX6_paper_27
abbrev rmX6_judge : Room := { frames := 5, cells := 0, slots := 0, locals := 114 }
set_option maxHeartbeats 4000000 in
set_option maxRecDepth 100000 in
theorem kX6_judge {l : Launch} {D : va_G} {a : Nat → Nat} {cI cJ cC : ClassId} {adK adV : Nat → Nat} {x1 : Int32} {x2 : Int32} {s τ : ZS} {r : Int32} (h : fX6_judge x1 x2 s = some (r, τ)) : zMi (zcC a cI cJ cC) 41 a D [(cI, .int), (cJ, .long)] (zEC adK adV) l yX6_judge wsX6_judge rmX6_judge [.ref (a 0), .int x1, .int x2] s r τ := by
  refine z_start (cc := cX6_judge) (maxL := 5) (ret := (some .int)) RX6 rfl (by decide) rfl (Nat.le_of_ble_eq_true rfl) ?_
  intro p e st m args below meth c ls H locs X hr hlocks hA hE hP hS hl
  obtain ⟨hx, hb, hml, hown, hts, -⟩ := id X
  have hG := zEC_good adK adV
  have inX1 : ∀ w ∈ u_ws RX1 TX1 2, w ∈ wsX6_judge := by decide +kernel
  have inX6 : ∀ w ∈ u_ws RX6 TX6 12, w ∈ wsX6_judge := by decide +kernel
  have w41 : ∀  (n : Nat) (x1 : Int32) (x2 : Int32) (x3 : Int32) (s : ZS) (H : Heap) (locs : List Loc) (ls : Array Slot), fX6_judge_41n  n (x1, x2, x3, s) = some (r, τ) → va_P D vwCl (zW (zcC a cI cJ cC) 41 a s) H → va_S (zF 41 a st.heap.size) st.heap H locs → lv_has ls 5 [(0, .ref (a 0)), (1, .int x1), (2, .int x2), (3, .int x3)] → W p l e rmX6_judge st m args below meth c H locs 0 0 (MQ below (va_Qi (fun (r' : Int32) (τ' : ZS) => r' = r ∧ τ' = τ) (zPost (zcC a cI cJ cC) 41 a D [(cI, .int), (cJ, .long)]) (zF 41 a st.heap.size)) args st 0 0 (zF 41 a st.heap.size)) (F0 m 41 ls []) := by
    intro  n
    induction n with
    | zero => intro x1 x2 x3 s H locs ls h; exact zloop_0 h
    | succ n ih =>
      intro x1 x2 x3 s H locs ls h hP hS hl
      have h : fX6_judge_41b  (fun x1 x2 x3 s => fX6_judge_41n  n (x1, x2, x3, s)) x1 x2 x3 s = some (r, τ) := h
      refine lv_iload_n hx hb dX6_judge_41 rfl (lv_at hl 3 rfl) ?_
      refine lv_aload_n hx hb dX6_judge_42 rfl (lv_at hl 0 rfl) ?_
      refine z_get (C := RX6) (T := TX6) (N := 12) X inX6 hP 0 (by decide) (zcC_0 _ _ _ _ _ _) rfl 7 (by decide) rfl (by decide +kernel) rfl dX6_judge_43 ?_
      refine z_get (C := RX1) (T := TX1) (N := 2) X inX1 hP 34 (by decide) (zcC_34 _ _ _ _ _ _) rfl 1 (by decide) rfl (by decide +kernel) rfl dX6_judge_46 ?_
      refine lv_iload_n hx hb dX6_judge_49 rfl (lv_at hl 1 rfl) ?_
      obtain ⟨g1, h⟩ := zg_some h
      refine z_iald X hP 36 0 (by decide) (zcC_36 _ _ _ _ _ _) rfl g1 dX6_judge_50 ?_
      refine lv_icmp_ge (tgt := 114) hx hb dX6_judge_51 (by decide) (fun c2 => ?_) (fun c2 => ?_)
      · have h := zif_t h c2
        refine lv_bipush (v := -5) hx hb dX6_judge_114 (by decide) ?_
        exact z_iret X hP hS hr hlocks h dX6_judge_116
      · have h := zif_f h c2
        refine lv_iload_n hx hb dX6_judge_54 rfl (lv_at hl 3 rfl) ?_
        refine lv_iconst (v := 3) hx hb dX6_judge_55 (by decide) ?_
        obtain ⟨g3, h⟩ := zg_some h
        refine lv_idiv hx hb dX6_judge_56 (zne_ne g3) ?_
        refine lv_istore (lv' := [(4, .int (x3 / (3 : Int32))), (0, .ref (a 0)), (1, .int x1), (2, .int x2), (3, .int x3)]) hx hb dX6_judge_57 hl (by decide) rfl (fun ls hl => ?_)
        refine lv_aload_n hx hb dX6_judge_59 rfl (lv_at hl 1 rfl) ?_
        refine z_get (C := RX6) (T := TX6) (N := 12) X inX6 hP 0 (by decide) (zcC_0 _ _ _ _ _ _) rfl 0 (by decide) rfl (by decide +kernel) rfl dX6_judge_60 ?_
        refine lv_iload hx hb dX6_judge_63 (lv_at hl 0 rfl) ?_
        obtain ⟨u4, s4, e4, h⟩ := zb_some h
        refine z_calli hS (z_runV (As := [.int (x3 / (3 : Int32))]) (rest := []) X hG hA hE hP hS 1 (kX3_hasStack (l := l) (D := D) (a := a) (cI := cI) (cJ := cJ) (cC := cC) (adK := adK) (adV := adV) e4 _) (cwV 1 hts gX6_judge_X3_hasStack rfl rfl rfl (by decide +kernel) ⟨Nat.le_of_ble_eq_true rfl, Nat.le_of_ble_eq_true rfl⟩) (by decide) (zcC_1 _ _ _ _ _ _) rfl rfl rfl hl.1 rfl (Nat.le_of_ble_eq_true rfl) dX6_judge_65) (fun H locs hP hS => ?_)
        refine lv_if_ne (tgt := 73) hx hb dX6_judge_68 (by decide) (fun c5 => ?_) (fun c5 => ?_)
        · have h := zif_f h c5
          refine lv_aload_n hx hb dX6_judge_73 rfl (lv_at hl 1 rfl) ?_
          refine z_get (C := RX6) (T := TX6) (N := 12) X inX6 hP 0 (by decide) (zcC_0 _ _ _ _ _ _) rfl 3 (by decide) rfl (by decide +kernel) rfl dX6_judge_74 ?_
          refine lv_iload hx hb dX6_judge_77 (lv_at hl 0 rfl) ?_
          obtain ⟨u6, s6, e6, h⟩ := zb_some h
          refine z_callv hS (z_runV (As := [.int (x3 / (3 : Int32))]) (rest := []) X hG hA hE hP hS 19 (kX0_pileStack (l := l) (D := D) (a := a) (cI := cI) (cJ := cJ) (cC := cC) (adK := adK) (adV := adV) e6 _) (cwV 1 hts gX6_judge_X0_pileStack rfl rfl rfl (by decide +kernel) ⟨Nat.le_of_ble_eq_true rfl, Nat.le_of_ble_eq_true rfl⟩) (by decide) (zcC_19 _ _ _ _ _ _) rfl rfl rfl hl.1 rfl (Nat.le_of_ble_eq_true rfl) dX6_judge_79) (fun H locs hP hS => ?_)
          refine lv_aload_n hx hb dX6_judge_82 rfl (lv_at hl 1 rfl) ?_
          refine z_get (C := RX6) (T := TX6) (N := 12) X inX6 hP 0 (by decide) (zcC_0 _ _ _ _ _ _) rfl 3 (by decide) rfl (by decide +kernel) rfl dX6_judge_83 ?_
          refine lv_iload_n hx hb dX6_judge_86 rfl (lv_at hl 3 rfl) ?_
          refine lv_iconst (v := 0) hx hb dX6_judge_87 (by decide) ?_
          refine lv_iload_n hx hb dX6_judge_88 rfl (lv_at hl 4 rfl) ?_
          refine lv_iconst (v := 3) hx hb dX6_judge_89 (by decide) ?_
          obtain ⟨g7, h⟩ := zg_some h
          refine lv_irem hx hb dX6_judge_90 (zne_ne g7) ?_
          obtain ⟨u8, s8, e8, h⟩ := zb_some h
          refine z_calli hS (z_runV (As := [.int x2, .int (0 : Int32), .int (x3 - x3 / (3 : Int32) * (3 : Int32))]) (rest := []) X hG hA hE hP hS 19 (kX0_shadeOf (l := l) (D := D) (a := a) (cI := cI) (cJ := cJ) (cC := cC) (adK := adK) (adV := adV) e8 _) (cwV 3 hts gX6_judge_X0_shadeOf rfl rfl rfl (by decide +kernel) ⟨Nat.le_of_ble_eq_true rfl, Nat.le_of_ble_eq_true rfl⟩) (by decide) (zcC_19 _ _ _ _ _ _) rfl rfl rfl hl.1 rfl (Nat.le_of_ble_eq_true rfl) dX6_judge_91) (fun H locs hP hS => ?_)
          refine lv_aload_n hx hb dX6_judge_94 rfl (lv_at hl 1 rfl) ?_
          refine z_get (C := RX6) (T := TX6) (N := 12) X inX6 hP 0 (by decide) (zcC_0 _ _ _ _ _ _) rfl 7 (by decide) rfl (by decide +kernel) rfl dX6_judge_95 ?_
          refine lv_iload_n hx hb dX6_judge_98 rfl (lv_at hl 2 rfl) ?_
          refine lv_iload_n hx hb dX6_judge_99 rfl (lv_at hl 4 rfl) ?_
          obtain ⟨u9, s9, e9, h⟩ := zb_some h
          refine z_calli hS (z_runV (As := [.int x1, .int x3]) (rest := [.int u8]) X hG hA hE hP hS 34 (kX1_valueAt (l := l) (D := D) (a := a) (cI := cI) (cJ := cJ) (cC := cC) (adK := adK) (adV := adV) e9 _) (cwV 2 hts gX6_judge_X1_valueAt rfl rfl rfl (by decide +kernel) ⟨Nat.le_of_ble_eq_true rfl, Nat.le_of_ble_eq_true rfl⟩) (by decide) (zcC_34 _ _ _ _ _ _) rfl rfl rfl hl.1 rfl (Nat.le_of_ble_eq_true rfl) dX6_judge_100) (fun H locs hP hS => ?_)
          refine lv_icmp_eq (tgt := 108) hx hb dX6_judge_103 (by decide) (fun c10 => ?_) (fun c10 => ?_)
          · have h := zif_t h c10
            refine lv_iinc (v := (x3 + (1 : Int32))) (lv' := [(3, .int (x3 + (1 : Int32))), (4, .int (x3 / (3 : Int32))), (0, .ref (a 0)), (1, .int x1), (2, .int x2)]) hx hb dX6_judge_108 hl (k := 4) rfl rfl (by decide) rfl (fun ls hl => ?_)
            refine lv_goto (tgt := 41) hx hb dX6_judge_111 (by decide) ?_
            exact ih (x1) (x2) ((x3 + (1 : Int32))) (s9) _ _ _ h hP hS (lv_sub hl [2, 3, 4, 0] rfl)
          · have h := zif_f h c10
            refine lv_iload_n hx hb dX6_judge_106 rfl (lv_at hl 4 rfl) ?_
            exact z_iret X hP hS hr hlocks h dX6_judge_107
        · have h := zif_t h c5
          refine lv_iload_n hx hb dX6_judge_71 rfl (lv_at hl 4 rfl) ?_
          exact z_iret X hP hS hr hlocks h dX6_judge_72
  have hl : lv_has ls 5 [(0, .ref (a 0)), (1, .int x1), (2, .int x2)] := hl
  refine lv_iload_n hx hb dX6_judge_0 rfl (lv_at hl 1 rfl) ?_
  refine lv_iconst (v := 4) hx hb dX6_judge_1 (by decide) ?_
  obtain ⟨u1, s1, e1, h⟩ := zb_some h
  refine z_calli hS (z_runS (As := [.int x1, .int (4 : Int32)]) (rest := []) X hG hA hE hP hS (kX6_within (l := l) (D := D) (a := a) (cI := cI) (cJ := cJ) (cC := cC) (adK := adK) (adV := adV) e1 _) (va_cwS 2 hts gX6_judge_X6_within rfl rfl rfl (by decide +kernel) ⟨Nat.le_of_ble_eq_true rfl, Nat.le_of_ble_eq_true rfl⟩) rfl hl.1 rfl (Nat.le_of_ble_eq_true rfl) dX6_judge_2) (fun H locs hP hS => ?_)
  refine lv_if_eq (tgt := 16) hx hb dX6_judge_5 (by decide) (fun c2 => ?_) (fun c2 => ?_)
  · have h := zif_t h c2
    refine lv_iconst (v := -1) hx hb dX6_judge_16 (by decide) ?_
    exact z_iret X hP hS hr hlocks h dX6_judge_17
  · have h := zif_f h c2
    refine lv_iload_n hx hb dX6_judge_8 rfl (lv_at hl 2 rfl) ?_
    refine lv_iconst (v := 3) hx hb dX6_judge_9 (by decide) ?_
    obtain ⟨u3, s3, e3, h⟩ := zb_some h
    refine z_calli hS (z_runS (As := [.int x2, .int (3 : Int32)]) (rest := []) X hG hA hE hP hS (kX6_within (l := l) (D := D) (a := a) (cI := cI) (cJ := cJ) (cC := cC) (adK := adK) (adV := adV) e3 _) (va_cwS 2 hts gX6_judge_X6_within rfl rfl rfl (by decide +kernel) ⟨Nat.le_of_ble_eq_true rfl, Nat.le_of_ble_eq_true rfl⟩) rfl hl.1 rfl (Nat.le_of_ble_eq_true rfl) dX6_judge_10) (fun H locs hP hS => ?_)
    refine lv_if_ne (tgt := 18) hx hb dX6_judge_13 (by decide) (fun c4 => ?_) (fun c4 => ?_)
    · have h := zif_f h c4
      refine lv_aload_n hx hb dX6_judge_18 rfl (lv_at hl 0 rfl) ?_
      refine z_get (C := RX6) (T := TX6) (N := 12) X inX6 hP 0 (by decide) (zcC_0 _ _ _ _ _ _) rfl 7 (by decide) rfl (by decide +kernel) rfl dX6_judge_19 ?_
      refine lv_iload_n hx hb dX6_judge_22 rfl (lv_at hl 1 rfl) ?_
      obtain ⟨u5, s5, e5, h⟩ := zb_some h
      refine z_calli hS (z_runV (As := [.int x1]) (rest := []) X hG hA hE hP hS 34 (kX1_isHeld (l := l) (D := D) (a := a) (cI := cI) (cJ := cJ) (cC := cC) (adK := adK) (adV := adV) e5 _) (cwV 1 hts gX6_judge_X1_isHeld rfl rfl rfl (by decide +kernel) ⟨Nat.le_of_ble_eq_true rfl, Nat.le_of_ble_eq_true rfl⟩) (by decide) (zcC_34 _ _ _ _ _ _) rfl rfl rfl hl.1 rfl (Nat.le_of_ble_eq_true rfl) dX6_judge_23) (fun H locs hP hS => ?_)
      refine lv_if_ne (tgt := 32) hx hb dX6_judge_26 (by decide) (fun c6 => ?_) (fun c6 => ?_)
      · have h := zif_f h c6
        refine lv_aload_n hx hb dX6_judge_32 rfl (lv_at hl 0 rfl) ?_
        refine z_get (C := RX6) (T := TX6) (N := 12) X inX6 hP 0 (by decide) (zcC_0 _ _ _ _ _ _) rfl 3 (by decide) rfl (by decide +kernel) rfl dX6_judge_33 ?_
        obtain ⟨u7, s7, e7, h⟩ := zb_some h
        refine z_callv hS (z_runV (As := []) (rest := []) X hG hA hE hP hS 19 (kX0_lookAtSheets (l := l) (D := D) (a := a) (cI := cI) (cJ := cJ) (cC := cC) (adK := adK) (adV := adV) e7 _) (cwV 0 hts gX6_judge_X0_lookAtSheets rfl rfl rfl (by decide +kernel) ⟨Nat.le_of_ble_eq_true rfl, Nat.le_of_ble_eq_true rfl⟩) (by decide) (zcC_19 _ _ _ _ _ _) rfl rfl rfl hl.1 rfl (Nat.le_of_ble_eq_true rfl) dX6_judge_36) (fun H locs hP hS => ?_)
        refine lv_iconst (v := 0) hx hb dX6_judge_39 (by decide) ?_
        refine lv_istore_n (lv' := [(3, .int (0 : Int32)), (0, .ref (a 0)), (1, .int x1), (2, .int x2)]) hx hb dX6_judge_40 rfl hl (by decide) rfl (fun ls hl => ?_)
        exact w41  zN (x1) (x2) ((0 : Int32)) (s7) _ _ _ h hP hS (lv_sub hl [1, 2, 3, 0] rfl)
      · have h := zif_t h c6
        refine lv_bipush (v := -11) hx hb dX6_judge_29 (by decide) ?_
        exact z_iret X hP hS hr hlocks h dX6_judge_31
    · have h := zif_t h c4
      refine lv_iconst (v := -1) hx hb dX6_judge_16 (by decide) ?_
      exact z_iret X hP hS hr hlocks h dX6_judge_17
abbrev rmX6_change : Room := { frames := 4, cells := 0, slots := 0, locals := 86 }
set_option maxHeartbeats 4000000 in
set_option maxRecDepth 100000 in
theorem kX6_change {l : Launch} {D : va_G} {a : Nat → Nat} {cI cJ cC : ClassId} {adK adV : Nat → Nat} {x1 : Int32} {s τ : ZS} {r : Int32} (h : fX6_change x1 s = some (r, τ)) : zMi (zcC a cI cJ cC) 41 a D [(cI, .int), (cJ, .long)] (zEC adK adV) l yX6_change wsX6_change rmX6_change [.ref (a 0), .int x1] s r τ := by
  refine z_start (cc := cX6_change) (maxL := 5) (ret := (some .int)) RX6 rfl (by decide) rfl (Nat.le_of_ble_eq_true rfl) ?_
  intro p e st m args below meth c ls H locs X hr hlocks hA hE hP hS hl
  obtain ⟨hx, hb, hml, hown, hts, -⟩ := id X
  have hG := zEC_good adK adV
  have inX1 : ∀ w ∈ u_ws RX1 TX1 2, w ∈ wsX6_change := by decide +kernel
  have inX6 : ∀ w ∈ u_ws RX6 TX6 12, w ∈ wsX6_change := by decide +kernel
  have w88 : ∀ (k28 : Int32 → Int32 → Int32 → ZS → Option (Int32 × ZS)) (hk28 : ∀ (x1 : Int32) (x2 : Int32) (x3 : Int32) (s : ZS) (H : Heap) (locs : List Loc) (ls : Array Slot), k28 x1 x2 x3 s = some (r, τ) → va_P D vwCl (zW (zcC a cI cJ cC) 41 a s) H → va_S (zF 41 a st.heap.size) st.heap H locs → lv_has ls 5 [(0, .ref (a 0)), (1, .int x1), (2, .int x2), (3, .int x3)] → W p l e rmX6_change st m args below meth c H locs 0 0 (MQ below (va_Qi (fun (r' : Int32) (τ' : ZS) => r' = r ∧ τ' = τ) (zPost (zcC a cI cJ cC) 41 a D [(cI, .int), (cJ, .long)]) (zF 41 a st.heap.size)) args st 0 0 (zF 41 a st.heap.size)) (F0 m 28 ls [])) (x1 : Int32) (x2 : Int32) (x3 : Int32) (s : ZS) (H : Heap) (locs : List Loc) (ls : Array Slot), fX6_change_88 k28 x1 x2 x3 s = some (r, τ) → va_P D vwCl (zW (zcC a cI cJ cC) 41 a s) H → va_S (zF 41 a st.heap.size) st.heap H locs → lv_has ls 5 [(0, .ref (a 0)), (1, .int x1), (2, .int x2), (3, .int x3)] → W p l e rmX6_change st m args below meth c H locs 0 0 (MQ below (va_Qi (fun (r' : Int32) (τ' : ZS) => r' = r ∧ τ' = τ) (zPost (zcC a cI cJ cC) 41 a D [(cI, .int), (cJ, .long)]) (zF 41 a st.heap.size)) args st 0 0 (zF 41 a st.heap.size)) (F0 m 88 ls []) := by
    intro k28 hk28 x1 x2 x3 s H locs ls h hP hS hl
    refine lv_iinc (v := (x3 + (3 : Int32))) (lv' := [(3, .int (x3 + (3 : Int32))), (0, .ref (a 0)), (1, .int x1), (2, .int x2)]) hx hb dX6_change_88 hl (k := 3) rfl rfl (by decide) rfl (fun ls hl => ?_)
    refine lv_goto (tgt := 28) hx hb dX6_change_91 (by decide) ?_
    exact hk28 (x1) (x2) ((x3 + (3 : Int32))) (s) _ _ _ h hP hS (lv_sub hl [1, 2, 3, 0] rfl)
  have w28 : ∀  (n : Nat) (x1 : Int32) (x2 : Int32) (x3 : Int32) (s : ZS) (H : Heap) (locs : List Loc) (ls : Array Slot), fX6_change_28n  n (x1, x2, x3, s) = some (r, τ) → va_P D vwCl (zW (zcC a cI cJ cC) 41 a s) H → va_S (zF 41 a st.heap.size) st.heap H locs → lv_has ls 5 [(0, .ref (a 0)), (1, .int x1), (2, .int x2), (3, .int x3)] → W p l e rmX6_change st m args below meth c H locs 0 0 (MQ below (va_Qi (fun (r' : Int32) (τ' : ZS) => r' = r ∧ τ' = τ) (zPost (zcC a cI cJ cC) 41 a D [(cI, .int), (cJ, .long)]) (zF 41 a st.heap.size)) args st 0 0 (zF 41 a st.heap.size)) (F0 m 28 ls []) := by
    intro  n
    induction n with
    | zero => intro x1 x2 x3 s H locs ls h; exact zloop_0 h
    | succ n ih =>
      intro x1 x2 x3 s H locs ls h hP hS hl
      have h : fX6_change_28b  (fun x1 x2 x3 s => fX6_change_28n  n (x1, x2, x3, s)) x1 x2 x3 s = some (r, τ) := h
      refine lv_iload_n hx hb dX6_change_28 rfl (lv_at hl 3 rfl) ?_
      refine lv_iconst (v := 3) hx hb dX6_change_29 (by decide) ?_
      refine lv_iadd hx hb dX6_change_30 ?_
      refine lv_aload_n hx hb dX6_change_31 rfl (lv_at hl 0 rfl) ?_
      refine z_get (C := RX6) (T := TX6) (N := 12) X inX6 hP 0 (by decide) (zcC_0 _ _ _ _ _ _) rfl 7 (by decide) rfl (by decide +kernel) rfl dX6_change_32 ?_
      refine z_get (C := RX1) (T := TX1) (N := 2) X inX1 hP 34 (by decide) (zcC_34 _ _ _ _ _ _) rfl 1 (by decide) rfl (by decide +kernel) rfl dX6_change_35 ?_
      refine lv_iload_n hx hb dX6_change_38 rfl (lv_at hl 1 rfl) ?_
      obtain ⟨g1, h⟩ := zg_some h
      refine z_iald X hP 36 0 (by decide) (zcC_36 _ _ _ _ _ _) rfl g1 dX6_change_39 ?_
      refine lv_icmp_gt (tgt := 94) hx hb dX6_change_40 (by decide) (fun c2 => ?_) (fun c2 => ?_)
      · have h := zif_t h c2
        refine lv_iload_n hx hb dX6_change_94 rfl (lv_at hl 2 rfl) ?_
        exact z_iret X hP hS hr hlocks h dX6_change_95
      · have h := zif_f h c2
        refine lv_aload_n hx hb dX6_change_43 rfl (lv_at hl 0 rfl) ?_
        refine lv_aload_n hx hb dX6_change_44 rfl (lv_at hl 0 rfl) ?_
        refine z_get (C := RX6) (T := TX6) (N := 12) X inX6 hP 0 (by decide) (zcC_0 _ _ _ _ _ _) rfl 7 (by decide) rfl (by decide +kernel) rfl dX6_change_45 ?_
        refine lv_iload_n hx hb dX6_change_48 rfl (lv_at hl 1 rfl) ?_
        refine lv_iload_n hx hb dX6_change_49 rfl (lv_at hl 3 rfl) ?_
        obtain ⟨u3, s3, e3, h⟩ := zb_some h
        refine z_calli hS (z_runV (As := [.int x1, .int x3]) (rest := [.ref (a 0)]) X hG hA hE hP hS 34 (kX1_valueAt (l := l) (D := D) (a := a) (cI := cI) (cJ := cJ) (cC := cC) (adK := adK) (adV := adV) e3 _) (cwV 2 hts gX6_change_X1_valueAt rfl rfl rfl (by decide +kernel) ⟨Nat.le_of_ble_eq_true rfl, Nat.le_of_ble_eq_true rfl⟩) (by decide) (zcC_34 _ _ _ _ _ _) rfl rfl rfl hl.1 rfl (Nat.le_of_ble_eq_true rfl) dX6_change_50) (fun H locs hP hS => ?_)
        refine lv_aload_n hx hb dX6_change_53 rfl (lv_at hl 0 rfl) ?_
        refine z_get (C := RX6) (T := TX6) (N := 12) X inX6 hP 0 (by decide) (zcC_0 _ _ _ _ _ _) rfl 7 (by decide) rfl (by decide +kernel) rfl dX6_change_54 ?_
        refine lv_iload_n hx hb dX6_change_57 rfl (lv_at hl 1 rfl) ?_
        refine lv_iload_n hx hb dX6_change_58 rfl (lv_at hl 3 rfl) ?_
        refine lv_iconst (v := 1) hx hb dX6_change_59 (by decide) ?_
        refine lv_iadd hx hb dX6_change_60 ?_
        obtain ⟨u4, s4, e4, h⟩ := zb_some h
        refine z_calli hS (z_runV (As := [.int x1, .int (x3 + (1 : Int32))]) (rest := [.int u3, .ref (a 0)]) X hG hA hE hP hS 34 (kX1_valueAt (l := l) (D := D) (a := a) (cI := cI) (cJ := cJ) (cC := cC) (adK := adK) (adV := adV) e4 _) (cwV 2 hts gX6_change_X1_valueAt rfl rfl rfl (by decide +kernel) ⟨Nat.le_of_ble_eq_true rfl, Nat.le_of_ble_eq_true rfl⟩) (by decide) (zcC_34 _ _ _ _ _ _) rfl rfl rfl hl.1 rfl (Nat.le_of_ble_eq_true rfl) dX6_change_61) (fun H locs hP hS => ?_)
        refine lv_aload_n hx hb dX6_change_64 rfl (lv_at hl 0 rfl) ?_
        refine z_get (C := RX6) (T := TX6) (N := 12) X inX6 hP 0 (by decide) (zcC_0 _ _ _ _ _ _) rfl 7 (by decide) rfl (by decide +kernel) rfl dX6_change_65 ?_
        refine lv_iload_n hx hb dX6_change_68 rfl (lv_at hl 1 rfl) ?_
        refine lv_iload_n hx hb dX6_change_69 rfl (lv_at hl 3 rfl) ?_
        refine lv_iconst (v := 2) hx hb dX6_change_70 (by decide) ?_
        refine lv_iadd hx hb dX6_change_71 ?_
        obtain ⟨u5, s5, e5, h⟩ := zb_some h
        refine z_calli hS (z_runV (As := [.int x1, .int (x3 + (2 : Int32))]) (rest := [.int u4, .int u3, .ref (a 0)]) X hG hA hE hP hS 34 (kX1_valueAt (l := l) (D := D) (a := a) (cI := cI) (cJ := cJ) (cC := cC) (adK := adK) (adV := adV) e5 _) (cwV 2 hts gX6_change_X1_valueAt rfl rfl rfl (by decide +kernel) ⟨Nat.le_of_ble_eq_true rfl, Nat.le_of_ble_eq_true rfl⟩) (by decide) (zcC_34 _ _ _ _ _ _) rfl rfl rfl hl.1 rfl (Nat.le_of_ble_eq_true rfl) dX6_change_72) (fun H locs hP hS => ?_)
        obtain ⟨u6, s6, e6, h⟩ := zb_some h
        refine z_calli hS (z_runV (As := [.int u3, .int u4, .int u5]) (rest := []) X hG hA hE hP hS 0 (kX6_number (l := l) (D := D) (a := a) (cI := cI) (cJ := cJ) (cC := cC) (adK := adK) (adV := adV) e6 _) (cwV 3 hts gX6_change_X6_number rfl rfl rfl (by decide +kernel) ⟨Nat.le_of_ble_eq_true rfl, Nat.le_of_ble_eq_true rfl⟩) (by decide) (zcC_0 _ _ _ _ _ _) rfl rfl rfl hl.1 rfl (Nat.le_of_ble_eq_true rfl) dX6_change_75) (fun H locs hP hS => ?_)
        refine lv_istore (lv' := [(4, .int u6), (0, .ref (a 0)), (1, .int x1), (2, .int x2), (3, .int x3)]) hx hb dX6_change_78 hl (by decide) rfl (fun ls hl => ?_)
        refine lv_iload hx hb dX6_change_80 (lv_at hl 0 rfl) ?_
        refine lv_if_lt (tgt := 88) hx hb dX6_change_82 (by decide) (fun c7 => ?_) (fun c7 => ?_)
        · have h := zif_t h c7
          exact w88 (fun x1 x2 x3 s => fX6_change_28n  n (x1, x2, x3, s)) (fun x1 x2 x3 s H locs ls h hP hS hl => ih x1 x2 x3 s H locs ls h hP hS hl)  (x1) (x2) (x3) (s6) _ _ _ h hP hS (lv_sub hl [1, 2, 3, 4] rfl)
        · have h := zif_f h c7
          refine lv_iinc (v := (x2 + (1 : Int32))) (lv' := [(2, .int (x2 + (1 : Int32))), (4, .int u6), (0, .ref (a 0)), (1, .int x1), (3, .int x3)]) hx hb dX6_change_85 hl (k := 3) rfl rfl (by decide) rfl (fun ls hl => ?_)
          exact w88 (fun x1 x2 x3 s => fX6_change_28n  n (x1, x2, x3, s)) (fun x1 x2 x3 s H locs ls h hP hS hl => ih x1 x2 x3 s H locs ls h hP hS hl)  (x1) ((x2 + (1 : Int32))) (x3) (s6) _ _ _ h hP hS (lv_sub hl [2, 3, 0, 4] rfl)
  have hl : lv_has ls 5 [(0, .ref (a 0)), (1, .int x1)] := hl
  refine lv_iload_n hx hb dX6_change_0 rfl (lv_at hl 1 rfl) ?_
  refine lv_iconst (v := 4) hx hb dX6_change_1 (by decide) ?_
  obtain ⟨u1, s1, e1, h⟩ := zb_some h
  refine z_calli hS (z_runS (As := [.int x1, .int (4 : Int32)]) (rest := []) X hG hA hE hP hS (kX6_within (l := l) (D := D) (a := a) (cI := cI) (cJ := cJ) (cC := cC) (adK := adK) (adV := adV) e1 _) (va_cwS 2 hts gX6_change_X6_within rfl rfl rfl (by decide +kernel) ⟨Nat.le_of_ble_eq_true rfl, Nat.le_of_ble_eq_true rfl⟩) rfl hl.1 rfl (Nat.le_of_ble_eq_true rfl) dX6_change_2) (fun H locs hP hS => ?_)
  refine lv_if_ne (tgt := 10) hx hb dX6_change_5 (by decide) (fun c2 => ?_) (fun c2 => ?_)
  · have h := zif_f h c2
    refine lv_aload_n hx hb dX6_change_10 rfl (lv_at hl 0 rfl) ?_
    refine z_get (C := RX6) (T := TX6) (N := 12) X inX6 hP 0 (by decide) (zcC_0 _ _ _ _ _ _) rfl 7 (by decide) rfl (by decide +kernel) rfl dX6_change_11 ?_
    refine lv_iload_n hx hb dX6_change_14 rfl (lv_at hl 1 rfl) ?_
    obtain ⟨u3, s3, e3, h⟩ := zb_some h
    refine z_calli hS (z_runV (As := [.int x1]) (rest := []) X hG hA hE hP hS 34 (kX1_isHeld (l := l) (D := D) (a := a) (cI := cI) (cJ := cJ) (cC := cC) (adK := adK) (adV := adV) e3 _) (cwV 1 hts gX6_change_X1_isHeld rfl rfl rfl (by decide +kernel) ⟨Nat.le_of_ble_eq_true rfl, Nat.le_of_ble_eq_true rfl⟩) (by decide) (zcC_34 _ _ _ _ _ _) rfl rfl rfl hl.1 rfl (Nat.le_of_ble_eq_true rfl) dX6_change_15) (fun H locs hP hS => ?_)
    refine lv_if_ne (tgt := 24) hx hb dX6_change_18 (by decide) (fun c4 => ?_) (fun c4 => ?_)
    · have h := zif_f h c4
      refine lv_iconst (v := 0) hx hb dX6_change_24 (by decide) ?_
      refine lv_istore_n (lv' := [(2, .int (0 : Int32)), (0, .ref (a 0)), (1, .int x1)]) hx hb dX6_change_25 rfl hl (by decide) rfl (fun ls hl => ?_)
      refine lv_iconst (v := 0) hx hb dX6_change_26 (by decide) ?_
      refine lv_istore_n (lv' := [(3, .int (0 : Int32)), (2, .int (0 : Int32)), (0, .ref (a 0)), (1, .int x1)]) hx hb dX6_change_27 rfl hl (by decide) rfl (fun ls hl => ?_)
      exact w28  zN (x1) ((0 : Int32)) ((0 : Int32)) (s3) _ _ _ h hP hS (lv_sub hl [2, 3, 1, 0] rfl)
    · have h := zif_t h c4
      refine lv_bipush (v := -11) hx hb dX6_change_21 (by decide) ?_
      exact z_iret X hP hS hr hlocks h dX6_change_23
  · have h := zif_t h c2
    refine lv_iconst (v := -1) hx hb dX6_change_8 (by decide) ?_
    exact z_iret X hP hS hr hlocks h dX6_change_9
abbrev rmX1_clearTo : Room := { frames := 1, cells := 0, slots := 0, locals := 21 }
set_option maxHeartbeats 4000000 in
set_option maxRecDepth 100000 in
theorem kX1_clearTo {l : Launch} {D : va_G} {a : Nat → Nat} {cI cJ cC : ClassId} {adK adV : Nat → Nat} {x1 : Int32} {x2 : Int32} {s τ : ZS} {r : Unit} (h : fX1_clearTo x1 x2 s = some (r, τ)) : zMv (zcC a cI cJ cC) 41 a D [(cI, .int), (cJ, .long)] (zEC adK adV) l yX1_clearTo wsX1_clearTo rmX1_clearTo [.ref (a 34), .int x1, .int x2] s r τ := by
  refine z_start (cc := cX1_clearTo) (maxL := 4) (ret := none) RX1 rfl (by decide) rfl (Nat.le_of_ble_eq_true rfl) ?_
  intro p e st m args below meth c ls H locs X hr hlocks hA hE hP hS hl
  obtain ⟨hx, hb, hml, hown, hts, -⟩ := id X
  have hG := zEC_good adK adV
  have inX1 : ∀ w ∈ u_ws RX1 TX1 2, w ∈ wsX1_clearTo := by decide +kernel
  have w21 : ∀  (n : Nat) (x1 : Int32) (x2 : Int32) (x3 : Int32) (s : ZS) (H : Heap) (locs : List Loc) (ls : Array Slot), fX1_clearTo_21n  n (x1, x2, x3, s) = some (r, τ) → va_P D vwCl (zW (zcC a cI cJ cC) 41 a s) H → va_S (zF 41 a st.heap.size) st.heap H locs → lv_has ls 4 [(0, .ref (a 34)), (1, .int x1), (2, .int x2), (3, .int x3)] → W p l e rmX1_clearTo st m args below meth c H locs 0 0 (MQ below (va_Qv (fun (τ' : ZS) => τ' = τ) (zPost (zcC a cI cJ cC) 41 a D [(cI, .int), (cJ, .long)]) (zF 41 a st.heap.size)) args st 0 0 (zF 41 a st.heap.size)) (F0 m 21 ls []) := by
    intro  n
    induction n with
    | zero => intro x1 x2 x3 s H locs ls h; exact zloop_0 h
    | succ n ih =>
      intro x1 x2 x3 s H locs ls h hP hS hl
      have h : fX1_clearTo_21b  (fun x1 x2 x3 s => fX1_clearTo_21n  n (x1, x2, x3, s)) x1 x2 x3 s = some (r, τ) := h
      refine lv_iload_n hx hb dX1_clearTo_21 rfl (lv_at hl 3 rfl) ?_
      refine lv_iload_n hx hb dX1_clearTo_22 rfl (lv_at hl 2 rfl) ?_
      refine lv_icmp_ge (tgt := 44) hx hb dX1_clearTo_23 (by decide) (fun c1 => ?_) (fun c1 => ?_)
      · have h := zif_t h c1
        refine lv_aload_n hx hb dX1_clearTo_44 rfl (lv_at hl 0 rfl) ?_
        refine z_get (C := RX1) (T := TX1) (N := 2) X inX1 hP 34 (by decide) (zcC_34 _ _ _ _ _ _) rfl 1 (by decide) rfl (by decide +kernel) rfl dX1_clearTo_45 ?_
        refine lv_iload_n hx hb dX1_clearTo_48 rfl (lv_at hl 1 rfl) ?_
        refine lv_iload_n hx hb dX1_clearTo_49 rfl (lv_at hl 2 rfl) ?_
        obtain ⟨g2, h⟩ := zg_some h
        refine z_iast X hA hP hS 36 0 (by decide) (zcC_36 _ _ _ _) rfl g2 dX1_clearTo_50 (fun H locs hP hS => ?_)
        exact z_vret X hP hS hr hlocks h dX1_clearTo_51
      · have h := zif_f h c1
        refine lv_aload_n hx hb dX1_clearTo_26 rfl (lv_at hl 0 rfl) ?_
        refine z_get (C := RX1) (T := TX1) (N := 2) X inX1 hP 34 (by decide) (zcC_34 _ _ _ _ _ _) rfl 0 (by decide) rfl (by decide +kernel) rfl dX1_clearTo_27 ?_
        refine lv_iload_n hx hb dX1_clearTo_30 rfl (lv_at hl 1 rfl) ?_
        refine lv_bipush (v := 18) hx hb dX1_clearTo_31 (by decide) ?_
        refine lv_imul hx hb dX1_clearTo_33 ?_
        refine lv_iload_n hx hb dX1_clearTo_34 rfl (lv_at hl 3 rfl) ?_
        refine lv_iadd hx hb dX1_clearTo_35 ?_
        refine lv_iconst (v := 0) hx hb dX1_clearTo_36 (by decide) ?_
        obtain ⟨g3, h⟩ := zg_some h
        refine z_iast X hA hP hS 35 0 (by decide) (zcC_35 _ _ _ _) rfl g3 dX1_clearTo_37 (fun H locs hP hS => ?_)
        refine lv_iinc (v := (x3 + (1 : Int32))) (lv' := [(3, .int (x3 + (1 : Int32))), (0, .ref (a 34)), (1, .int x1), (2, .int x2)]) hx hb dX1_clearTo_38 hl (k := 3) rfl rfl (by decide) rfl (fun ls hl => ?_)
        refine lv_goto (tgt := 21) hx hb dX1_clearTo_41 (by decide) ?_
        exact ih (x1) (x2) ((x3 + (1 : Int32))) ((zI s 35 (((x1 * (18 : Int32)) + x3)).toNatClampNeg (0 : Int32))) _ _ _ h hP hS (lv_sub hl [1, 2, 3, 0] rfl)
  have hl : lv_has ls 4 [(0, .ref (a 34)), (1, .int x1), (2, .int x2)] := hl
  refine lv_iload_n hx hb dX1_clearTo_0 rfl (lv_at hl 1 rfl) ?_
  refine lv_iconst (v := 4) hx hb dX1_clearTo_1 (by decide) ?_
  obtain ⟨u1, s1, e1, h⟩ := zb_some h
  refine z_calli hS (z_runSN (As := [.int x1, .int (4 : Int32)]) (rest := []) X hG hA hE hP hS (kX6_within (l := l) (D := D) (a := a) (cI := cI) (cJ := cJ) (cC := cC) (adK := adK) (adV := adV) e1 _) (va_cnB 2 hts gX1_clearTo_X6_within_n18 rfl rfl rfl (zE_nest hE 1 rfl) (hts (.initialized RX6) (by decide +kernel)) (by decide +kernel) ⟨Nat.le_of_ble_eq_true rfl, Nat.le_of_ble_eq_true rfl⟩) (by decide +kernel) rfl hl.1 rfl (Nat.le_of_ble_eq_true rfl) dX1_clearTo_2) (fun H locs hP hS => ?_)
  refine lv_if_eq (tgt := 18) hx hb dX1_clearTo_5 (by decide) (fun c2 => ?_) (fun c2 => ?_)
  · have h := zif_t h c2
    exact z_vret X hP hS hr hlocks h dX1_clearTo_18
  · have h := zif_f h c2
    refine lv_iload_n hx hb dX1_clearTo_8 rfl (lv_at hl 2 rfl) ?_
    refine lv_if_lt (tgt := 18) hx hb dX1_clearTo_9 (by decide) (fun c3 => ?_) (fun c3 => ?_)
    · have h := zif_t h c3
      exact z_vret X hP hS hr hlocks h dX1_clearTo_18
    · have h := zif_f h c3
      refine lv_iload_n hx hb dX1_clearTo_12 rfl (lv_at hl 2 rfl) ?_
      refine lv_bipush (v := 18) hx hb dX1_clearTo_13 (by decide) ?_
      refine lv_icmp_le (tgt := 19) hx hb dX1_clearTo_15 (by decide) (fun c4 => ?_) (fun c4 => ?_)
      · have h := zif_t h c4
        refine lv_iconst (v := 0) hx hb dX1_clearTo_19 (by decide) ?_
        refine lv_istore_n (lv' := [(3, .int (0 : Int32)), (0, .ref (a 34)), (1, .int x1), (2, .int x2)]) hx hb dX1_clearTo_20 rfl hl (by decide) rfl (fun ls hl => ?_)
        exact w21  zN (x1) (x2) ((0 : Int32)) (s1) _ _ _ h hP hS (lv_sub hl [1, 2, 3, 0] rfl)
      · have h := zif_f h c4
        exact z_vret X hP hS hr hlocks h dX1_clearTo_18
abbrev rmX6_list : Room := { frames := 2, cells := 0, slots := 0, locals := 44 }
set_option maxHeartbeats 4000000 in
set_option maxRecDepth 100000 in
theorem kX6_list {l : Launch} {D : va_G} {a : Nat → Nat} {cI cJ cC : ClassId} {adK adV : Nat → Nat} {x1 : Int32} {x2 : Int32} {s τ : ZS} {r : Int32} (h : fX6_list x1 x2 s = some (r, τ)) : zMi (zcC a cI cJ cC) 41 a D [(cI, .int), (cJ, .long)] (zEC adK adV) l yX6_list wsX6_list rmX6_list [.ref (a 0), .int x1, .int x2] s r τ := by
  refine z_start (cc := cX6_list) (maxL := 3) (ret := (some .int)) RX6 rfl (by decide) rfl (Nat.le_of_ble_eq_true rfl) ?_
  intro p e st m args below meth c ls H locs X hr hlocks hA hE hP hS hl
  obtain ⟨hx, hb, hml, hown, hts, -⟩ := id X
  have hG := zEC_good adK adV
  have inX6 : ∀ w ∈ u_ws RX6 TX6 12, w ∈ wsX6_list := by decide +kernel
  have hl : lv_has ls 3 [(0, .ref (a 0)), (1, .int x1), (2, .int x2)] := hl
  refine lv_iload_n hx hb dX6_list_0 rfl (lv_at hl 1 rfl) ?_
  refine lv_iconst (v := 4) hx hb dX6_list_1 (by decide) ?_
  obtain ⟨u1, s1, e1, h⟩ := zb_some h
  refine z_calli hS (z_runS (As := [.int x1, .int (4 : Int32)]) (rest := []) X hG hA hE hP hS (kX6_within (l := l) (D := D) (a := a) (cI := cI) (cJ := cJ) (cC := cC) (adK := adK) (adV := adV) e1 _) (va_cwS 2 hts gX6_list_X6_within rfl rfl rfl (by decide +kernel) ⟨Nat.le_of_ble_eq_true rfl, Nat.le_of_ble_eq_true rfl⟩) rfl hl.1 rfl (Nat.le_of_ble_eq_true rfl) dX6_list_2) (fun H locs hP hS => ?_)
  refine lv_if_ne (tgt := 10) hx hb dX6_list_5 (by decide) (fun c2 => ?_) (fun c2 => ?_)
  · have h := zif_f h c2
    refine lv_iload_n hx hb dX6_list_10 rfl (lv_at hl 2 rfl) ?_
    refine lv_bipush (v := 18) hx hb dX6_list_11 (by decide) ?_
    refine lv_icmp_le (tgt := 19) hx hb dX6_list_13 (by decide) (fun c3 => ?_) (fun c3 => ?_)
    · have h := zif_t h c3
      refine lv_iload_n hx hb dX6_list_19 rfl (lv_at hl 2 rfl) ?_
      refine lv_if_ge (tgt := 26) hx hb dX6_list_20 (by decide) (fun c4 => ?_) (fun c4 => ?_)
      · have h := zif_t h c4
        refine lv_aload_n hx hb dX6_list_26 rfl (lv_at hl 0 rfl) ?_
        refine z_get (C := RX6) (T := TX6) (N := 12) X inX6 hP 0 (by decide) (zcC_0 _ _ _ _ _ _) rfl 7 (by decide) rfl (by decide +kernel) rfl dX6_list_27 ?_
        refine lv_iload_n hx hb dX6_list_30 rfl (lv_at hl 1 rfl) ?_
        refine lv_iload_n hx hb dX6_list_31 rfl (lv_at hl 2 rfl) ?_
        obtain ⟨u5, s5, e5, h⟩ := zb_some h
        refine z_callv hS (z_runV (As := [.int x1, .int x2]) (rest := []) X hG hA hE hP hS 34 (kX1_clearTo (l := l) (D := D) (a := a) (cI := cI) (cJ := cJ) (cC := cC) (adK := adK) (adV := adV) e5 _) (cwV 2 hts gX6_list_X1_clearTo rfl rfl rfl (by decide +kernel) ⟨Nat.le_of_ble_eq_true rfl, Nat.le_of_ble_eq_true rfl⟩) (by decide) (zcC_34 _ _ _ _ _ _) rfl rfl rfl hl.1 rfl (Nat.le_of_ble_eq_true rfl) dX6_list_32) (fun H locs hP hS => ?_)
        refine lv_iconst (v := 1) hx hb dX6_list_35 (by decide) ?_
        exact z_iret X hP hS hr hlocks h dX6_list_36
      · have h := zif_f h c4
        refine lv_bipush (v := -14) hx hb dX6_list_23 (by decide) ?_
        exact z_iret X hP hS hr hlocks h dX6_list_25
    · have h := zif_f h c3
      refine lv_bipush (v := -2) hx hb dX6_list_16 (by decide) ?_
      exact z_iret X hP hS hr hlocks h dX6_list_18
  · have h := zif_t h c2
    refine lv_iconst (v := -1) hx hb dX6_list_8 (by decide) ?_
    exact z_iret X hP hS hr hlocks h dX6_list_9
abbrev rmX6_put : Room := { frames := 3, cells := 0, slots := 0, locals := 64 }
set_option maxHeartbeats 4000000 in
set_option maxRecDepth 100000 in
theorem kX6_put {l : Launch} {D : va_G} {a : Nat → Nat} {cI cJ cC : ClassId} {adK adV : Nat → Nat} {x1 : Int32} {x2 : Int32} {x3 : Int32} {s τ : ZS} {r : Int32} (h : fX6_put x1 x2 x3 s = some (r, τ)) : zMi (zcC a cI cJ cC) 41 a D [(cI, .int), (cJ, .long)] (zEC adK adV) l yX6_put wsX6_put rmX6_put [.ref (a 0), .int x1, .int x2, .int x3] s r τ := by
  refine z_start (cc := cX6_put) (maxL := 4) (ret := (some .int)) RX6 rfl (by decide) rfl (Nat.le_of_ble_eq_true rfl) ?_
  intro p e st m args below meth c ls H locs X hr hlocks hA hE hP hS hl
  obtain ⟨hx, hb, hml, hown, hts, -⟩ := id X
  have hG := zEC_good adK adV
  have inX1 : ∀ w ∈ u_ws RX1 TX1 2, w ∈ wsX6_put := by decide +kernel
  have inX6 : ∀ w ∈ u_ws RX6 TX6 12, w ∈ wsX6_put := by decide +kernel
  have hl : lv_has ls 4 [(0, .ref (a 0)), (1, .int x1), (2, .int x2), (3, .int x3)] := hl
  refine lv_iload_n hx hb dX6_put_0 rfl (lv_at hl 1 rfl) ?_
  refine lv_iconst (v := 4) hx hb dX6_put_1 (by decide) ?_
  obtain ⟨u1, s1, e1, h⟩ := zb_some h
  refine z_calli hS (z_runS (As := [.int x1, .int (4 : Int32)]) (rest := []) X hG hA hE hP hS (kX6_within (l := l) (D := D) (a := a) (cI := cI) (cJ := cJ) (cC := cC) (adK := adK) (adV := adV) e1 _) (va_cwS 2 hts gX6_put_X6_within rfl rfl rfl (by decide +kernel) ⟨Nat.le_of_ble_eq_true rfl, Nat.le_of_ble_eq_true rfl⟩) rfl hl.1 rfl (Nat.le_of_ble_eq_true rfl) dX6_put_2) (fun H locs hP hS => ?_)
  refine lv_if_ne (tgt := 10) hx hb dX6_put_5 (by decide) (fun c2 => ?_) (fun c2 => ?_)
  · have h := zif_f h c2
    refine lv_aload_n hx hb dX6_put_10 rfl (lv_at hl 0 rfl) ?_
    refine z_get (C := RX6) (T := TX6) (N := 12) X inX6 hP 0 (by decide) (zcC_0 _ _ _ _ _ _) rfl 7 (by decide) rfl (by decide +kernel) rfl dX6_put_11 ?_
    refine lv_iload_n hx hb dX6_put_14 rfl (lv_at hl 1 rfl) ?_
    obtain ⟨u3, s3, e3, h⟩ := zb_some h
    refine z_calli hS (z_runV (As := [.int x1]) (rest := []) X hG hA hE hP hS 34 (kX1_isHeld (l := l) (D := D) (a := a) (cI := cI) (cJ := cJ) (cC := cC) (adK := adK) (adV := adV) e3 _) (cwV 1 hts gX6_put_X1_isHeld rfl rfl rfl (by decide +kernel) ⟨Nat.le_of_ble_eq_true rfl, Nat.le_of_ble_eq_true rfl⟩) (by decide) (zcC_34 _ _ _ _ _ _) rfl rfl rfl hl.1 rfl (Nat.le_of_ble_eq_true rfl) dX6_put_15) (fun H locs hP hS => ?_)
    refine lv_if_ne (tgt := 24) hx hb dX6_put_18 (by decide) (fun c4 => ?_) (fun c4 => ?_)
    · have h := zif_f h c4
      refine lv_aload_n hx hb dX6_put_24 rfl (lv_at hl 0 rfl) ?_
      refine z_get (C := RX6) (T := TX6) (N := 12) X inX6 hP 0 (by decide) (zcC_0 _ _ _ _ _ _) rfl 7 (by decide) rfl (by decide +kernel) rfl dX6_put_25 ?_
      refine lv_iload_n hx hb dX6_put_28 rfl (lv_at hl 1 rfl) ?_
      refine lv_iload_n hx hb dX6_put_29 rfl (lv_at hl 2 rfl) ?_
      obtain ⟨u5, s5, e5, h⟩ := zb_some h
      refine z_calli hS (z_runV (As := [.int x1, .int x2]) (rest := []) X hG hA hE hP hS 34 (kX1_hasPlace (l := l) (D := D) (a := a) (cI := cI) (cJ := cJ) (cC := cC) (adK := adK) (adV := adV) e5 _) (cwV 2 hts gX6_put_X1_hasPlace rfl rfl rfl (by decide +kernel) ⟨Nat.le_of_ble_eq_true rfl, Nat.le_of_ble_eq_true rfl⟩) (by decide) (zcC_34 _ _ _ _ _ _) rfl rfl rfl hl.1 rfl (Nat.le_of_ble_eq_true rfl) dX6_put_30) (fun H locs hP hS => ?_)
      refine lv_if_ne (tgt := 39) hx hb dX6_put_33 (by decide) (fun c6 => ?_) (fun c6 => ?_)
      · have h := zif_f h c6
        refine lv_aload_n hx hb dX6_put_39 rfl (lv_at hl 0 rfl) ?_
        refine z_get (C := RX6) (T := TX6) (N := 12) X inX6 hP 0 (by decide) (zcC_0 _ _ _ _ _ _) rfl 7 (by decide) rfl (by decide +kernel) rfl dX6_put_40 ?_
        refine z_get (C := RX1) (T := TX1) (N := 2) X inX1 hP 34 (by decide) (zcC_34 _ _ _ _ _ _) rfl 0 (by decide) rfl (by decide +kernel) rfl dX6_put_43 ?_
        refine lv_iload_n hx hb dX6_put_46 rfl (lv_at hl 1 rfl) ?_
        refine lv_bipush (v := 18) hx hb dX6_put_47 (by decide) ?_
        refine lv_imul hx hb dX6_put_49 ?_
        refine lv_iload_n hx hb dX6_put_50 rfl (lv_at hl 2 rfl) ?_
        refine lv_iadd hx hb dX6_put_51 ?_
        refine lv_iload_n hx hb dX6_put_52 rfl (lv_at hl 3 rfl) ?_
        obtain ⟨g7, h⟩ := zg_some h
        refine z_iast X hA hP hS 35 0 (by decide) (zcC_35 _ _ _ _) rfl g7 dX6_put_53 (fun H locs hP hS => ?_)
        refine lv_iconst (v := 1) hx hb dX6_put_54 (by decide) ?_
        exact z_iret X hP hS hr hlocks h dX6_put_55
      · have h := zif_t h c6
        refine lv_bipush (v := -13) hx hb dX6_put_36 (by decide) ?_
        exact z_iret X hP hS hr hlocks h dX6_put_38
    · have h := zif_t h c4
      refine lv_bipush (v := -11) hx hb dX6_put_21 (by decide) ?_
      exact z_iret X hP hS hr hlocks h dX6_put_23
  · have h := zif_t h c2
    refine lv_iconst (v := -1) hx hb dX6_put_8 (by decide) ?_
    exact z_iret X hP hS hr hlocks h dX6_put_9
