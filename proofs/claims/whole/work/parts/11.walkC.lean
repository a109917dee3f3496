abbrev rmX6_sheets : Room := { frames := 8, cells := 0, slots := 0, locals := 176 }
set_option maxHeartbeats 4000000 in
set_option maxRecDepth 100000 in
theorem kX6_sheets {l : Launch} {D : va_G} {a : Nat → Nat} {cI cJ cC : ClassId} {adK adV : Nat → Nat}  {s τ : ZS} {r : Int32} (h : fX6_sheets  s = some (r, τ)) : zMi (zcC a cI cJ cC) 41 a D [(cI, .int), (cJ, .long)] (zEC adK adV) l yX6_sheets wsX6_sheets rmX6_sheets [.ref (a 0)] s r τ := by
  refine z_start (cc := cX6_sheets) (maxL := 3) (ret := (some .int)) RX6 rfl (by decide) rfl (Nat.le_of_ble_eq_true rfl) ?_
  intro p e st m args below meth c ls H locs X hr hlocks hA hE hP hS hl
  obtain ⟨hx, hb, hml, hown, hts, -⟩ := id X
  have hG := zEC_good adK adV
  have inX3 : ∀ w ∈ u_ws RX3 TX3 10, w ∈ wsX6_sheets := by decide +kernel
  have inX4 : ∀ w ∈ u_ws RX4 TX4 9, w ∈ wsX6_sheets := by decide +kernel
  have inX6 : ∀ w ∈ u_ws RX6 TX6 12, w ∈ wsX6_sheets := by decide +kernel
  have w50 : ∀  (n : Nat) (x2 : Int32) (s : ZS) (H : Heap) (locs : List Loc) (ls : Array Slot), fX6_sheets_50n  n (x2, s) = some (r, τ) → va_P D vwCl (zW (zcC a cI cJ cC) 41 a s) H → va_S (zF 41 a st.heap.size) st.heap H locs → lv_has ls 3 [(0, .ref (a 0)), (2, .int x2)] → W p l e rmX6_sheets st m args below meth c H locs 0 0 (MQ below (va_Qi (fun (r' : Int32) (τ' : ZS) => r' = r ∧ τ' = τ) (zPost (zcC a cI cJ cC) 41 a D [(cI, .int), (cJ, .long)]) (zF 41 a st.heap.size)) args st 0 0 (zF 41 a st.heap.size)) (F0 m 50 ls []) := by
    intro  n
    induction n with
    | zero => intro x2 s H locs ls h; exact zloop_0 h
    | succ n ih =>
      intro x2 s H locs ls h hP hS hl
      have h : fX6_sheets_50b  (fun x2 s => fX6_sheets_50n  n (x2, s)) x2 s = some (r, τ) := h
      refine lv_iload_n hx hb dX6_sheets_50 rfl (lv_at hl 1 rfl) ?_
      refine lv_aload_n hx hb dX6_sheets_51 rfl (lv_at hl 0 rfl) ?_
      refine z_get (C := RX6) (T := TX6) (N := 12) X inX6 hP 0 (by decide) (zcC_0 _ _ _ _ _ _) rfl 5 (by decide) rfl (by decide +kernel) rfl dX6_sheets_52 ?_
      refine z_get (C := RX4) (T := TX4) (N := 9) X inX4 hP 26 (by decide) (zcC_26 _ _ _ _ _ _) rfl 2 (by decide) rfl (by decide +kernel) rfl dX6_sheets_55 ?_
      refine lv_icmp_ge (tgt := 102) hx hb dX6_sheets_58 (by decide) (fun c1 => ?_) (fun c1 => ?_)
      · have h := zif_t h c1
        refine lv_aload_n hx hb dX6_sheets_102 rfl (lv_at hl 0 rfl) ?_
        refine z_get (C := RX6) (T := TX6) (N := 12) X inX6 hP 0 (by decide) (zcC_0 _ _ _ _ _ _) rfl 0 (by decide) rfl (by decide +kernel) rfl dX6_sheets_103 ?_
        refine z_get (C := RX3) (T := TX3) (N := 10) X inX3 hP 1 (by decide) (zcC_1 _ _ _ _ _ _) rfl 0 (by decide) rfl (by decide +kernel) rfl dX6_sheets_106 ?_
        exact z_iret X hP hS hr hlocks h dX6_sheets_109
      · have h := zif_f h c1
        refine lv_aload_n hx hb dX6_sheets_61 rfl (lv_at hl 0 rfl) ?_
        refine z_get (C := RX6) (T := TX6) (N := 12) X inX6 hP 0 (by decide) (zcC_0 _ _ _ _ _ _) rfl 0 (by decide) rfl (by decide +kernel) rfl dX6_sheets_62 ?_
        refine lv_aload_n hx hb dX6_sheets_65 rfl (lv_at hl 0 rfl) ?_
        refine z_get (C := RX6) (T := TX6) (N := 12) X inX6 hP 0 (by decide) (zcC_0 _ _ _ _ _ _) rfl 5 (by decide) rfl (by decide +kernel) rfl dX6_sheets_66 ?_
        refine z_get (C := RX4) (T := TX4) (N := 9) X inX4 hP 26 (by decide) (zcC_26 _ _ _ _ _ _) rfl 3 (by decide) rfl (by decide +kernel) rfl dX6_sheets_69 ?_
        refine lv_iload_n hx hb dX6_sheets_72 rfl (lv_at hl 1 rfl) ?_
        obtain ⟨g2, h⟩ := zg_some h
        refine z_iald X hP 28 0 (by decide) (zcC_28 _ _ _ _ _ _) rfl g2 dX6_sheets_73 ?_
        refine lv_aload_n hx hb dX6_sheets_74 rfl (lv_at hl 0 rfl) ?_
        refine z_get (C := RX6) (T := TX6) (N := 12) X inX6 hP 0 (by decide) (zcC_0 _ _ _ _ _ _) rfl 5 (by decide) rfl (by decide +kernel) rfl dX6_sheets_75 ?_
        refine z_get (C := RX4) (T := TX4) (N := 9) X inX4 hP 26 (by decide) (zcC_26 _ _ _ _ _ _) rfl 4 (by decide) rfl (by decide +kernel) rfl dX6_sheets_78 ?_
        refine lv_iload_n hx hb dX6_sheets_81 rfl (lv_at hl 1 rfl) ?_
        obtain ⟨g3, h⟩ := zg_some h
        refine z_iald X hP 29 0 (by decide) (zcC_29 _ _ _ _ _ _) rfl g3 dX6_sheets_82 ?_
        refine lv_aload_n hx hb dX6_sheets_83 rfl (lv_at hl 0 rfl) ?_
        refine z_get (C := RX6) (T := TX6) (N := 12) X inX6 hP 0 (by decide) (zcC_0 _ _ _ _ _ _) rfl 5 (by decide) rfl (by decide +kernel) rfl dX6_sheets_84 ?_
        refine z_get (C := RX4) (T := TX4) (N := 9) X inX4 hP 26 (by decide) (zcC_26 _ _ _ _ _ _) rfl 5 (by decide) rfl (by decide +kernel) rfl dX6_sheets_87 ?_
        refine lv_iload_n hx hb dX6_sheets_90 rfl (lv_at hl 1 rfl) ?_
        refine lv_iconst (v := 5) hx hb dX6_sheets_91 (by decide) ?_
        refine lv_imul hx hb dX6_sheets_92 ?_
        obtain ⟨u4, s4, e4, h⟩ := zb_some h
        refine z_callv hS (z_runV (As := [.int ((s).1 28 (x2).toNatClampNeg), .int ((s).1 29 (x2).toNatClampNeg), .ref (a 30), .int (x2 * (5 : Int32))]) (rest := []) X hG hA hE hP hS 1 (kX3_addSheet (l := l) (D := D) (a := a) (cI := cI) (cJ := cJ) (cC := cC) (adK := adK) (adV := adV) e4 _) (cwV 4 hts gX6_sheets_X3_addSheet rfl rfl rfl (by decide +kernel) ⟨Nat.le_of_ble_eq_true rfl, Nat.le_of_ble_eq_true rfl⟩) (by decide) (zcC_1 _ _ _ _ _ _) rfl rfl rfl hl.1 rfl (Nat.le_of_ble_eq_true rfl) dX6_sheets_93) (fun H locs hP hS => ?_)
        refine lv_iinc (v := (x2 + (1 : Int32))) (lv' := [(2, .int (x2 + (1 : Int32))), (0, .ref (a 0))]) hx hb dX6_sheets_96 hl (k := 1) rfl rfl (by decide) rfl (fun ls hl => ?_)
        refine lv_goto (tgt := 50) hx hb dX6_sheets_99 (by decide) ?_
        exact ih ((x2 + (1 : Int32))) (s4) _ _ _ h hP hS (lv_sub hl [1, 0] rfl)
  have hl : lv_has ls 3 [(0, .ref (a 0))] := hl
  refine lv_aload_n hx hb dX6_sheets_0 rfl (lv_at hl 0 rfl) ?_
  refine z_get (C := RX6) (T := TX6) (N := 12) X inX6 hP 0 (by decide) (zcC_0 _ _ _ _ _ _) rfl 5 (by decide) rfl (by decide +kernel) rfl dX6_sheets_1 ?_
  obtain ⟨u1, s1, e1, h⟩ := zb_some h
  refine z_calli hS (z_runV (As := []) (rest := []) X hG hA hE hP hS 26 (kX4_readSheets (l := l) (D := D) (a := a) (cI := cI) (cJ := cJ) (cC := cC) (adK := adK) (adV := adV) e1 _) (cwV 0 hts gX6_sheets_X4_readSheets rfl rfl rfl (by decide +kernel) ⟨Nat.le_of_ble_eq_true rfl, Nat.le_of_ble_eq_true rfl⟩) (by decide) (zcC_26 _ _ _ _ _ _) rfl rfl rfl hl.1 rfl (Nat.le_of_ble_eq_true rfl) dX6_sheets_4) (fun H locs hP hS => ?_)
  refine lv_istore_n (lv' := [(1, .int u1), (0, .ref (a 0))]) hx hb dX6_sheets_7 rfl hl (by decide) rfl (fun ls hl => ?_)
  refine lv_aload_n hx hb dX6_sheets_8 rfl (lv_at hl 1 rfl) ?_
  refine z_get (C := RX6) (T := TX6) (N := 12) X inX6 hP 0 (by decide) (zcC_0 _ _ _ _ _ _) rfl 5 (by decide) rfl (by decide +kernel) rfl dX6_sheets_9 ?_
  refine lv_iconst (v := 0) hx hb dX6_sheets_12 (by decide) ?_
  refine z_put (ty := .int) (x := (0 : Int32)) (C := RX4) (T := TX4) (N := 9) X inX4 tyX4 tyX4_ok nmX4 hA hP hS 26 (by decide) (zcC_26 _ _ _ _ _ _) rfl 1 (by decide) rfl (by decide +kernel) rfl (by decide +kernel) rfl rfl (Nat.le_of_ble_eq_true rfl) rfl dX6_sheets_13 (fun H locs hP hS => ?_)
  refine lv_iload_n hx hb dX6_sheets_16 rfl (lv_at hl 0 rfl) ?_
  refine lv_if_lt (tgt := 25) hx hb dX6_sheets_17 (by decide) (fun c2 => ?_) (fun c2 => ?_)
  · have h := zif_t h c2
    refine lv_aload_n hx hb dX6_sheets_25 rfl (lv_at hl 1 rfl) ?_
    refine z_get (C := RX6) (T := TX6) (N := 12) X inX6 hP 0 (by decide) (zcC_0 _ _ _ _ _ _) rfl 0 (by decide) rfl (by decide +kernel) rfl dX6_sheets_26 ?_
    refine z_get (C := RX3) (T := TX3) (N := 10) X inX3 hP 1 (by decide) (zcC_1 _ _ _ _ _ _) rfl 0 (by decide) rfl (by decide +kernel) rfl dX6_sheets_29 ?_
    refine lv_aload_n hx hb dX6_sheets_32 rfl (lv_at hl 1 rfl) ?_
    refine z_get (C := RX6) (T := TX6) (N := 12) X inX6 hP 0 (by decide) (zcC_0 _ _ _ _ _ _) rfl 5 (by decide) rfl (by decide +kernel) rfl dX6_sheets_33 ?_
    refine z_get (C := RX4) (T := TX4) (N := 9) X inX4 hP 26 (by decide) (zcC_26 _ _ _ _ _ _) rfl 2 (by decide) rfl (by decide +kernel) rfl dX6_sheets_36 ?_
    refine lv_iadd hx hb dX6_sheets_39 ?_
    refine lv_bipush (v := 8) hx hb dX6_sheets_40 (by decide) ?_
    refine lv_icmp_le (tgt := 48) hx hb dX6_sheets_42 (by decide) (fun c3 => ?_) (fun c3 => ?_)
    · have h := zif_t h c3
      refine lv_iconst (v := 0) hx hb dX6_sheets_48 (by decide) ?_
      refine lv_istore_n (lv' := [(2, .int (0 : Int32)), (1, .int u1), (0, .ref (a 0))]) hx hb dX6_sheets_49 rfl hl (by decide) rfl (fun ls hl => ?_)
      exact w50  zN ((0 : Int32)) ((zI s1 26 1 (0 : Int32))) _ _ _ h hP hS (lv_sub hl [2, 0] rfl)
    · have h := zif_f h c3
      refine lv_bipush (v := -4) hx hb dX6_sheets_45 (by decide) ?_
      exact z_iret X hP hS hr hlocks h dX6_sheets_47
  · have h := zif_f h c2
    refine lv_bipush (v := -100) hx hb dX6_sheets_20 (by decide) ?_
    refine lv_iload_n hx hb dX6_sheets_22 rfl (lv_at hl 0 rfl) ?_
    refine lv_isub hx hb dX6_sheets_23 ?_
    exact z_iret X hP hS hr hlocks h dX6_sheets_24
abbrev rmX3_hasSheet : Room := { frames := 1, cells := 0, slots := 0, locals := 21 }
set_option maxHeartbeats 4000000 in
set_option maxRecDepth 100000 in
theorem kX3_hasSheet {l : Launch} {D : va_G} {a : Nat → Nat} {cI cJ cC : ClassId} {adK adV : Nat → Nat} {x1 : Int32} {s τ : ZS} {r : Int32} (h : fX3_hasSheet x1 s = some (r, τ)) : zMi (zcC a cI cJ cC) 41 a D [(cI, .int), (cJ, .long)] (zEC adK adV) l yX3_hasSheet wsX3_hasSheet rmX3_hasSheet [.ref (a 1), .int x1] s r τ := by
  refine z_start (cc := cX3_hasSheet) (maxL := 2) (ret := (some .boolean)) RX3 rfl (by decide) rfl (Nat.le_of_ble_eq_true rfl) ?_
  intro p e st m args below meth c ls H locs X hr hlocks hA hE hP hS hl
  obtain ⟨hx, hb, hml, hown, hts, -⟩ := id X
  have hG := zEC_good adK adV
  have inX3 : ∀ w ∈ u_ws RX3 TX3 10, w ∈ wsX3_hasSheet := by decide +kernel
  have hl : lv_has ls 2 [(0, .ref (a 1)), (1, .int x1)] := hl
  refine lv_iload_n hx hb dX3_hasSheet_0 rfl (lv_at hl 1 rfl) ?_
  refine lv_aload_n hx hb dX3_hasSheet_1 rfl (lv_at hl 0 rfl) ?_
  refine z_get (C := RX3) (T := TX3) (N := 10) X inX3 hP 1 (by decide) (zcC_1 _ _ _ _ _ _) rfl 0 (by decide) rfl (by decide +kernel) rfl dX3_hasSheet_2 ?_
  obtain ⟨u1, s1, e1, h⟩ := zb_some h
  refine z_calli hS (z_runSN (As := [.int x1, .int ((s).1 1 0)]) (rest := []) X hG hA hE hP hS (kX6_within (l := l) (D := D) (a := a) (cI := cI) (cJ := cJ) (cC := cC) (adK := adK) (adV := adV) e1 _) (va_cnB 2 hts gX3_hasSheet_X6_within_n47 rfl rfl rfl (zE_nest hE 2 rfl) (hts (.initialized RX6) (by decide +kernel)) (by decide +kernel) ⟨Nat.le_of_ble_eq_true rfl, Nat.le_of_ble_eq_true rfl⟩) (by decide +kernel) rfl hl.1 rfl (Nat.le_of_ble_eq_true rfl) dX3_hasSheet_5) (fun H locs hP hS => ?_)
  obtain ⟨g2, h⟩ := zg_some h
  exact z_zret X hP hS hr hlocks (zbo_n g2) h dX3_hasSheet_8
abbrev rmX6_exchange_4 : Room := { frames := 1, cells := 0, slots := 0, locals := 21 }
set_option maxHeartbeats 4000000 in
set_option maxRecDepth 100000 in
theorem kX6_exchange_4 {l : Launch} {D : va_G} {a : Nat → Nat} {cI cJ cC : ClassId} {adK adV : Nat → Nat} {x1 : Int32} {x2 : Int32} {s τ : ZS} {r : Int32} (h : fX6_exchange_4 x1 x2 s = some (r, τ)) : zMi (zcC a cI cJ cC) 41 a D [(cI, .int), (cJ, .long)] (zEC adK adV) l yX6_exchange wsX6_exchange rmX6_exchange_4 [.ref (a 4), .int x1, .int x2] s r τ := by
  refine z_start (cc := cX6_exchange) (maxL := 4) (ret := (some .int)) RX6 rfl (by decide) rfl (Nat.le_of_ble_eq_true rfl) ?_
  intro p e st m args below meth c ls H locs X hr hlocks hA hE hP hS hl
  obtain ⟨hx, hb, hml, hown, hts, -⟩ := id X
  have hG := zEC_good adK adV
  have hl : lv_has ls 4 [(0, .ref (a 4)), (1, .int x1), (2, .int x2)] := hl
  refine lv_iload_n hx hb dX6_exchange_0 rfl (lv_at hl 1 rfl) ?_
  refine lv_aload_n hx hb dX6_exchange_1 rfl (lv_at hl 0 rfl) ?_
  refine z_alen (v := 40) X hP 4 0 (by decide) (zcC_4 _ _ _ _ _ _) rfl rfl dX6_exchange_2 ?_
  obtain ⟨u1, s1, e1, h⟩ := zb_some h
  refine z_calli hS (z_runS (As := [.int x1, .int (40 : Int32)]) (rest := []) X hG hA hE hP hS (kX6_within (l := l) (D := D) (a := a) (cI := cI) (cJ := cJ) (cC := cC) (adK := adK) (adV := adV) e1 _) (va_cwS 2 hts gX6_exchange_X6_within rfl rfl rfl (by decide +kernel) ⟨Nat.le_of_ble_eq_true rfl, Nat.le_of_ble_eq_true rfl⟩) rfl hl.1 rfl (Nat.le_of_ble_eq_true rfl) dX6_exchange_3) (fun H locs hP hS => ?_)
  refine lv_if_ne (tgt := 11) hx hb dX6_exchange_6 (by decide) (fun c2 => ?_) (fun c2 => ?_)
  · have h := zif_f h c2
    refine lv_aload_n hx hb dX6_exchange_11 rfl (lv_at hl 0 rfl) ?_
    refine lv_iload_n hx hb dX6_exchange_12 rfl (lv_at hl 1 rfl) ?_
    obtain ⟨g3, h⟩ := zg_some h
    refine z_iald X hP 4 0 (by decide) (zcC_4 _ _ _ _ _ _) rfl g3 dX6_exchange_13 ?_
    refine lv_istore_n (lv' := [(3, .int ((s1).1 4 (x1).toNatClampNeg)), (0, .ref (a 4)), (1, .int x1), (2, .int x2)]) hx hb dX6_exchange_14 rfl hl (by decide) rfl (fun ls hl => ?_)
    refine lv_aload_n hx hb dX6_exchange_15 rfl (lv_at hl 1 rfl) ?_
    refine lv_iload_n hx hb dX6_exchange_16 rfl (lv_at hl 2 rfl) ?_
    refine lv_iload_n hx hb dX6_exchange_17 rfl (lv_at hl 3 rfl) ?_
    obtain ⟨g4, h⟩ := zg_some h
    refine z_iast X hA hP hS 4 0 (by decide) (zcC_4 _ _ _ _) rfl g4 dX6_exchange_18 (fun H locs hP hS => ?_)
    refine lv_iload_n hx hb dX6_exchange_19 rfl (lv_at hl 0 rfl) ?_
    exact z_iret X hP hS hr hlocks h dX6_exchange_20
  · have h := zif_t h c2
    refine lv_iconst (v := -1) hx hb dX6_exchange_9 (by decide) ?_
    exact z_iret X hP hS hr hlocks h dX6_exchange_10
abbrev rmX6_number : Room := { frames := 2, cells := 0, slots := 0, locals := 44 }
set_option maxHeartbeats 4000000 in
set_option maxRecDepth 100000 in
theorem kX6_number {l : Launch} {D : va_G} {a : Nat → Nat} {cI cJ cC : ClassId} {adK adV : Nat → Nat} {x1 : Int32} {x2 : Int32} {x3 : Int32} {s τ : ZS} {r : Int32} (h : fX6_number x1 x2 x3 s = some (r, τ)) : zMi (zcC a cI cJ cC) 41 a D [(cI, .int), (cJ, .long)] (zEC adK adV) l yX6_number wsX6_number rmX6_number [.ref (a 0), .int x1, .int x2, .int x3] s r τ := by
  refine z_start (cc := cX6_number) (maxL := 4) (ret := (some .int)) RX6 rfl (by decide) rfl (Nat.le_of_ble_eq_true rfl) ?_
  intro p e st m args below meth c ls H locs X hr hlocks hA hE hP hS hl
  obtain ⟨hx, hb, hml, hown, hts, -⟩ := id X
  have hG := zEC_good adK adV
  have inX3 : ∀ w ∈ u_ws RX3 TX3 10, w ∈ wsX6_number := by decide +kernel
  have inX6 : ∀ w ∈ u_ws RX6 TX6 12, w ∈ wsX6_number := by decide +kernel
  have hl : lv_has ls 4 [(0, .ref (a 0)), (1, .int x1), (2, .int x2), (3, .int x3)] := hl
  refine lv_aload_n hx hb dX6_number_0 rfl (lv_at hl 0 rfl) ?_
  refine z_get (C := RX6) (T := TX6) (N := 12) X inX6 hP 0 (by decide) (zcC_0 _ _ _ _ _ _) rfl 0 (by decide) rfl (by decide +kernel) rfl dX6_number_1 ?_
  refine lv_iload_n hx hb dX6_number_4 rfl (lv_at hl 1 rfl) ?_
  obtain ⟨u1, s1, e1, h⟩ := zb_some h
  refine z_calli hS (z_runV (As := [.int x1]) (rest := []) X hG hA hE hP hS 1 (kX3_hasSheet (l := l) (D := D) (a := a) (cI := cI) (cJ := cJ) (cC := cC) (adK := adK) (adV := adV) e1 _) (cwV 1 hts gX6_number_X3_hasSheet rfl rfl rfl (by decide +kernel) ⟨Nat.le_of_ble_eq_true rfl, Nat.le_of_ble_eq_true rfl⟩) (by decide) (zcC_1 _ _ _ _ _ _) rfl rfl rfl hl.1 rfl (Nat.le_of_ble_eq_true rfl) dX6_number_5) (fun H locs hP hS => ?_)
  refine lv_if_eq (tgt := 19) hx hb dX6_number_8 (by decide) (fun c2 => ?_) (fun c2 => ?_)
  · have h := zif_t h c2
    refine lv_iconst (v := -1) hx hb dX6_number_19 (by decide) ?_
    exact z_iret X hP hS hr hlocks h dX6_number_20
  · have h := zif_f h c2
    refine lv_iload_n hx hb dX6_number_11 rfl (lv_at hl 2 rfl) ?_
    refine lv_iconst (v := 5) hx hb dX6_number_12 (by decide) ?_
    obtain ⟨u3, s3, e3, h⟩ := zb_some h
    refine z_calli hS (z_runS (As := [.int x2, .int (5 : Int32)]) (rest := []) X hG hA hE hP hS (kX6_within (l := l) (D := D) (a := a) (cI := cI) (cJ := cJ) (cC := cC) (adK := adK) (adV := adV) e3 _) (va_cwS 2 hts gX6_number_X6_within rfl rfl rfl (by decide +kernel) ⟨Nat.le_of_ble_eq_true rfl, Nat.le_of_ble_eq_true rfl⟩) rfl hl.1 rfl (Nat.le_of_ble_eq_true rfl) dX6_number_13) (fun H locs hP hS => ?_)
    refine lv_if_ne (tgt := 21) hx hb dX6_number_16 (by decide) (fun c4 => ?_) (fun c4 => ?_)
    · have h := zif_f h c4
      refine lv_iload_n hx hb dX6_number_21 rfl (lv_at hl 3 rfl) ?_
      refine lv_bipush (v := 11) hx hb dX6_number_22 (by decide) ?_
      obtain ⟨u5, s5, e5, h⟩ := zb_some h
      refine z_calli hS (z_runS (As := [.int x3, .int (11 : Int32)]) (rest := []) X hG hA hE hP hS (kX6_within (l := l) (D := D) (a := a) (cI := cI) (cJ := cJ) (cC := cC) (adK := adK) (adV := adV) e5 _) (va_cwS 2 hts gX6_number_X6_within rfl rfl rfl (by decide +kernel) ⟨Nat.le_of_ble_eq_true rfl, Nat.le_of_ble_eq_true rfl⟩) rfl hl.1 rfl (Nat.le_of_ble_eq_true rfl) dX6_number_24) (fun H locs hP hS => ?_)
      refine lv_if_ne (tgt := 33) hx hb dX6_number_27 (by decide) (fun c6 => ?_) (fun c6 => ?_)
      · have h := zif_f h c6
        refine lv_aload_n hx hb dX6_number_33 rfl (lv_at hl 0 rfl) ?_
        refine z_get (C := RX6) (T := TX6) (N := 12) X inX6 hP 0 (by decide) (zcC_0 _ _ _ _ _ _) rfl 0 (by decide) rfl (by decide +kernel) rfl dX6_number_34 ?_
        refine z_get (C := RX3) (T := TX3) (N := 10) X inX3 hP 1 (by decide) (zcC_1 _ _ _ _ _ _) rfl 3 (by decide) rfl (by decide +kernel) rfl dX6_number_37 ?_
        refine lv_iload_n hx hb dX6_number_40 rfl (lv_at hl 1 rfl) ?_
        refine lv_iconst (v := 5) hx hb dX6_number_41 (by decide) ?_
        refine lv_imul hx hb dX6_number_42 ?_
        refine lv_iload_n hx hb dX6_number_43 rfl (lv_at hl 2 rfl) ?_
        refine lv_iadd hx hb dX6_number_44 ?_
        refine lv_iload_n hx hb dX6_number_45 rfl (lv_at hl 3 rfl) ?_
        obtain ⟨u7, s7, e7, h⟩ := zb_some h
        refine z_calli hS (z_runS (As := [.ref (a 4), .int ((x1 * (5 : Int32)) + x2), .int x3]) (rest := []) X hG hA hE hP hS (kX6_exchange_4 (l := l) (D := D) (a := a) (cI := cI) (cJ := cJ) (cC := cC) (adK := adK) (adV := adV) e7 _) (va_cwS 3 hts gX6_number_X6_exchange rfl rfl rfl (by decide +kernel) ⟨Nat.le_of_ble_eq_true rfl, Nat.le_of_ble_eq_true rfl⟩) rfl hl.1 rfl (Nat.le_of_ble_eq_true rfl) dX6_number_46) (fun H locs hP hS => ?_)
        exact z_iret X hP hS hr hlocks h dX6_number_49
      · have h := zif_t h c6
        refine lv_bipush (v := -2) hx hb dX6_number_30 (by decide) ?_
        exact z_iret X hP hS hr hlocks h dX6_number_32
    · have h := zif_t h c4
      refine lv_iconst (v := -1) hx hb dX6_number_19 (by decide) ?_
      exact z_iret X hP hS hr hlocks h dX6_number_20
abbrev rmX6_exchange_2 : Room := { frames := 1, cells := 0, slots := 0, locals := 21 }
set_option maxHeartbeats 4000000 in
set_option maxRecDepth 100000 in
theorem kX6_exchange_2 {l : Launch} {D : va_G} {a : Nat → Nat} {cI cJ cC : ClassId} {adK adV : Nat → Nat} {x1 : Int32} {x2 : Int32} {s τ : ZS} {r : Int32} (h : fX6_exchange_2 x1 x2 s = some (r, τ)) : zMi (zcC a cI cJ cC) 41 a D [(cI, .int), (cJ, .long)] (zEC adK adV) l yX6_exchange wsX6_exchange rmX6_exchange_2 [.ref (a 2), .int x1, .int x2] s r τ := by
  refine z_start (cc := cX6_exchange) (maxL := 4) (ret := (some .int)) RX6 rfl (by decide) rfl (Nat.le_of_ble_eq_true rfl) ?_
  intro p e st m args below meth c ls H locs X hr hlocks hA hE hP hS hl
  obtain ⟨hx, hb, hml, hown, hts, -⟩ := id X
  have hG := zEC_good adK adV
  have hl : lv_has ls 4 [(0, .ref (a 2)), (1, .int x1), (2, .int x2)] := hl
  refine lv_iload_n hx hb dX6_exchange_0 rfl (lv_at hl 1 rfl) ?_
  refine lv_aload_n hx hb dX6_exchange_1 rfl (lv_at hl 0 rfl) ?_
  refine z_alen (v := 8) X hP 2 0 (by decide) (zcC_2 _ _ _ _ _ _) rfl rfl dX6_exchange_2 ?_
  obtain ⟨u1, s1, e1, h⟩ := zb_some h
  refine z_calli hS (z_runS (As := [.int x1, .int (8 : Int32)]) (rest := []) X hG hA hE hP hS (kX6_within (l := l) (D := D) (a := a) (cI := cI) (cJ := cJ) (cC := cC) (adK := adK) (adV := adV) e1 _) (va_cwS 2 hts gX6_exchange_X6_within rfl rfl rfl (by decide +kernel) ⟨Nat.le_of_ble_eq_true rfl, Nat.le_of_ble_eq_true rfl⟩) rfl hl.1 rfl (Nat.le_of_ble_eq_true rfl) dX6_exchange_3) (fun H locs hP hS => ?_)
  refine lv_if_ne (tgt := 11) hx hb dX6_exchange_6 (by decide) (fun c2 => ?_) (fun c2 => ?_)
  · have h := zif_f h c2
    refine lv_aload_n hx hb dX6_exchange_11 rfl (lv_at hl 0 rfl) ?_
    refine lv_iload_n hx hb dX6_exchange_12 rfl (lv_at hl 1 rfl) ?_
    obtain ⟨g3, h⟩ := zg_some h
    refine z_iald X hP 2 0 (by decide) (zcC_2 _ _ _ _ _ _) rfl g3 dX6_exchange_13 ?_
    refine lv_istore_n (lv' := [(3, .int ((s1).1 2 (x1).toNatClampNeg)), (0, .ref (a 2)), (1, .int x1), (2, .int x2)]) hx hb dX6_exchange_14 rfl hl (by decide) rfl (fun ls hl => ?_)
    refine lv_aload_n hx hb dX6_exchange_15 rfl (lv_at hl 1 rfl) ?_
    refine lv_iload_n hx hb dX6_exchange_16 rfl (lv_at hl 2 rfl) ?_
    refine lv_iload_n hx hb dX6_exchange_17 rfl (lv_at hl 3 rfl) ?_
    obtain ⟨g4, h⟩ := zg_some h
    refine z_iast X hA hP hS 2 0 (by decide) (zcC_2 _ _ _ _) rfl g4 dX6_exchange_18 (fun H locs hP hS => ?_)
    refine lv_iload_n hx hb dX6_exchange_19 rfl (lv_at hl 0 rfl) ?_
    exact z_iret X hP hS hr hlocks h dX6_exchange_20
  · have h := zif_t h c2
    refine lv_iconst (v := -1) hx hb dX6_exchange_9 (by decide) ?_
    exact z_iret X hP hS hr hlocks h dX6_exchange_10
abbrev rmX6_exchange_3 : Room := { frames := 1, cells := 0, slots := 0, locals := 21 }
set_option maxHeartbeats 4000000 in
set_option maxRecDepth 100000 in
theorem kX6_exchange_3 {l : Launch} {D : va_G} {a : Nat → Nat} {cI cJ cC : ClassId} {adK adV : Nat → Nat} {x1 : Int32} {x2 : Int32} {s τ : ZS} {r : Int32} (h : fX6_exchange_3 x1 x2 s = some (r, τ)) : zMi (zcC a cI cJ cC) 41 a D [(cI, .int), (cJ, .long)] (zEC adK adV) l yX6_exchange wsX6_exchange rmX6_exchange_3 [.ref (a 3), .int x1, .int x2] s r τ := by
  refine z_start (cc := cX6_exchange) (maxL := 4) (ret := (some .int)) RX6 rfl (by decide) rfl (Nat.le_of_ble_eq_true rfl) ?_
  intro p e st m args below meth c ls H locs X hr hlocks hA hE hP hS hl
  obtain ⟨hx, hb, hml, hown, hts, -⟩ := id X
  have hG := zEC_good adK adV
  have hl : lv_has ls 4 [(0, .ref (a 3)), (1, .int x1), (2, .int x2)] := hl
  refine lv_iload_n hx hb dX6_exchange_0 rfl (lv_at hl 1 rfl) ?_
  refine lv_aload_n hx hb dX6_exchange_1 rfl (lv_at hl 0 rfl) ?_
  refine z_alen (v := 8) X hP 3 0 (by decide) (zcC_3 _ _ _ _ _ _) rfl rfl dX6_exchange_2 ?_
  obtain ⟨u1, s1, e1, h⟩ := zb_some h
  refine z_calli hS (z_runS (As := [.int x1, .int (8 : Int32)]) (rest := []) X hG hA hE hP hS (kX6_within (l := l) (D := D) (a := a) (cI := cI) (cJ := cJ) (cC := cC) (adK := adK) (adV := adV) e1 _) (va_cwS 2 hts gX6_exchange_X6_within rfl rfl rfl (by decide +kernel) ⟨Nat.le_of_ble_eq_true rfl, Nat.le_of_ble_eq_true rfl⟩) rfl hl.1 rfl (Nat.le_of_ble_eq_true rfl) dX6_exchange_3) (fun H locs hP hS => ?_)
  refine lv_if_ne (tgt := 11) hx hb dX6_exchange_6 (by decide) (fun c2 => ?_) (fun c2 => ?_)
  · have h := zif_f h c2
    refine lv_aload_n hx hb dX6_exchange_11 rfl (lv_at hl 0 rfl) ?_
    refine lv_iload_n hx hb dX6_exchange_12 rfl (lv_at hl 1 rfl) ?_
    obtain ⟨g3, h⟩ := zg_some h
    refine z_iald X hP 3 0 (by decide) (zcC_3 _ _ _ _ _ _) rfl g3 dX6_exchange_13 ?_
    refine lv_istore_n (lv' := [(3, .int ((s1).1 3 (x1).toNatClampNeg)), (0, .ref (a 3)), (1, .int x1), (2, .int x2)]) hx hb dX6_exchange_14 rfl hl (by decide) rfl (fun ls hl => ?_)
    refine lv_aload_n hx hb dX6_exchange_15 rfl (lv_at hl 1 rfl) ?_
    refine lv_iload_n hx hb dX6_exchange_16 rfl (lv_at hl 2 rfl) ?_
    refine lv_iload_n hx hb dX6_exchange_17 rfl (lv_at hl 3 rfl) ?_
    obtain ⟨g4, h⟩ := zg_some h
    refine z_iast X hA hP hS 3 0 (by decide) (zcC_3 _ _ _ _) rfl g4 dX6_exchange_18 (fun H locs hP hS => ?_)
    refine lv_iload_n hx hb dX6_exchange_19 rfl (lv_at hl 0 rfl) ?_
    exact z_iret X hP hS hr hlocks h dX6_exchange_20
  · have h := zif_t h c2
    refine lv_iconst (v := -1) hx hb dX6_exchange_9 (by decide) ?_
    exact z_iret X hP hS hr hlocks h dX6_exchange_10
abbrev rmX6_becomes : Room := { frames := 2, cells := 0, slots := 0, locals := 44 }
set_option maxHeartbeats 4000000 in
set_option maxRecDepth 100000 in
theorem kX6_becomes {l : Launch} {D : va_G} {a : Nat → Nat} {cI cJ cC : ClassId} {adK adV : Nat → Nat} {x1 : Int32} {x2 : Int32} {x3 : Int32} {s τ : ZS} {r : Int32} (h : fX6_becomes x1 x2 x3 s = some (r, τ)) : zMi (zcC a cI cJ cC) 41 a D [(cI, .int), (cJ, .long)] (zEC adK adV) l yX6_becomes wsX6_becomes rmX6_becomes [.ref (a 0), .int x1, .int x2, .int x3] s r τ := by
  refine z_start (cc := cX6_becomes) (maxL := 4) (ret := (some .int)) RX6 rfl (by decide) rfl (Nat.le_of_ble_eq_true rfl) ?_
  intro p e st m args below meth c ls H locs X hr hlocks hA hE hP hS hl
  obtain ⟨hx, hb, hml, hown, hts, -⟩ := id X
  have hG := zEC_good adK adV
  have inX3 : ∀ w ∈ u_ws RX3 TX3 10, w ∈ wsX6_becomes := by decide +kernel
  have inX6 : ∀ w ∈ u_ws RX6 TX6 12, w ∈ wsX6_becomes := by decide +kernel
  have hl : lv_has ls 4 [(0, .ref (a 0)), (1, .int x1), (2, .int x2), (3, .int x3)] := hl
  refine lv_aload_n hx hb dX6_becomes_0 rfl (lv_at hl 0 rfl) ?_
  refine z_get (C := RX6) (T := TX6) (N := 12) X inX6 hP 0 (by decide) (zcC_0 _ _ _ _ _ _) rfl 0 (by decide) rfl (by decide +kernel) rfl dX6_becomes_1 ?_
  refine lv_iload_n hx hb dX6_becomes_4 rfl (lv_at hl 1 rfl) ?_
  obtain ⟨u1, s1, e1, h⟩ := zb_some h
  refine z_calli hS (z_runV (As := [.int x1]) (rest := []) X hG hA hE hP hS 1 (kX3_hasSheet (l := l) (D := D) (a := a) (cI := cI) (cJ := cJ) (cC := cC) (adK := adK) (adV := adV) e1 _) (cwV 1 hts gX6_becomes_X3_hasSheet rfl rfl rfl (by decide +kernel) ⟨Nat.le_of_ble_eq_true rfl, Nat.le_of_ble_eq_true rfl⟩) (by decide) (zcC_1 _ _ _ _ _ _) rfl rfl rfl hl.1 rfl (Nat.le_of_ble_eq_true rfl) dX6_becomes_5) (fun H locs hP hS => ?_)
  refine lv_if_eq (tgt := 20) hx hb dX6_becomes_8 (by decide) (fun c2 => ?_) (fun c2 => ?_)
  · have h := zif_t h c2
    refine lv_iconst (v := -1) hx hb dX6_becomes_20 (by decide) ?_
    exact z_iret X hP hS hr hlocks h dX6_becomes_21
  · have h := zif_f h c2
    refine lv_iload_n hx hb dX6_becomes_11 rfl (lv_at hl 2 rfl) ?_
    refine lv_bipush (v := 6) hx hb dX6_becomes_12 (by decide) ?_
    obtain ⟨u3, s3, e3, h⟩ := zb_some h
    refine z_calli hS (z_runS (As := [.int x2, .int (6 : Int32)]) (rest := []) X hG hA hE hP hS (kX6_within (l := l) (D := D) (a := a) (cI := cI) (cJ := cJ) (cC := cC) (adK := adK) (adV := adV) e3 _) (va_cwS 2 hts gX6_becomes_X6_within rfl rfl rfl (by decide +kernel) ⟨Nat.le_of_ble_eq_true rfl, Nat.le_of_ble_eq_true rfl⟩) rfl hl.1 rfl (Nat.le_of_ble_eq_true rfl) dX6_becomes_14) (fun H locs hP hS => ?_)
    refine lv_if_ne (tgt := 22) hx hb dX6_becomes_17 (by decide) (fun c4 => ?_) (fun c4 => ?_)
    · have h := zif_f h c4
      refine lv_iload_n hx hb dX6_becomes_22 rfl (lv_at hl 3 rfl) ?_
      refine lv_bipush (v := 10) hx hb dX6_becomes_23 (by decide) ?_
      obtain ⟨u5, s5, e5, h⟩ := zb_some h
      refine z_calli hS (z_runS (As := [.int x3, .int (10 : Int32)]) (rest := []) X hG hA hE hP hS (kX6_within (l := l) (D := D) (a := a) (cI := cI) (cJ := cJ) (cC := cC) (adK := adK) (adV := adV) e5 _) (va_cwS 2 hts gX6_becomes_X6_within rfl rfl rfl (by decide +kernel) ⟨Nat.le_of_ble_eq_true rfl, Nat.le_of_ble_eq_true rfl⟩) rfl hl.1 rfl (Nat.le_of_ble_eq_true rfl) dX6_becomes_25) (fun H locs hP hS => ?_)
      refine lv_if_ne (tgt := 34) hx hb dX6_becomes_28 (by decide) (fun c6 => ?_) (fun c6 => ?_)
      · have h := zif_f h c6
        refine lv_bipush (v := 10) hx hb dX6_becomes_34 (by decide) ?_
        refine lv_aload_n hx hb dX6_becomes_36 rfl (lv_at hl 0 rfl) ?_
        refine z_get (C := RX6) (T := TX6) (N := 12) X inX6 hP 0 (by decide) (zcC_0 _ _ _ _ _ _) rfl 0 (by decide) rfl (by decide +kernel) rfl dX6_becomes_37 ?_
        refine z_get (C := RX3) (T := TX3) (N := 10) X inX3 hP 1 (by decide) (zcC_1 _ _ _ _ _ _) rfl 1 (by decide) rfl (by decide +kernel) rfl dX6_becomes_40 ?_
        refine lv_iload_n hx hb dX6_becomes_43 rfl (lv_at hl 1 rfl) ?_
        refine lv_iload_n hx hb dX6_becomes_44 rfl (lv_at hl 2 rfl) ?_
        obtain ⟨u7, s7, e7, h⟩ := zb_some h
        refine z_calli hS (z_runS (As := [.ref (a 2), .int x1, .int x2]) (rest := [.int (10 : Int32)]) X hG hA hE hP hS (kX6_exchange_2 (l := l) (D := D) (a := a) (cI := cI) (cJ := cJ) (cC := cC) (adK := adK) (adV := adV) e7 _) (va_cwS 3 hts gX6_becomes_X6_exchange rfl rfl rfl (by decide +kernel) ⟨Nat.le_of_ble_eq_true rfl, Nat.le_of_ble_eq_true rfl⟩) rfl hl.1 rfl (Nat.le_of_ble_eq_true rfl) dX6_becomes_45) (fun H locs hP hS => ?_)
        refine lv_imul hx hb dX6_becomes_48 ?_
        refine lv_aload_n hx hb dX6_becomes_49 rfl (lv_at hl 0 rfl) ?_
        refine z_get (C := RX6) (T := TX6) (N := 12) X inX6 hP 0 (by decide) (zcC_0 _ _ _ _ _ _) rfl 0 (by decide) rfl (by decide +kernel) rfl dX6_becomes_50 ?_
        refine z_get (C := RX3) (T := TX3) (N := 10) X inX3 hP 1 (by decide) (zcC_1 _ _ _ _ _ _) rfl 2 (by decide) rfl (by decide +kernel) rfl dX6_becomes_53 ?_
        refine lv_iload_n hx hb dX6_becomes_56 rfl (lv_at hl 1 rfl) ?_
        refine lv_iload_n hx hb dX6_becomes_57 rfl (lv_at hl 3 rfl) ?_
        obtain ⟨u8, s8, e8, h⟩ := zb_some h
        refine z_calli hS (z_runS (As := [.ref (a 3), .int x1, .int x3]) (rest := [.int ((10 : Int32) * u7)]) X hG hA hE hP hS (kX6_exchange_3 (l := l) (D := D) (a := a) (cI := cI) (cJ := cJ) (cC := cC) (adK := adK) (adV := adV) e8 _) (va_cwS 3 hts gX6_becomes_X6_exchange rfl rfl rfl (by decide +kernel) ⟨Nat.le_of_ble_eq_true rfl, Nat.le_of_ble_eq_true rfl⟩) rfl hl.1 rfl (Nat.le_of_ble_eq_true rfl) dX6_becomes_58) (fun H locs hP hS => ?_)
        refine lv_iadd hx hb dX6_becomes_61 ?_
        exact z_iret X hP hS hr hlocks h dX6_becomes_62
      · have h := zif_t h c6
        refine lv_bipush (v := -2) hx hb dX6_becomes_31 (by decide) ?_
        exact z_iret X hP hS hr hlocks h dX6_becomes_33
    · have h := zif_t h c4
      refine lv_iconst (v := -1) hx hb dX6_becomes_20 (by decide) ?_
      exact z_iret X hP hS hr hlocks h dX6_becomes_21
abbrev rmX3_greatestNumber : Room := { frames := 1, cells := 0, slots := 0, locals := 21 }
set_option maxHeartbeats 4000000 in
set_option maxRecDepth 100000 in
theorem kX3_greatestNumber {l : Launch} {D : va_G} {a : Nat → Nat} {cI cJ cC : ClassId} {adK adV : Nat → Nat} {x1 : Int32} {s τ : ZS} {r : Int32} (h : fX3_greatestNumber x1 s = some (r, τ)) : zMi (zcC a cI cJ cC) 41 a D [(cI, .int), (cJ, .long)] (zEC adK adV) l yX3_greatestNumber wsX3_greatestNumber rmX3_greatestNumber [.ref (a 1), .int x1] s r τ := by
  refine z_start (cc := cX3_greatestNumber) (maxL := 4) (ret := (some .int)) RX3 rfl (by decide) rfl (Nat.le_of_ble_eq_true rfl) ?_
  intro p e st m args below meth c ls H locs X hr hlocks hA hE hP hS hl
  obtain ⟨hx, hb, hml, hown, hts, -⟩ := id X
  have hG := zEC_good adK adV
  have inX3 : ∀ w ∈ u_ws RX3 TX3 10, w ∈ wsX3_greatestNumber := by decide +kernel
  have w4 : ∀  (n : Nat) (x1 : Int32) (x2 : Int32) (x3 : Int32) (s : ZS) (H : Heap) (locs : List Loc) (ls : Array Slot), fX3_greatestNumber_4n  n (x1, x2, x3, s) = some (r, τ) → va_P D vwCl (zW (zcC a cI cJ cC) 41 a s) H → va_S (zF 41 a st.heap.size) st.heap H locs → lv_has ls 4 [(0, .ref (a 1)), (1, .int x1), (2, .int x2), (3, .int x3)] → W p l e rmX3_greatestNumber st m args below meth c H locs 0 0 (MQ below (va_Qi (fun (r' : Int32) (τ' : ZS) => r' = r ∧ τ' = τ) (zPost (zcC a cI cJ cC) 41 a D [(cI, .int), (cJ, .long)]) (zF 41 a st.heap.size)) args st 0 0 (zF 41 a st.heap.size)) (F0 m 4 ls []) := by
    intro  n
    induction n with
    | zero => intro x1 x2 x3 s H locs ls h; exact zloop_0 h
    | succ n ih =>
      intro x1 x2 x3 s H locs ls h hP hS hl
      have h : fX3_greatestNumber_4b  (fun x1 x2 x3 s => fX3_greatestNumber_4n  n (x1, x2, x3, s)) x1 x2 x3 s = some (r, τ) := h
      refine lv_iload_n hx hb dX3_greatestNumber_4 rfl (lv_at hl 3 rfl) ?_
      refine lv_iconst (v := 5) hx hb dX3_greatestNumber_5 (by decide) ?_
      refine lv_icmp_ge (tgt := 30) hx hb dX3_greatestNumber_6 (by decide) (fun c1 => ?_) (fun c1 => ?_)
      · have h := zif_t h c1
        refine lv_iload_n hx hb dX3_greatestNumber_30 rfl (lv_at hl 2 rfl) ?_
        exact z_iret X hP hS hr hlocks h dX3_greatestNumber_31
      · have h := zif_f h c1
        refine lv_iload_n hx hb dX3_greatestNumber_9 rfl (lv_at hl 2 rfl) ?_
        refine lv_aload_n hx hb dX3_greatestNumber_10 rfl (lv_at hl 0 rfl) ?_
        refine z_get (C := RX3) (T := TX3) (N := 10) X inX3 hP 1 (by decide) (zcC_1 _ _ _ _ _ _) rfl 3 (by decide) rfl (by decide +kernel) rfl dX3_greatestNumber_11 ?_
        refine lv_iload_n hx hb dX3_greatestNumber_14 rfl (lv_at hl 1 rfl) ?_
        refine lv_iconst (v := 5) hx hb dX3_greatestNumber_15 (by decide) ?_
        refine lv_imul hx hb dX3_greatestNumber_16 ?_
        refine lv_iload_n hx hb dX3_greatestNumber_17 rfl (lv_at hl 3 rfl) ?_
        refine lv_iadd hx hb dX3_greatestNumber_18 ?_
        obtain ⟨g2, h⟩ := zg_some h
        refine z_iald X hP 4 0 (by decide) (zcC_4 _ _ _ _ _ _) rfl g2 dX3_greatestNumber_19 ?_
        refine va_mmax hx hb (hml.trans hl.1.symm) hown (hts (.methodLink RX3 65 Lib.Math.max.name) (by decide +kernel)) (hts _ (by decide +kernel)) (hts _ (by decide +kernel)) (hts _ (by decide +kernel)) (Nat.le_of_ble_eq_true rfl) (Nat.le_of_ble_eq_true rfl) (Nat.zero_le _) (Nat.zero_le _) dX3_greatestNumber_20 ?_
        refine lv_istore_n (lv' := [(2, .int (if x2 < ((s).1 4 (((x1 * (5 : Int32)) + x3)).toNatClampNeg) then ((s).1 4 (((x1 * (5 : Int32)) + x3)).toNatClampNeg) else x2)), (0, .ref (a 1)), (1, .int x1), (3, .int x3)]) hx hb dX3_greatestNumber_23 rfl hl (by decide) rfl (fun ls hl => ?_)
        refine lv_iinc (v := (x3 + (1 : Int32))) (lv' := [(3, .int (x3 + (1 : Int32))), (2, .int (if x2 < ((s).1 4 (((x1 * (5 : Int32)) + x3)).toNatClampNeg) then ((s).1 4 (((x1 * (5 : Int32)) + x3)).toNatClampNeg) else x2)), (0, .ref (a 1)), (1, .int x1)]) hx hb dX3_greatestNumber_24 hl (k := 3) rfl rfl (by decide) rfl (fun ls hl => ?_)
        refine lv_goto (tgt := 4) hx hb dX3_greatestNumber_27 (by decide) ?_
        exact ih (x1) ((if x2 < ((s).1 4 (((x1 * (5 : Int32)) + x3)).toNatClampNeg) then ((s).1 4 (((x1 * (5 : Int32)) + x3)).toNatClampNeg) else x2)) ((x3 + (1 : Int32))) (s) _ _ _ h hP hS (lv_sub hl [2, 3, 1, 0] rfl)
  have hl : lv_has ls 4 [(0, .ref (a 1)), (1, .int x1)] := hl
  refine lv_iconst (v := 0) hx hb dX3_greatestNumber_0 (by decide) ?_
  refine lv_istore_n (lv' := [(2, .int (0 : Int32)), (0, .ref (a 1)), (1, .int x1)]) hx hb dX3_greatestNumber_1 rfl hl (by decide) rfl (fun ls hl => ?_)
  refine lv_iconst (v := 0) hx hb dX3_greatestNumber_2 (by decide) ?_
  refine lv_istore_n (lv' := [(3, .int (0 : Int32)), (2, .int (0 : Int32)), (0, .ref (a 1)), (1, .int x1)]) hx hb dX3_greatestNumber_3 rfl hl (by decide) rfl (fun ls hl => ?_)
  exact w4  zN (x1) ((0 : Int32)) ((0 : Int32)) (s) _ _ _ h hP hS (lv_sub hl [2, 3, 1, 0] rfl)
abbrev rmX3_letsAs : Room := { frames := 2, cells := 0, slots := 0, locals := 44 }
set_option maxHeartbeats 4000000 in
set_option maxRecDepth 100000 in
theorem kX3_letsAs {l : Launch} {D : va_G} {a : Nat → Nat} {cI cJ cC : ClassId} {adK adV : Nat → Nat} {x1 : Int32} {x2 : Int32} {x3 : Int32} {x4 : Int32} {s τ : ZS} {r : Int32} (h : fX3_letsAs x1 x2 x3 x4 s = some (r, τ)) : zMi (zcC a cI cJ cC) 41 a D [(cI, .int), (cJ, .long)] (zEC adK adV) l yX3_letsAs wsX3_letsAs rmX3_letsAs [.ref (a 1), .int x1, .int x2, .int x3, .int x4] s r τ := by
  refine z_start (cc := cX3_letsAs) (maxL := 6) (ret := (some .int)) RX3 rfl (by decide) rfl (Nat.le_of_ble_eq_true rfl) ?_
  intro p e st m args below meth c ls H locs X hr hlocks hA hE hP hS hl
  obtain ⟨hx, hb, hml, hown, hts, -⟩ := id X
  have hG := zEC_good adK adV
  have inX3 : ∀ w ∈ u_ws RX3 TX3 10, w ∈ wsX3_letsAs := by decide +kernel
  have hl : lv_has ls 6 [(0, .ref (a 1)), (1, .int x1), (2, .int x2), (3, .int x3), (4, .int x4)] := hl
  refine lv_aload_n hx hb dX3_letsAs_0 rfl (lv_at hl 0 rfl) ?_
  refine lv_iload_n hx hb dX3_letsAs_1 rfl (lv_at hl 1 rfl) ?_
  obtain ⟨u1, s1, e1, h⟩ := zb_some h
  refine z_calli hS (z_runV (As := [.int x1]) (rest := []) X hG hA hE hP hS 1 (kX3_hasSheet (l := l) (D := D) (a := a) (cI := cI) (cJ := cJ) (cC := cC) (adK := adK) (adV := adV) e1 _) (cwV 1 hts gX3_letsAs_X3_hasSheet rfl rfl rfl (by decide +kernel) ⟨Nat.le_of_ble_eq_true rfl, Nat.le_of_ble_eq_true rfl⟩) (by decide) (zcC_1 _ _ _ _ _ _) rfl rfl rfl hl.1 rfl (Nat.le_of_ble_eq_true rfl) dX3_letsAs_2) (fun H locs hP hS => ?_)
  refine lv_if_eq (tgt := 17) hx hb dX3_letsAs_5 (by decide) (fun c2 => ?_) (fun c2 => ?_)
  · have h := zif_t h c2
    refine lv_iconst (v := 0) hx hb dX3_letsAs_17 (by decide) ?_
    exact z_iret X hP hS hr hlocks h dX3_letsAs_18
  · have h := zif_f h c2
    refine lv_iload hx hb dX3_letsAs_8 (lv_at hl 4 rfl) ?_
    refine lv_iconst (v := 5) hx hb dX3_letsAs_10 (by decide) ?_
    obtain ⟨u3, s3, e3, h⟩ := zb_some h
    refine z_calli hS (z_runSN (As := [.int x4, .int (5 : Int32)]) (rest := []) X hG hA hE hP hS (kX6_within (l := l) (D := D) (a := a) (cI := cI) (cJ := cJ) (cC := cC) (adK := adK) (adV := adV) e3 _) (va_cnB 2 hts gX3_letsAs_X6_within_n47 rfl rfl rfl (zE_nest hE 2 rfl) (hts (.initialized RX6) (by decide +kernel)) (by decide +kernel) ⟨Nat.le_of_ble_eq_true rfl, Nat.le_of_ble_eq_true rfl⟩) (by decide +kernel) rfl hl.1 rfl (Nat.le_of_ble_eq_true rfl) dX3_letsAs_11) (fun H locs hP hS => ?_)
    refine lv_if_ne (tgt := 19) hx hb dX3_letsAs_14 (by decide) (fun c4 => ?_) (fun c4 => ?_)
    · have h := zif_f h c4
      refine lv_aload_n hx hb dX3_letsAs_19 rfl (lv_at hl 0 rfl) ?_
      refine z_get (C := RX3) (T := TX3) (N := 10) X inX3 hP 1 (by decide) (zcC_1 _ _ _ _ _ _) rfl 3 (by decide) rfl (by decide +kernel) rfl dX3_letsAs_20 ?_
      refine lv_iload_n hx hb dX3_letsAs_23 rfl (lv_at hl 1 rfl) ?_
      refine lv_iconst (v := 5) hx hb dX3_letsAs_24 (by decide) ?_
      refine lv_imul hx hb dX3_letsAs_25 ?_
      refine lv_iload hx hb dX3_letsAs_26 (lv_at hl 4 rfl) ?_
      refine lv_iadd hx hb dX3_letsAs_28 ?_
      obtain ⟨g5, h⟩ := zg_some h
      refine z_iald X hP 4 0 (by decide) (zcC_4 _ _ _ _ _ _) rfl g5 dX3_letsAs_29 ?_
      refine lv_istore (lv' := [(5, .int ((s3).1 4 (((x1 * (5 : Int32)) + x4)).toNatClampNeg)), (0, .ref (a 1)), (1, .int x1), (2, .int x2), (3, .int x3), (4, .int x4)]) hx hb dX3_letsAs_30 hl (by decide) rfl (fun ls hl => ?_)
      refine lv_iload_n hx hb dX3_letsAs_32 rfl (lv_at hl 3 rfl) ?_
      by_cases c6 : x2 = (0 : Int32)
      · have h := zif_t h c6
        refine lv_tableIn (tgt := 68) hx hb dX3_letsAs_33 (by rw [c6]; decide) (by rw [c6]; decide) (by rw [c6]; rfl) (by decide) ?_
        refine lv_bipush (v := 10) hx hb dX3_letsAs_68 (by decide) ?_
        refine lv_iload hx hb dX3_letsAs_70 (lv_at hl 0 rfl) ?_
        refine lv_imul hx hb dX3_letsAs_72 ?_
        exact z_iret X hP hS hr hlocks h dX3_letsAs_73
      have h := zif_f h c6
      by_cases c7 : x2 = (1 : Int32)
      · have h := zif_t h c7
        refine lv_tableIn (tgt := 74) hx hb dX3_letsAs_33 (by rw [c7]; decide) (by rw [c7]; decide) (by rw [c7]; rfl) (by decide) ?_
        refine lv_iload hx hb dX3_letsAs_74 (lv_at hl 0 rfl) ?_
        refine lv_iload hx hb dX3_letsAs_76 (lv_at hl 0 rfl) ?_
        refine lv_imul hx hb dX3_letsAs_78 ?_
        exact z_iret X hP hS hr hlocks h dX3_letsAs_79
      have h := zif_f h c7
      by_cases c8 : x2 = (2 : Int32)
      · have h := zif_t h c8
        refine lv_tableIn (tgt := 80) hx hb dX3_letsAs_33 (by rw [c8]; decide) (by rw [c8]; decide) (by rw [c8]; rfl) (by decide) ?_
        refine lv_iload hx hb dX3_letsAs_80 (lv_at hl 0 rfl) ?_
        refine lv_iload_n hx hb dX3_letsAs_82 rfl (lv_at hl 4 rfl) ?_
        refine lv_imul hx hb dX3_letsAs_83 ?_
        exact z_iret X hP hS hr hlocks h dX3_letsAs_84
      have h := zif_f h c8
      by_cases c9 : x2 = (3 : Int32)
      · have h := zif_t h c9
        refine lv_tableIn (tgt := 85) hx hb dX3_letsAs_33 (by rw [c9]; decide) (by rw [c9]; decide) (by rw [c9]; rfl) (by decide) ?_
        refine lv_bipush (v := 100) hx hb dX3_letsAs_85 (by decide) ?_
        refine lv_iload hx hb dX3_letsAs_87 (lv_at hl 0 rfl) ?_
        refine lv_iload_n hx hb dX3_letsAs_89 rfl (lv_at hl 4 rfl) ?_
        refine lv_imul hx hb dX3_letsAs_90 ?_
        refine lv_isub hx hb dX3_letsAs_91 ?_
        exact z_iret X hP hS hr hlocks h dX3_letsAs_92
      have h := zif_f h c9
      by_cases c10 : x2 = (4 : Int32)
      · have h := zif_t h c10
        refine lv_tableIn (tgt := 93) hx hb dX3_letsAs_33 (by rw [c10]; decide) (by rw [c10]; decide) (by rw [c10]; rfl) (by decide) ?_
        refine lv_iload_n hx hb dX3_letsAs_93 rfl (lv_at hl 4 rfl) ?_
        refine lv_iconst (v := 5) hx hb dX3_letsAs_94 (by decide) ?_
        obtain ⟨g11, h⟩ := zg_some h
        refine lv_irem hx hb dX3_letsAs_95 (zne_ne g11) ?_
        refine lv_iload hx hb dX3_letsAs_96 (lv_at hl 5 rfl) ?_
        refine lv_icmp_ne (tgt := 105) hx hb dX3_letsAs_98 (by decide) (fun c12 => ?_) (fun c12 => ?_)
        · have h := zif_f h c12
          refine lv_iload hx hb dX3_letsAs_105 (lv_at hl 0 rfl) ?_
          refine lv_iload hx hb dX3_letsAs_107 (lv_at hl 0 rfl) ?_
          refine lv_imul hx hb dX3_letsAs_109 ?_
          exact z_iret X hP hS hr hlocks h dX3_letsAs_110
        · have h := zif_t h c12
          refine lv_iconst (v := 0) hx hb dX3_letsAs_101 (by decide) ?_
          refine lv_goto (tgt := 110) hx hb dX3_letsAs_102 (by decide) ?_
          exact z_iret X hP hS hr hlocks h dX3_letsAs_110
      have h := zif_f h c10
      refine lv_tableOut (tgt := 111) hx hb dX3_letsAs_33 (by have := lv_neT (a := 0) c6 rfl; have := lv_neT (a := 1) c7 rfl; have := lv_neT (a := 2) c8 rfl; have := lv_neT (a := 3) c9 rfl; have := lv_neT (a := 4) c10 rfl; omega) (by decide) ?_
      refine lv_bipush (v := 10) hx hb dX3_letsAs_111 (by decide) ?_
      refine lv_aload_n hx hb dX3_letsAs_113 rfl (lv_at hl 1 rfl) ?_
      refine lv_iload_n hx hb dX3_letsAs_114 rfl (lv_at hl 2 rfl) ?_
      obtain ⟨u13, s13, e13, h⟩ := zb_some h
      refine z_calli hS (z_runV (As := [.int x1]) (rest := [.int (10 : Int32)]) X hG hA hE hP hS 1 (kX3_greatestNumber (l := l) (D := D) (a := a) (cI := cI) (cJ := cJ) (cC := cC) (adK := adK) (adV := adV) e13 _) (cwV 1 hts gX3_letsAs_X3_greatestNumber rfl rfl rfl (by decide +kernel) ⟨Nat.le_of_ble_eq_true rfl, Nat.le_of_ble_eq_true rfl⟩) (by decide) (zcC_1 _ _ _ _ _ _) rfl rfl rfl hl.1 rfl (Nat.le_of_ble_eq_true rfl) dX3_letsAs_115) (fun H locs hP hS => ?_)
      refine lv_imul hx hb dX3_letsAs_118 ?_
      exact z_iret X hP hS hr hlocks h dX3_letsAs_119
    · have h := zif_t h c4
      refine lv_iconst (v := 0) hx hb dX3_letsAs_17 (by decide) ?_
      exact z_iret X hP hS hr hlocks h dX3_letsAs_18
abbrev rmX6_sheet : Room := { frames := 3, cells := 0, slots := 0, locals := 69 }
set_option maxHeartbeats 4000000 in
set_option maxRecDepth 100000 in
theorem kX6_sheet {l : Launch} {D : va_G} {a : Nat → Nat} {cI cJ cC : ClassId} {adK adV : Nat → Nat} {x1 : Int32} {x2 : Int32} {s τ : ZS} {r : Int32} (h : fX6_sheet x1 x2 s = some (r, τ)) : zMi (zcC a cI cJ cC) 41 a D [(cI, .int), (cJ, .long)] (zEC adK adV) l yX6_sheet wsX6_sheet rmX6_sheet [.ref (a 0), .int x1, .int x2] s r τ := by
  refine z_start (cc := cX6_sheet) (maxL := 3) (ret := (some .int)) RX6 rfl (by decide) rfl (Nat.le_of_ble_eq_true rfl) ?_
  intro p e st m args below meth c ls H locs X hr hlocks hA hE hP hS hl
  obtain ⟨hx, hb, hml, hown, hts, -⟩ := id X
  have hG := zEC_good adK adV
  have inX3 : ∀ w ∈ u_ws RX3 TX3 10, w ∈ wsX6_sheet := by decide +kernel
  have inX6 : ∀ w ∈ u_ws RX6 TX6 12, w ∈ wsX6_sheet := by decide +kernel
  have hl : lv_has ls 3 [(0, .ref (a 0)), (1, .int x1), (2, .int x2)] := hl
  refine lv_aload_n hx hb dX6_sheet_0 rfl (lv_at hl 0 rfl) ?_
  refine z_get (C := RX6) (T := TX6) (N := 12) X inX6 hP 0 (by decide) (zcC_0 _ _ _ _ _ _) rfl 0 (by decide) rfl (by decide +kernel) rfl dX6_sheet_1 ?_
  refine lv_iload_n hx hb dX6_sheet_4 rfl (lv_at hl 1 rfl) ?_
  obtain ⟨u1, s1, e1, h⟩ := zb_some h
  refine z_calli hS (z_runV (As := [.int x1]) (rest := []) X hG hA hE hP hS 1 (kX3_hasSheet (l := l) (D := D) (a := a) (cI := cI) (cJ := cJ) (cC := cC) (adK := adK) (adV := adV) e1 _) (cwV 1 hts gX6_sheet_X3_hasSheet rfl rfl rfl (by decide +kernel) ⟨Nat.le_of_ble_eq_true rfl, Nat.le_of_ble_eq_true rfl⟩) (by decide) (zcC_1 _ _ _ _ _ _) rfl rfl rfl hl.1 rfl (Nat.le_of_ble_eq_true rfl) dX6_sheet_5) (fun H locs hP hS => ?_)
  refine lv_if_ne (tgt := 13) hx hb dX6_sheet_8 (by decide) (fun c2 => ?_) (fun c2 => ?_)
  · have h := zif_f h c2
    refine lv_iload_n hx hb dX6_sheet_13 rfl (lv_at hl 2 rfl) ?_
    refine lv_if_ne (tgt := 27) hx hb dX6_sheet_14 (by decide) (fun c3 => ?_) (fun c3 => ?_)
    · have h := zif_f h c3
      refine lv_iload_n hx hb dX6_sheet_27 rfl (lv_at hl 2 rfl) ?_
      refine lv_iconst (v := 1) hx hb dX6_sheet_28 (by decide) ?_
      refine lv_icmp_ne (tgt := 42) hx hb dX6_sheet_29 (by decide) (fun c4 => ?_) (fun c4 => ?_)
      · have h := zif_f h c4
        refine lv_iload_n hx hb dX6_sheet_42 rfl (lv_at hl 2 rfl) ?_
        refine lv_bipush (v := 10) hx hb dX6_sheet_43 (by decide) ?_
        refine lv_isub hx hb dX6_sheet_45 ?_
        refine lv_iconst (v := 5) hx hb dX6_sheet_46 (by decide) ?_
        obtain ⟨u5, s5, e5, h⟩ := zb_some h
        refine z_calli hS (z_runS (As := [.int (x2 - (10 : Int32)), .int (5 : Int32)]) (rest := []) X hG hA hE hP hS (kX6_within (l := l) (D := D) (a := a) (cI := cI) (cJ := cJ) (cC := cC) (adK := adK) (adV := adV) e5 _) (va_cwS 2 hts gX6_sheet_X6_within rfl rfl rfl (by decide +kernel) ⟨Nat.le_of_ble_eq_true rfl, Nat.le_of_ble_eq_true rfl⟩) rfl hl.1 rfl (Nat.le_of_ble_eq_true rfl) dX6_sheet_47) (fun H locs hP hS => ?_)
        refine lv_if_eq (tgt := 70) hx hb dX6_sheet_50 (by decide) (fun c6 => ?_) (fun c6 => ?_)
        · have h := zif_t h c6
          refine lv_iload_n hx hb dX6_sheet_70 rfl (lv_at hl 2 rfl) ?_
          refine lv_bipush (v := 20) hx hb dX6_sheet_71 (by decide) ?_
          refine lv_isub hx hb dX6_sheet_73 ?_
          refine lv_iconst (v := 5) hx hb dX6_sheet_74 (by decide) ?_
          obtain ⟨u7, s7, e7, h⟩ := zb_some h
          refine z_calli hS (z_runS (As := [.int (x2 - (20 : Int32)), .int (5 : Int32)]) (rest := []) X hG hA hE hP hS (kX6_within (l := l) (D := D) (a := a) (cI := cI) (cJ := cJ) (cC := cC) (adK := adK) (adV := adV) e7 _) (va_cwS 2 hts gX6_sheet_X6_within rfl rfl rfl (by decide +kernel) ⟨Nat.le_of_ble_eq_true rfl, Nat.le_of_ble_eq_true rfl⟩) rfl hl.1 rfl (Nat.le_of_ble_eq_true rfl) dX6_sheet_75) (fun H locs hP hS => ?_)
          refine lv_if_eq (tgt := 112) hx hb dX6_sheet_78 (by decide) (fun c8 => ?_) (fun c8 => ?_)
          · have h := zif_t h c8
            refine lv_iconst (v := -1) hx hb dX6_sheet_112 (by decide) ?_
            exact z_iret X hP hS hr hlocks h dX6_sheet_113
          · have h := zif_f h c8
            refine lv_aload_n hx hb dX6_sheet_81 rfl (lv_at hl 0 rfl) ?_
            refine z_get (C := RX6) (T := TX6) (N := 12) X inX6 hP 0 (by decide) (zcC_0 _ _ _ _ _ _) rfl 0 (by decide) rfl (by decide +kernel) rfl dX6_sheet_82 ?_
            refine lv_iload_n hx hb dX6_sheet_85 rfl (lv_at hl 1 rfl) ?_
            refine lv_aload_n hx hb dX6_sheet_86 rfl (lv_at hl 0 rfl) ?_
            refine z_get (C := RX6) (T := TX6) (N := 12) X inX6 hP 0 (by decide) (zcC_0 _ _ _ _ _ _) rfl 0 (by decide) rfl (by decide +kernel) rfl dX6_sheet_87 ?_
            refine z_get (C := RX3) (T := TX3) (N := 10) X inX3 hP 1 (by decide) (zcC_1 _ _ _ _ _ _) rfl 1 (by decide) rfl (by decide +kernel) rfl dX6_sheet_90 ?_
            refine lv_iload_n hx hb dX6_sheet_93 rfl (lv_at hl 1 rfl) ?_
            obtain ⟨g9, h⟩ := zg_some h
            refine z_iald X hP 2 0 (by decide) (zcC_2 _ _ _ _ _ _) rfl g9 dX6_sheet_94 ?_
            refine lv_aload_n hx hb dX6_sheet_95 rfl (lv_at hl 0 rfl) ?_
            refine z_get (C := RX6) (T := TX6) (N := 12) X inX6 hP 0 (by decide) (zcC_0 _ _ _ _ _ _) rfl 0 (by decide) rfl (by decide +kernel) rfl dX6_sheet_96 ?_
            refine z_get (C := RX3) (T := TX3) (N := 10) X inX3 hP 1 (by decide) (zcC_1 _ _ _ _ _ _) rfl 2 (by decide) rfl (by decide +kernel) rfl dX6_sheet_99 ?_
            refine lv_iload_n hx hb dX6_sheet_102 rfl (lv_at hl 1 rfl) ?_
            obtain ⟨g10, h⟩ := zg_some h
            refine z_iald X hP 3 0 (by decide) (zcC_3 _ _ _ _ _ _) rfl g10 dX6_sheet_103 ?_
            refine lv_iload_n hx hb dX6_sheet_104 rfl (lv_at hl 2 rfl) ?_
            refine lv_bipush (v := 20) hx hb dX6_sheet_105 (by decide) ?_
            refine lv_isub hx hb dX6_sheet_107 ?_
            obtain ⟨u11, s11, e11, h⟩ := zb_some h
            refine z_calli hS (z_runV (As := [.int x1, .int ((s7).1 2 (x1).toNatClampNeg), .int ((s7).1 3 (x1).toNatClampNeg), .int (x2 - (20 : Int32))]) (rest := []) X hG hA hE hP hS 1 (kX3_letsAs (l := l) (D := D) (a := a) (cI := cI) (cJ := cJ) (cC := cC) (adK := adK) (adV := adV) e11 _) (cwV 4 hts gX6_sheet_X3_letsAs rfl rfl rfl (by decide +kernel) ⟨Nat.le_of_ble_eq_true rfl, Nat.le_of_ble_eq_true rfl⟩) (by decide) (zcC_1 _ _ _ _ _ _) rfl rfl rfl hl.1 rfl (Nat.le_of_ble_eq_true rfl) dX6_sheet_108) (fun H locs hP hS => ?_)
            exact z_iret X hP hS hr hlocks h dX6_sheet_111
        · have h := zif_f h c6
          refine lv_aload_n hx hb dX6_sheet_53 rfl (lv_at hl 0 rfl) ?_
          refine z_get (C := RX6) (T := TX6) (N := 12) X inX6 hP 0 (by decide) (zcC_0 _ _ _ _ _ _) rfl 0 (by decide) rfl (by decide +kernel) rfl dX6_sheet_54 ?_
          refine z_get (C := RX3) (T := TX3) (N := 10) X inX3 hP 1 (by decide) (zcC_1 _ _ _ _ _ _) rfl 3 (by decide) rfl (by decide +kernel) rfl dX6_sheet_57 ?_
          refine lv_iload_n hx hb dX6_sheet_60 rfl (lv_at hl 1 rfl) ?_
          refine lv_iconst (v := 5) hx hb dX6_sheet_61 (by decide) ?_
          refine lv_imul hx hb dX6_sheet_62 ?_
          refine lv_iload_n hx hb dX6_sheet_63 rfl (lv_at hl 2 rfl) ?_
          refine lv_bipush (v := 10) hx hb dX6_sheet_64 (by decide) ?_
          refine lv_isub hx hb dX6_sheet_66 ?_
          refine lv_iadd hx hb dX6_sheet_67 ?_
          obtain ⟨g12, h⟩ := zg_some h
          refine z_iald X hP 4 0 (by decide) (zcC_4 _ _ _ _ _ _) rfl g12 dX6_sheet_68 ?_
          exact z_iret X hP hS hr hlocks h dX6_sheet_69
      · have h := zif_t h c4
        refine lv_aload_n hx hb dX6_sheet_32 rfl (lv_at hl 0 rfl) ?_
        refine z_get (C := RX6) (T := TX6) (N := 12) X inX6 hP 0 (by decide) (zcC_0 _ _ _ _ _ _) rfl 0 (by decide) rfl (by decide +kernel) rfl dX6_sheet_33 ?_
        refine z_get (C := RX3) (T := TX3) (N := 10) X inX3 hP 1 (by decide) (zcC_1 _ _ _ _ _ _) rfl 2 (by decide) rfl (by decide +kernel) rfl dX6_sheet_36 ?_
        refine lv_iload_n hx hb dX6_sheet_39 rfl (lv_at hl 1 rfl) ?_
        obtain ⟨g13, h⟩ := zg_some h
        refine z_iald X hP 3 0 (by decide) (zcC_3 _ _ _ _ _ _) rfl g13 dX6_sheet_40 ?_
        exact z_iret X hP hS hr hlocks h dX6_sheet_41
    · have h := zif_t h c3
      refine lv_aload_n hx hb dX6_sheet_17 rfl (lv_at hl 0 rfl) ?_
      refine z_get (C := RX6) (T := TX6) (N := 12) X inX6 hP 0 (by decide) (zcC_0 _ _ _ _ _ _) rfl 0 (by decide) rfl (by decide +kernel) rfl dX6_sheet_18 ?_
      refine z_get (C := RX3) (T := TX3) (N := 10) X inX3 hP 1 (by decide) (zcC_1 _ _ _ _ _ _) rfl 1 (by decide) rfl (by decide +kernel) rfl dX6_sheet_21 ?_
      refine lv_iload_n hx hb dX6_sheet_24 rfl (lv_at hl 1 rfl) ?_
      obtain ⟨g14, h⟩ := zg_some h
      refine z_iald X hP 2 0 (by decide) (zcC_2 _ _ _ _ _ _) rfl g14 dX6_sheet_25 ?_
      exact z_iret X hP hS hr hlocks h dX6_sheet_26
  · have h := zif_t h c2
    refine lv_iconst (v := -1) hx hb dX6_sheet_11 (by decide) ?_
    exact z_iret X hP hS hr hlocks h dX6_sheet_12
abbrev rmX4_readStack : Room := { frames := 2, cells := 0, slots := 0, locals := 42 }
set_option maxHeartbeats 4000000 in
set_option maxRecDepth 100000 in
theorem kX4_readStack {l : Launch} {D : va_G} {a : Nat → Nat} {cI cJ cC : ClassId} {adK adV : Nat → Nat} {x1 : Int32} {s τ : ZS} {r : Int32} (h : fX4_readStack x1 s = some (r, τ)) : zMi (zcC a cI cJ cC) 41 a D [(cI, .int), (cJ, .long)] (zEC adK adV) l yX4_readStack wsX4_readStack rmX4_readStack [.ref (a 26), .int x1] s r τ := by
  refine z_start (cc := cX4_readStack) (maxL := 4) (ret := (some .int)) RX4 rfl (by decide) rfl (Nat.le_of_ble_eq_true rfl) ?_
  intro p e st m args below meth c ls H locs X hr hlocks hA hE hP hS hl
  obtain ⟨hx, hb, hml, hown, hts, -⟩ := id X
  have hG := zEC_good adK adV
  have inX4 : ∀ w ∈ u_ws RX4 TX4 9, w ∈ wsX4_readStack := by decide +kernel
  have w31 : ∀  (n : Nat) (x1 : Int32) (x2 : Int32) (s : ZS) (H : Heap) (locs : List Loc) (ls : Array Slot), fX4_readStack_31n  n (x1, x2, s) = some (r, τ) → va_P D vwCl (zW (zcC a cI cJ cC) 41 a s) H → va_S (zF 41 a st.heap.size) st.heap H locs → lv_has ls 4 [(0, .ref (a 26)), (1, .int x1), (2, .int x2)] → W p l e rmX4_readStack st m args below meth c H locs 0 0 (MQ below (va_Qi (fun (r' : Int32) (τ' : ZS) => r' = r ∧ τ' = τ) (zPost (zcC a cI cJ cC) 41 a D [(cI, .int), (cJ, .long)]) (zF 41 a st.heap.size)) args st 0 0 (zF 41 a st.heap.size)) (F0 m 31 ls []) := by
    intro  n
    induction n with
    | zero => intro x1 x2 s H locs ls h; exact zloop_0 h
    | succ n ih =>
      intro x1 x2 s H locs ls h hP hS hl
      have h : fX4_readStack_31b  (fun x1 x2 s => fX4_readStack_31n  n (x1, x2, s)) x1 x2 s = some (r, τ) := h
      refine lv_iload_n hx hb dX4_readStack_31 rfl (lv_at hl 2 rfl) ?_
      refine lv_aload_n hx hb dX4_readStack_32 rfl (lv_at hl 0 rfl) ?_
      refine z_get (C := RX4) (T := TX4) (N := 9) X inX4 hP 26 (by decide) (zcC_26 _ _ _ _ _ _) rfl 1 (by decide) rfl (by decide +kernel) rfl dX4_readStack_33 ?_
      refine lv_icmp_ge (tgt := 84) hx hb dX4_readStack_36 (by decide) (fun c1 => ?_) (fun c1 => ?_)
      · have h := zif_t h c1
        refine lv_aload_n hx hb dX4_readStack_84 rfl (lv_at hl 0 rfl) ?_
        refine z_get (C := RX4) (T := TX4) (N := 9) X inX4 hP 26 (by decide) (zcC_26 _ _ _ _ _ _) rfl 1 (by decide) rfl (by decide +kernel) rfl dX4_readStack_85 ?_
        refine lv_if_ne (tgt := 95) hx hb dX4_readStack_88 (by decide) (fun c2 => ?_) (fun c2 => ?_)
        · have h := zif_f h c2
          refine lv_iconst (v := -1) hx hb dX4_readStack_95 (by decide) ?_
          exact z_iret X hP hS hr hlocks h dX4_readStack_96
        · have h := zif_t h c2
          refine lv_iconst (v := 0) hx hb dX4_readStack_91 (by decide) ?_
          refine lv_goto (tgt := 96) hx hb dX4_readStack_92 (by decide) ?_
          exact z_iret X hP hS hr hlocks h dX4_readStack_96
      · have h := zif_f h c1
        refine lv_aload_n hx hb dX4_readStack_39 rfl (lv_at hl 0 rfl) ?_
        refine lv_iload_n hx hb dX4_readStack_40 rfl (lv_at hl 2 rfl) ?_
        obtain ⟨u3, s3, e3, h⟩ := zb_some h
        refine z_calli hS (z_runV (As := [.int x2]) (rest := []) X hG hA hE hP hS 26 (kX4_byteAt (l := l) (D := D) (a := a) (cI := cI) (cJ := cJ) (cC := cC) (adK := adK) (adV := adV) e3 _) (cwV 1 hts gX4_readStack_X4_byteAt rfl rfl rfl (by decide +kernel) ⟨Nat.le_of_ble_eq_true rfl, Nat.le_of_ble_eq_true rfl⟩) (by decide) (zcC_26 _ _ _ _ _ _) rfl rfl rfl hl.1 rfl (Nat.le_of_ble_eq_true rfl) dX4_readStack_41) (fun H locs hP hS => ?_)
        refine lv_bipush (v := 97) hx hb dX4_readStack_44 (by decide) ?_
        refine lv_isub hx hb dX4_readStack_46 ?_
        refine lv_istore_n (lv' := [(3, .int (u3 - (97 : Int32))), (0, .ref (a 26)), (1, .int x1), (2, .int x2)]) hx hb dX4_readStack_47 rfl hl (by decide) rfl (fun ls hl => ?_)
        refine lv_iload_n hx hb dX4_readStack_48 rfl (lv_at hl 3 rfl) ?_
        refine lv_bipush (v := 6) hx hb dX4_readStack_49 (by decide) ?_
        refine lv_icmp_ge (tgt := 62) hx hb dX4_readStack_51 (by decide) (fun c4 => ?_) (fun c4 => ?_)
        · have h := zif_t h c4
          refine lv_iload_n hx hb dX4_readStack_62 rfl (lv_at hl 3 rfl) ?_
          exact z_iret X hP hS hr hlocks h dX4_readStack_63
        · have h := zif_f h c4
          refine lv_iload_n hx hb dX4_readStack_54 rfl (lv_at hl 0 rfl) ?_
          refine lv_iload_n hx hb dX4_readStack_55 rfl (lv_at hl 2 rfl) ?_
          obtain ⟨u5, s5, e5, h⟩ := zb_some h
          refine z_calli hS (z_runSN (As := [.int (u3 - (97 : Int32)), .int x1]) (rest := []) X hG hA hE hP hS (kX6_within (l := l) (D := D) (a := a) (cI := cI) (cJ := cJ) (cC := cC) (adK := adK) (adV := adV) e5 _) (va_cnB 2 hts gX4_readStack_X6_within_n40 rfl rfl rfl (zE_nest hE 3 rfl) (hts (.initialized RX6) (by decide +kernel)) (by decide +kernel) ⟨Nat.le_of_ble_eq_true rfl, Nat.le_of_ble_eq_true rfl⟩) (by decide +kernel) rfl hl.1 rfl (Nat.le_of_ble_eq_true rfl) dX4_readStack_56) (fun H locs hP hS => ?_)
          refine lv_if_ne (tgt := 64) hx hb dX4_readStack_59 (by decide) (fun c6 => ?_) (fun c6 => ?_)
          · have h := zif_f h c6
            refine lv_aload_n hx hb dX4_readStack_64 rfl (lv_at hl 1 rfl) ?_
            refine z_get (C := RX4) (T := TX4) (N := 9) X inX4 hP 26 (by decide) (zcC_26 _ _ _ _ _ _) rfl 7 (by decide) rfl (by decide +kernel) rfl dX4_readStack_65 ?_
            refine lv_iload_n hx hb dX4_readStack_68 rfl (lv_at hl 3 rfl) ?_
            refine lv_iload_n hx hb dX4_readStack_69 rfl (lv_at hl 0 rfl) ?_
            obtain ⟨g7, h⟩ := zg_some h
            refine z_iast X hA hP hS 31 0 (by decide) (zcC_31 _ _ _ _) rfl g7 dX4_readStack_70 (fun H locs hP hS => ?_)
            refine lv_aload_n hx hb dX4_readStack_71 rfl (lv_at hl 1 rfl) ?_
            refine lv_iload_n hx hb dX4_readStack_72 rfl (lv_at hl 3 rfl) ?_
            refine lv_iconst (v := 1) hx hb dX4_readStack_73 (by decide) ?_
            refine lv_iadd hx hb dX4_readStack_74 ?_
            refine z_put (ty := .int) (x := (x2 + (1 : Int32))) (C := RX4) (T := TX4) (N := 9) X inX4 tyX4 tyX4_ok nmX4 hA hP hS 26 (by decide) (zcC_26 _ _ _ _ _ _) rfl 6 (by decide) rfl (by decide +kernel) rfl (by decide +kernel) rfl rfl (Nat.le_of_ble_eq_true rfl) rfl dX4_readStack_75 (fun H locs hP hS => ?_)
            refine lv_iinc (v := (x2 + (1 : Int32))) (lv' := [(2, .int (x2 + (1 : Int32))), (3, .int (u3 - (97 : Int32))), (0, .ref (a 26)), (1, .int x1)]) hx hb dX4_readStack_78 hl (k := 3) rfl rfl (by decide) rfl (fun ls hl => ?_)
            refine lv_goto (tgt := 31) hx hb dX4_readStack_81 (by decide) ?_
            exact ih (x1) ((x2 + (1 : Int32))) ((zI (zI s5 31 (x2).toNatClampNeg (u3 - (97 : Int32))) 26 6 (x2 + (1 : Int32)))) _ _ _ h hP hS (lv_sub hl [2, 3, 0] rfl)
          · have h := zif_t h c6
            refine lv_iload_n hx hb dX4_readStack_62 rfl (lv_at hl 3 rfl) ?_
            exact z_iret X hP hS hr hlocks h dX4_readStack_63
  have hl : lv_has ls 4 [(0, .ref (a 26)), (1, .int x1)] := hl
  refine lv_aload_n hx hb dX4_readStack_0 rfl (lv_at hl 0 rfl) ?_
  refine lv_iconst (v := 0) hx hb dX4_readStack_1 (by decide) ?_
  refine z_put (ty := .int) (x := (0 : Int32)) (C := RX4) (T := TX4) (N := 9) X inX4 tyX4 tyX4_ok nmX4 hA hP hS 26 (by decide) (zcC_26 _ _ _ _ _ _) rfl 6 (by decide) rfl (by decide +kernel) rfl (by decide +kernel) rfl rfl (Nat.le_of_ble_eq_true rfl) rfl dX4_readStack_2 (fun H locs hP hS => ?_)
  refine lv_aload_n hx hb dX4_readStack_5 rfl (lv_at hl 0 rfl) ?_
  refine lv_iconst (v := 0) hx hb dX4_readStack_6 (by decide) ?_
  obtain ⟨u1, s1, e1, h⟩ := zb_some h
  refine z_calli hS (z_runV (As := [.int (0 : Int32)]) (rest := []) X hG hA hE hP hS 26 (kX4_byteAt (l := l) (D := D) (a := a) (cI := cI) (cJ := cJ) (cC := cC) (adK := adK) (adV := adV) e1 _) (cwV 1 hts gX4_readStack_X4_byteAt rfl rfl rfl (by decide +kernel) ⟨Nat.le_of_ble_eq_true rfl, Nat.le_of_ble_eq_true rfl⟩) (by decide) (zcC_26 _ _ _ _ _ _) rfl rfl rfl hl.1 rfl (Nat.le_of_ble_eq_true rfl) dX4_readStack_7) (fun H locs hP hS => ?_)
  refine lv_bipush (v := 45) hx hb dX4_readStack_10 (by decide) ?_
  refine lv_icmp_ne (tgt := 29) hx hb dX4_readStack_12 (by decide) (fun c2 => ?_) (fun c2 => ?_)
  · have h := zif_f h c2
    refine lv_iconst (v := 0) hx hb dX4_readStack_29 (by decide) ?_
    refine lv_istore_n (lv' := [(2, .int (0 : Int32)), (0, .ref (a 26)), (1, .int x1)]) hx hb dX4_readStack_30 rfl hl (by decide) rfl (fun ls hl => ?_)
    exact w31  zN (x1) ((0 : Int32)) (s1) _ _ _ h hP hS (lv_sub hl [1, 2, 0] rfl)
  · have h := zif_t h c2
    refine lv_aload_n hx hb dX4_readStack_15 rfl (lv_at hl 0 rfl) ?_
    refine z_get (C := RX4) (T := TX4) (N := 9) X inX4 hP 26 (by decide) (zcC_26 _ _ _ _ _ _) rfl 1 (by decide) rfl (by decide +kernel) rfl dX4_readStack_16 ?_
    refine lv_iconst (v := 1) hx hb dX4_readStack_19 (by decide) ?_
    refine lv_icmp_ne (tgt := 27) hx hb dX4_readStack_20 (by decide) (fun c3 => ?_) (fun c3 => ?_)
    · have h := zif_f h c3
      refine lv_iconst (v := 1) hx hb dX4_readStack_27 (by decide) ?_
      exact z_iret X hP hS hr hlocks h dX4_readStack_28
    · have h := zif_t h c3
      refine lv_iconst (v := -1) hx hb dX4_readStack_23 (by decide) ?_
      refine lv_goto (tgt := 28) hx hb dX4_readStack_24 (by decide) ?_
      exact z_iret X hP hS hr hlocks h dX4_readStack_28
abbrev rmX3_hasStack : Room := { frames := 1, cells := 0, slots := 0, locals := 21 }
set_option maxHeartbeats 4000000 in
set_option maxRecDepth 100000 in
theorem kX3_hasStack {l : Launch} {D : va_G} {a : Nat → Nat} {cI cJ cC : ClassId} {adK adV : Nat → Nat} {x1 : Int32} {s τ : ZS} {r : Int32} (h : fX3_hasStack x1 s = some (r, τ)) : zMi (zcC a cI cJ cC) 41 a D [(cI, .int), (cJ, .long)] (zEC adK adV) l yX3_hasStack wsX3_hasStack rmX3_hasStack [.ref (a 1), .int x1] s r τ := by
  refine z_start (cc := cX3_hasStack) (maxL := 2) (ret := (some .boolean)) RX3 rfl (by decide) rfl (Nat.le_of_ble_eq_true rfl) ?_
  intro p e st m args below meth c ls H locs X hr hlocks hA hE hP hS hl
  obtain ⟨hx, hb, hml, hown, hts, -⟩ := id X
  have hG := zEC_good adK adV
  have inX3 : ∀ w ∈ u_ws RX3 TX3 10, w ∈ wsX3_hasStack := by decide +kernel
  have hl : lv_has ls 2 [(0, .ref (a 1)), (1, .int x1)] := hl
  refine lv_iload_n hx hb dX3_hasStack_0 rfl (lv_at hl 1 rfl) ?_
  refine lv_aload_n hx hb dX3_hasStack_1 rfl (lv_at hl 0 rfl) ?_
  refine z_get (C := RX3) (T := TX3) (N := 10) X inX3 hP 1 (by decide) (zcC_1 _ _ _ _ _ _) rfl 4 (by decide) rfl (by decide +kernel) rfl dX3_hasStack_2 ?_
  obtain ⟨u1, s1, e1, h⟩ := zb_some h
  refine z_calli hS (z_runSN (As := [.int x1, .int ((s).1 1 4)]) (rest := []) X hG hA hE hP hS (kX6_within (l := l) (D := D) (a := a) (cI := cI) (cJ := cJ) (cC := cC) (adK := adK) (adV := adV) e1 _) (va_cnB 2 hts gX3_hasStack_X6_within_n47 rfl rfl rfl (zE_nest hE 2 rfl) (hts (.initialized RX6) (by decide +kernel)) (by decide +kernel) ⟨Nat.le_of_ble_eq_true rfl, Nat.le_of_ble_eq_true rfl⟩) (by decide +kernel) rfl hl.1 rfl (Nat.le_of_ble_eq_true rfl) dX3_hasStack_5) (fun H locs hP hS => ?_)
  obtain ⟨g2, h⟩ := zg_some h
  exact z_zret X hP hS hr hlocks (zbo_n g2) h dX3_hasStack_8
abbrev rmX3_layOn : Room := { frames := 2, cells := 0, slots := 0, locals := 42 }
set_option maxHeartbeats 4000000 in
set_option maxRecDepth 100000 in
theorem kX3_layOn {l : Launch} {D : va_G} {a : Nat → Nat} {cI cJ cC : ClassId} {adK adV : Nat → Nat} {x1 : Int32} {x2 : Int32} {s τ : ZS} {r : Int32} (h : fX3_layOn x1 x2 s = some (r, τ)) : zMi (zcC a cI cJ cC) 41 a D [(cI, .int), (cJ, .long)] (zEC adK adV) l yX3_layOn wsX3_layOn rmX3_layOn [.ref (a 1), .int x1, .int x2] s r τ := by
  refine z_start (cc := cX3_layOn) (maxL := 3) (ret := (some .boolean)) RX3 rfl (by decide) rfl (Nat.le_of_ble_eq_true rfl) ?_
  intro p e st m args below meth c ls H locs X hr hlocks hA hE hP hS hl
  obtain ⟨hx, hb, hml, hown, hts, -⟩ := id X
  have hG := zEC_good adK adV
  have inX3 : ∀ w ∈ u_ws RX3 TX3 10, w ∈ wsX3_layOn := by decide +kernel
  have hl : lv_has ls 3 [(0, .ref (a 1)), (1, .int x1), (2, .int x2)] := hl
  refine lv_aload_n hx hb dX3_layOn_0 rfl (lv_at hl 0 rfl) ?_
  refine lv_iload_n hx hb dX3_layOn_1 rfl (lv_at hl 1 rfl) ?_
  obtain ⟨u1, s1, e1, h⟩ := zb_some h
  refine z_calli hS (z_runV (As := [.int x1]) (rest := []) X hG hA hE hP hS 1 (kX3_hasStack (l := l) (D := D) (a := a) (cI := cI) (cJ := cJ) (cC := cC) (adK := adK) (adV := adV) e1 _) (cwV 1 hts gX3_layOn_X3_hasStack rfl rfl rfl (by decide +kernel) ⟨Nat.le_of_ble_eq_true rfl, Nat.le_of_ble_eq_true rfl⟩) (by decide) (zcC_1 _ _ _ _ _ _) rfl rfl rfl hl.1 rfl (Nat.le_of_ble_eq_true rfl) dX3_layOn_2) (fun H locs hP hS => ?_)
  refine lv_if_eq (tgt := 19) hx hb dX3_layOn_5 (by decide) (fun c2 => ?_) (fun c2 => ?_)
  · have h := zif_t h c2
    refine lv_iconst (v := 0) hx hb dX3_layOn_19 (by decide) ?_
    exact z_zret X hP hS hr hlocks (by decide) h dX3_layOn_20
  · have h := zif_f h c2
    refine lv_aload_n hx hb dX3_layOn_8 rfl (lv_at hl 0 rfl) ?_
    refine z_get (C := RX3) (T := TX3) (N := 10) X inX3 hP 1 (by decide) (zcC_1 _ _ _ _ _ _) rfl 5 (by decide) rfl (by decide +kernel) rfl dX3_layOn_9 ?_
    refine lv_iload_n hx hb dX3_layOn_12 rfl (lv_at hl 1 rfl) ?_
    obtain ⟨g3, h⟩ := zg_some h
    refine z_iald X hP 5 0 (by decide) (zcC_5 _ _ _ _ _ _) rfl g3 dX3_layOn_13 ?_
    refine lv_bipush (v := 6) hx hb dX3_layOn_14 (by decide) ?_
    refine lv_icmp_lt (tgt := 21) hx hb dX3_layOn_16 (by decide) (fun c4 => ?_) (fun c4 => ?_)
    · have h := zif_t h c4
      refine lv_aload_n hx hb dX3_layOn_21 rfl (lv_at hl 0 rfl) ?_
      refine z_get (C := RX3) (T := TX3) (N := 10) X inX3 hP 1 (by decide) (zcC_1 _ _ _ _ _ _) rfl 6 (by decide) rfl (by decide +kernel) rfl dX3_layOn_22 ?_
      refine lv_iload_n hx hb dX3_layOn_25 rfl (lv_at hl 1 rfl) ?_
      refine lv_bipush (v := 6) hx hb dX3_layOn_26 (by decide) ?_
      refine lv_imul hx hb dX3_layOn_28 ?_
      refine lv_aload_n hx hb dX3_layOn_29 rfl (lv_at hl 0 rfl) ?_
      refine z_get (C := RX3) (T := TX3) (N := 10) X inX3 hP 1 (by decide) (zcC_1 _ _ _ _ _ _) rfl 5 (by decide) rfl (by decide +kernel) rfl dX3_layOn_30 ?_
      refine lv_iload_n hx hb dX3_layOn_33 rfl (lv_at hl 1 rfl) ?_
      obtain ⟨g5, h⟩ := zg_some h
      refine z_iald X hP 5 0 (by decide) (zcC_5 _ _ _ _ _ _) rfl g5 dX3_layOn_34 ?_
      refine lv_iadd hx hb dX3_layOn_35 ?_
      refine lv_iload_n hx hb dX3_layOn_36 rfl (lv_at hl 2 rfl) ?_
      obtain ⟨g6, h⟩ := zg_some h
      refine z_iast X hA hP hS 6 0 (by decide) (zcC_6 _ _ _ _) rfl g6 dX3_layOn_37 (fun H locs hP hS => ?_)
      refine lv_aload_n hx hb dX3_layOn_38 rfl (lv_at hl 0 rfl) ?_
      refine z_get (C := RX3) (T := TX3) (N := 10) X inX3 hP 1 (by decide) (zcC_1 _ _ _ _ _ _) rfl 5 (by decide) rfl (by decide +kernel) rfl dX3_layOn_39 ?_
      refine lv_iload_n hx hb dX3_layOn_42 rfl (lv_at hl 1 rfl) ?_
      refine lv_dup2_11 hx hb dX3_layOn_43 rfl rfl ?_
      obtain ⟨g7, h⟩ := zg_some h
      refine z_iald X hP 5 0 (by decide) (zcC_5 _ _ _ _ _ _) rfl g7 dX3_layOn_44 ?_
      refine lv_iconst (v := 1) hx hb dX3_layOn_45 (by decide) ?_
      refine lv_iadd hx hb dX3_layOn_46 ?_
      obtain ⟨g8, h⟩ := zg_some h
      refine z_iast X hA hP hS 5 0 (by decide) (zcC_5 _ _ _ _) rfl g8 dX3_layOn_47 (fun H locs hP hS => ?_)
      refine lv_iconst (v := 1) hx hb dX3_layOn_48 (by decide) ?_
      exact z_zret X hP hS hr hlocks (by decide) h dX3_layOn_49
    · have h := zif_f h c4
      refine lv_iconst (v := 0) hx hb dX3_layOn_19 (by decide) ?_
      exact z_zret X hP hS hr hlocks (by decide) h dX3_layOn_20
