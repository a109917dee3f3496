abbrev rmX7_without : Room := { frames := 6, cells := 0, slots := 0, locals := 139 }
set_option maxHeartbeats 4000000 in
set_option maxRecDepth 100000 in
theorem kX7_without {l : Launch} {D : va_G} {a : Nat → Nat} {cI cJ cC : ClassId} {x1 : Int32} {x2 : Int32} {x3 : Int32} {s τ : ZS} {r : Int32} (h : fX7_without x1 x2 x3 s = some (r, τ)) : zMi (zcM a cI cJ cC) 17 a D [(cI, .int), (cJ, .long), (cC, .char)] zEM l yX7_without wsX7_without rmX7_without [.ref (a 0), .int x1, .int x2, .int x3] s r τ := by
  refine z_start (cc := cX7_without) (maxL := 4) (ret := (some .int)) RX7 rfl (by decide) rfl (Nat.le_of_ble_eq_true rfl) ?_
  intro p e st m args below meth c ls H locs X hr hlocks hA hE hP hS hl
  obtain ⟨hx, hb, hml, hown, hts, -⟩ := id X
  have hG := zEM_good
  have w52 : ∀  (t1 : Int32) (t2 : Int32) (t3 : Int32) (s : ZS) (H : Heap) (locs : List Loc) (ls : Array Slot), fX7_without_52  t1 t2 t3 s = some (r, τ) → va_P D vwCl (zW (zcM a cI cJ cC) 17 a s) H → va_S (zF 17 a st.heap.size) st.heap H locs → lv_has ls 4 [] → W p l e rmX7_without st m args below meth c H locs 0 0 (MQ below (va_Qi (fun (r' : Int32) (τ' : ZS) => r' = r ∧ τ' = τ) (zPost (zcM a cI cJ cC) 17 a D [(cI, .int), (cJ, .long), (cC, .char)]) (zF 17 a st.heap.size)) args st 0 0 (zF 17 a st.heap.size)) (F0 m 52 ls [.int t3, .int t2, .int t1, .ref (a 0)]) := by
    intro  t1 t2 t3 s H locs ls h hP hS hl
    obtain ⟨u1, s1, e1, h⟩ := zb_some h
    refine z_calli hS (z_runV (As := [.int t1, .int t2, .int t3]) (rest := []) X hG hA hE hP hS 0 (kX7_missed (l := l) (D := D) (a := a) (cI := cI) (cJ := cJ) (cC := cC) e1 _) (cwV 3 hts gX7_without_X7_missed rfl rfl rfl (by decide +kernel) ⟨Nat.le_of_ble_eq_true rfl, Nat.le_of_ble_eq_true rfl⟩) (by decide) (zcM_0 _ _ _ _ _ _) rfl rfl rfl hl.1 rfl (Nat.le_of_ble_eq_true rfl) dX7_without_52) (fun H locs hP hS => ?_)
    exact z_iret X hP hS hr hlocks h dX7_without_55
  have hl : lv_has ls 4 [(0, .ref (a 0)), (1, .int x1), (2, .int x2), (3, .int x3)] := hl
  refine lv_aload_n hx hb dX7_without_0 rfl (lv_at hl 0 rfl) ?_
  refine lv_iload_n hx hb dX7_without_1 rfl (lv_at hl 1 rfl) ?_
  obtain ⟨u1, s1, e1, h⟩ := zb_some h
  refine z_calli hS (z_runV (As := [.int x1]) (rest := []) X hG hA hE hP hS 0 (kX7_isStack (l := l) (D := D) (a := a) (cI := cI) (cJ := cJ) (cC := cC) e1 _) (cwV 1 hts gX7_without_X7_isStack rfl rfl rfl (by decide +kernel) ⟨Nat.le_of_ble_eq_true rfl, Nat.le_of_ble_eq_true rfl⟩) (by decide) (zcM_0 _ _ _ _ _ _) rfl rfl rfl hl.1 rfl (Nat.le_of_ble_eq_true rfl) dX7_without_2) (fun H locs hP hS => ?_)
  refine lv_if_eq (tgt := 25) hx hb dX7_without_5 (by decide) (fun c2 => ?_) (fun c2 => ?_)
  · have h := zif_t h c2
    refine lv_iconst (v := -1) hx hb dX7_without_25 (by decide) ?_
    exact z_iret X hP hS hr hlocks h dX7_without_26
  · have h := zif_f h c2
    refine lv_iload_n hx hb dX7_without_8 rfl (lv_at hl 2 rfl) ?_
    obtain ⟨u3, s3, e3, h⟩ := zb_some h
    refine z_calli hS (z_runS (As := [.int x2]) (rest := []) X hG hA hE hP hS (kX7_isLamp (l := l) (D := D) (a := a) (cI := cI) (cJ := cJ) (cC := cC) e3 _) (va_cwS 1 hts gX7_without_X7_isLamp rfl rfl rfl (by decide +kernel) ⟨Nat.le_of_ble_eq_true rfl, Nat.le_of_ble_eq_true rfl⟩) rfl hl.1 rfl (Nat.le_of_ble_eq_true rfl) dX7_without_9) (fun H locs hP hS => ?_)
    refine lv_if_eq (tgt := 25) hx hb dX7_without_12 (by decide) (fun c4 => ?_) (fun c4 => ?_)
    · have h := zif_t h c4
      refine lv_iconst (v := -1) hx hb dX7_without_25 (by decide) ?_
      exact z_iret X hP hS hr hlocks h dX7_without_26
    · have h := zif_f h c4
      refine lv_iload_n hx hb dX7_without_15 rfl (lv_at hl 3 rfl) ?_
      refine lv_i2l hx hb dX7_without_16 rfl ?_
      refine lv_lconst (v := 0) hx hb dX7_without_17 (by decide) ?_
      refine lv_lconst (v := 1) hx hb dX7_without_18 (by decide) ?_
      obtain ⟨u5, s5, e5, h⟩ := zb_some h
      refine z_calli hS (z_runS (As := [.long (x3).toInt64, .long (0 : Int64), .long (1 : Int64)]) (rest := []) X hG hA hE hP hS (kX7_isIn (l := l) (D := D) (a := a) (cI := cI) (cJ := cJ) (cC := cC) e5 _) (va_cwS 3 hts gX7_without_X7_isIn rfl rfl rfl (by decide +kernel) ⟨Nat.le_of_ble_eq_true rfl, Nat.le_of_ble_eq_true rfl⟩) rfl hl.1 rfl (Nat.le_of_ble_eq_true rfl) dX7_without_19) (fun H locs hP hS => ?_)
      refine lv_if_ne (tgt := 27) hx hb dX7_without_22 (by decide) (fun c6 => ?_) (fun c6 => ?_)
      · have h := zif_f h c6
        refine lv_aload_n hx hb dX7_without_27 rfl (lv_at hl 0 rfl) ?_
        refine lv_iload_n hx hb dX7_without_28 rfl (lv_at hl 1 rfl) ?_
        obtain ⟨u7, s7, e7, h⟩ := zb_some h
        refine z_calli hS (z_runV (As := [.int x1]) (rest := []) X hG hA hE hP hS 0 (kX7_size (l := l) (D := D) (a := a) (cI := cI) (cJ := cJ) (cC := cC) e7 _) (cwV 1 hts gX7_without_X7_size rfl rfl rfl (by decide +kernel) ⟨Nat.le_of_ble_eq_true rfl, Nat.le_of_ble_eq_true rfl⟩) (by decide) (zcM_0 _ _ _ _ _ _) rfl rfl rfl hl.1 rfl (Nat.le_of_ble_eq_true rfl) dX7_without_29) (fun H locs hP hS => ?_)
        refine lv_if_ne (tgt := 40) hx hb dX7_without_32 (by decide) (fun c8 => ?_) (fun c8 => ?_)
        · have h := zif_f h c8
          refine lv_aload_n hx hb dX7_without_40 rfl (lv_at hl 0 rfl) ?_
          refine lv_iload_n hx hb dX7_without_41 rfl (lv_at hl 1 rfl) ?_
          refine lv_iload_n hx hb dX7_without_42 rfl (lv_at hl 2 rfl) ?_
          refine lv_iload_n hx hb dX7_without_43 rfl (lv_at hl 3 rfl) ?_
          refine lv_if_ne (tgt := 51) hx hb dX7_without_44 (by decide) (fun c9 => ?_) (fun c9 => ?_)
          · have h := zif_f h c9
            refine lv_iconst (v := 0) hx hb dX7_without_51 (by decide) ?_
            exact w52   (x1) (x2) ((0 : Int32)) (s7) _ _ _ h hP hS (lv_sub hl [] rfl)
          · have h := zif_t h c9
            refine lv_iconst (v := 1) hx hb dX7_without_47 (by decide) ?_
            refine lv_goto (tgt := 52) hx hb dX7_without_48 (by decide) ?_
            exact w52   (x1) (x2) ((1 : Int32)) (s7) _ _ _ h hP hS (lv_sub hl [] rfl)
        · have h := zif_t h c8
          refine lv_bipush (v := -3) hx hb dX7_without_35 (by decide) ?_
          refine lv_goto (tgt := 55) hx hb dX7_without_37 (by decide) ?_
          exact z_iret X hP hS hr hlocks h dX7_without_55
      · have h := zif_t h c6
        refine lv_iconst (v := -1) hx hb dX7_without_25 (by decide) ?_
        exact z_iret X hP hS hr hlocks h dX7_without_26
abbrev rmX7_dark : Room := { frames := 5, cells := 0, slots := 0, locals := 112 }
set_option maxHeartbeats 4000000 in
set_option maxRecDepth 100000 in
theorem kX7_dark {l : Launch} {D : va_G} {a : Nat → Nat} {cI cJ cC : ClassId} {x1 : Int32} {x2 : Int32} {x3 : Int32} {s τ : ZS} {r : Int32} (h : fX7_dark x1 x2 x3 s = some (r, τ)) : zMi (zcM a cI cJ cC) 17 a D [(cI, .int), (cJ, .long), (cC, .char)] zEM l yX7_dark wsX7_dark rmX7_dark [.ref (a 0), .int x1, .int x2, .int x3] s r τ := by
  refine z_start (cc := cX7_dark) (maxL := 5) (ret := (some .int)) RX7 rfl (by decide) rfl (Nat.le_of_ble_eq_true rfl) ?_
  intro p e st m args below meth c ls H locs X hr hlocks hA hE hP hS hl
  obtain ⟨hx, hb, hml, hown, hts, -⟩ := id X
  have hG := zEM_good
  have inX7 : ∀ w ∈ u_ws RX7 TX7 26, w ∈ wsX7_dark := by decide +kernel
  have w56 : ∀ (k33 : Int32 → Int32 → Int32 → Int32 → ZS → Option (Int32 × ZS)) (hk33 : ∀ (x1 : Int32) (x2 : Int32) (x3 : Int32) (x4 : Int32) (s : ZS) (H : Heap) (locs : List Loc) (ls : Array Slot), k33 x1 x2 x3 x4 s = some (r, τ) → va_P D vwCl (zW (zcM a cI cJ cC) 17 a s) H → va_S (zF 17 a st.heap.size) st.heap H locs → lv_has ls 5 [(0, .ref (a 0)), (1, .int x1), (2, .int x2), (3, .int x3), (4, .int x4)] → W p l e rmX7_dark st m args below meth c H locs 0 0 (MQ below (va_Qi (fun (r' : Int32) (τ' : ZS) => r' = r ∧ τ' = τ) (zPost (zcM a cI cJ cC) 17 a D [(cI, .int), (cJ, .long), (cC, .char)]) (zF 17 a st.heap.size)) args st 0 0 (zF 17 a st.heap.size)) (F0 m 33 ls [])) (x1 : Int32) (x2 : Int32) (x3 : Int32) (x4 : Int32) (s : ZS) (H : Heap) (locs : List Loc) (ls : Array Slot), fX7_dark_56 k33 x1 x2 x3 x4 s = some (r, τ) → va_P D vwCl (zW (zcM a cI cJ cC) 17 a s) H → va_S (zF 17 a st.heap.size) st.heap H locs → lv_has ls 5 [(0, .ref (a 0)), (1, .int x1), (2, .int x2), (3, .int x3), (4, .int x4)] → W p l e rmX7_dark st m args below meth c H locs 0 0 (MQ below (va_Qi (fun (r' : Int32) (τ' : ZS) => r' = r ∧ τ' = τ) (zPost (zcM a cI cJ cC) 17 a D [(cI, .int), (cJ, .long), (cC, .char)]) (zF 17 a st.heap.size)) args st 0 0 (zF 17 a st.heap.size)) (F0 m 56 ls []) := by
    intro k33 hk33 x1 x2 x3 x4 s H locs ls h hP hS hl
    refine lv_aload_n hx hb dX7_dark_56 rfl (lv_at hl 0 rfl) ?_
    refine lv_iload_n hx hb dX7_dark_57 rfl (lv_at hl 2 rfl) ?_
    obtain ⟨u1, s1, e1, h⟩ := zb_some h
    refine z_callv hS (z_runV (As := [.int x2]) (rest := []) X hG hA hE hP hS 0 (kX7_findShades (l := l) (D := D) (a := a) (cI := cI) (cJ := cJ) (cC := cC) e1 _) (cwV 1 hts gX7_dark_X7_findShades rfl rfl rfl (by decide +kernel) ⟨Nat.le_of_ble_eq_true rfl, Nat.le_of_ble_eq_true rfl⟩) (by decide) (zcM_0 _ _ _ _ _ _) rfl rfl rfl hl.1 rfl (Nat.le_of_ble_eq_true rfl) dX7_dark_58) (fun H locs hP hS => ?_)
    refine lv_aload_n hx hb dX7_dark_61 rfl (lv_at hl 0 rfl) ?_
    refine z_get (C := RX7) (T := TX7) (N := 26) X inX7 hP 0 (by decide) (zcM_0 _ _ _ _ _ _) rfl 5 (by decide) rfl (by decide +kernel) rfl dX7_dark_62 ?_
    refine lv_iconst (v := 0) hx hb dX7_dark_65 (by decide) ?_
    obtain ⟨g2, h⟩ := zg_some h
    refine z_iald X hP 4 0 (by decide) (zcM_4 _ _ _ _ _ _) rfl g2 dX7_dark_66 ?_
    refine lv_aload_n hx hb dX7_dark_67 rfl (lv_at hl 0 rfl) ?_
    refine z_get (C := RX7) (T := TX7) (N := 26) X inX7 hP 0 (by decide) (zcM_0 _ _ _ _ _ _) rfl 5 (by decide) rfl (by decide +kernel) rfl dX7_dark_68 ?_
    refine lv_iconst (v := 1) hx hb dX7_dark_71 (by decide) ?_
    obtain ⟨g3, h⟩ := zg_some h
    refine z_iald X hP 4 0 (by decide) (zcM_4 _ _ _ _ _ _) rfl g3 dX7_dark_72 ?_
    refine lv_iadd hx hb dX7_dark_73 ?_
    refine lv_aload_n hx hb dX7_dark_74 rfl (lv_at hl 0 rfl) ?_
    refine z_get (C := RX7) (T := TX7) (N := 26) X inX7 hP 0 (by decide) (zcM_0 _ _ _ _ _ _) rfl 5 (by decide) rfl (by decide +kernel) rfl dX7_dark_75 ?_
    refine lv_iconst (v := 2) hx hb dX7_dark_78 (by decide) ?_
    obtain ⟨g4, h⟩ := zg_some h
    refine z_iald X hP 4 0 (by decide) (zcM_4 _ _ _ _ _ _) rfl g4 dX7_dark_79 ?_
    refine lv_iadd hx hb dX7_dark_80 ?_
    refine lv_if_ne (tgt := 87) hx hb dX7_dark_81 (by decide) (fun c5 => ?_) (fun c5 => ?_)
    · have h := zif_f h c5
      refine lv_iinc (v := (x4 + (1 : Int32))) (lv' := [(4, .int (x4 + (1 : Int32))), (0, .ref (a 0)), (1, .int x1), (2, .int x2), (3, .int x3)]) hx hb dX7_dark_87 hl (k := 4) rfl rfl (by decide) rfl (fun ls hl => ?_)
      refine lv_goto (tgt := 33) hx hb dX7_dark_90 (by decide) ?_
      exact hk33 (x1) (x2) (x3) ((x4 + (1 : Int32))) (s1) _ _ _ h hP hS (lv_sub hl [1, 2, 3, 4, 0] rfl)
    · have h := zif_t h c5
      refine lv_iload hx hb dX7_dark_84 (lv_at hl 4 rfl) ?_
      exact z_iret X hP hS hr hlocks h dX7_dark_86
  have w33 : ∀  (n : Nat) (x1 : Int32) (x2 : Int32) (x3 : Int32) (x4 : Int32) (s : ZS) (H : Heap) (locs : List Loc) (ls : Array Slot), fX7_dark_33n  n (x1, x2, x3, x4, s) = some (r, τ) → va_P D vwCl (zW (zcM a cI cJ cC) 17 a s) H → va_S (zF 17 a st.heap.size) st.heap H locs → lv_has ls 5 [(0, .ref (a 0)), (1, .int x1), (2, .int x2), (3, .int x3), (4, .int x4)] → W p l e rmX7_dark st m args below meth c H locs 0 0 (MQ below (va_Qi (fun (r' : Int32) (τ' : ZS) => r' = r ∧ τ' = τ) (zPost (zcM a cI cJ cC) 17 a D [(cI, .int), (cJ, .long), (cC, .char)]) (zF 17 a st.heap.size)) args st 0 0 (zF 17 a st.heap.size)) (F0 m 33 ls []) := by
    intro  n
    induction n with
    | zero => intro x1 x2 x3 x4 s H locs ls h; exact zloop_0 h
    | succ n ih =>
      intro x1 x2 x3 x4 s H locs ls h hP hS hl
      have h : fX7_dark_33b  (fun x1 x2 x3 x4 s => fX7_dark_33n  n (x1, x2, x3, x4, s)) x1 x2 x3 x4 s = some (r, τ) := h
      refine lv_iload hx hb dX7_dark_33 (lv_at hl 4 rfl) ?_
      refine lv_aload_n hx hb dX7_dark_35 rfl (lv_at hl 0 rfl) ?_
      refine lv_iload_n hx hb dX7_dark_36 rfl (lv_at hl 1 rfl) ?_
      obtain ⟨u1, s1, e1, h⟩ := zb_some h
      refine z_calli hS (z_runV (As := [.int x1]) (rest := [.int x4]) X hG hA hE hP hS 0 (kX7_size (l := l) (D := D) (a := a) (cI := cI) (cJ := cJ) (cC := cC) e1 _) (cwV 1 hts gX7_dark_X7_size rfl rfl rfl (by decide +kernel) ⟨Nat.le_of_ble_eq_true rfl, Nat.le_of_ble_eq_true rfl⟩) (by decide) (zcM_0 _ _ _ _ _ _) rfl rfl rfl hl.1 rfl (Nat.le_of_ble_eq_true rfl) dX7_dark_37) (fun H locs hP hS => ?_)
      refine lv_iadd hx hb dX7_dark_40 ?_
      refine lv_bipush (v := 8) hx hb dX7_dark_41 (by decide) ?_
      refine lv_icmp_gt (tgt := 93) hx hb dX7_dark_43 (by decide) (fun c2 => ?_) (fun c2 => ?_)
      · have h := zif_t h c2
        refine lv_bipush (v := -5) hx hb dX7_dark_93 (by decide) ?_
        exact z_iret X hP hS hr hlocks h dX7_dark_95
      · have h := zif_f h c2
        refine lv_iload hx hb dX7_dark_46 (lv_at hl 4 rfl) ?_
        refine lv_if_le (tgt := 56) hx hb dX7_dark_48 (by decide) (fun c3 => ?_) (fun c3 => ?_)
        · have h := zif_t h c3
          exact w56 (fun x1 x2 x3 x4 s => fX7_dark_33n  n (x1, x2, x3, x4, s)) (fun x1 x2 x3 x4 s H locs ls h hP hS hl => ih x1 x2 x3 x4 s H locs ls h hP hS hl)  (x1) (x2) (x3) (x4) (s1) _ _ _ h hP hS (lv_sub hl [0, 1, 2, 3, 4] rfl)
        · have h := zif_f h c3
          refine lv_aload_n hx hb dX7_dark_51 rfl (lv_at hl 0 rfl) ?_
          refine lv_iload_n hx hb dX7_dark_52 rfl (lv_at hl 3 rfl) ?_
          obtain ⟨u4, s4, e4, h⟩ := zb_some h
          refine z_callv hS (z_runV (As := [.int x3]) (rest := []) X hG hA hE hP hS 0 (kX7_lays (l := l) (D := D) (a := a) (cI := cI) (cJ := cJ) (cC := cC) e4 _) (cwV 1 hts gX7_dark_X7_lays rfl rfl rfl (by decide +kernel) ⟨Nat.le_of_ble_eq_true rfl, Nat.le_of_ble_eq_true rfl⟩) (by decide) (zcM_0 _ _ _ _ _ _) rfl rfl rfl hl.1 rfl (Nat.le_of_ble_eq_true rfl) dX7_dark_53) (fun H locs hP hS => ?_)
          exact w56 (fun x1 x2 x3 x4 s => fX7_dark_33n  n (x1, x2, x3, x4, s)) (fun x1 x2 x3 x4 s H locs ls h hP hS hl => ih x1 x2 x3 x4 s H locs ls h hP hS hl)  (x1) (x2) (x3) (x4) (s4) _ _ _ h hP hS (lv_sub hl [0, 1, 2, 3, 4] rfl)
  have hl : lv_has ls 5 [(0, .ref (a 0)), (1, .int x1), (2, .int x2), (3, .int x3)] := hl
  refine lv_aload_n hx hb dX7_dark_0 rfl (lv_at hl 0 rfl) ?_
  refine lv_iload_n hx hb dX7_dark_1 rfl (lv_at hl 1 rfl) ?_
  obtain ⟨u1, s1, e1, h⟩ := zb_some h
  refine z_calli hS (z_runV (As := [.int x1]) (rest := []) X hG hA hE hP hS 0 (kX7_isStack (l := l) (D := D) (a := a) (cI := cI) (cJ := cJ) (cC := cC) e1 _) (cwV 1 hts gX7_dark_X7_isStack rfl rfl rfl (by decide +kernel) ⟨Nat.le_of_ble_eq_true rfl, Nat.le_of_ble_eq_true rfl⟩) (by decide) (zcM_0 _ _ _ _ _ _) rfl rfl rfl hl.1 rfl (Nat.le_of_ble_eq_true rfl) dX7_dark_2) (fun H locs hP hS => ?_)
  refine lv_if_eq (tgt := 23) hx hb dX7_dark_5 (by decide) (fun c2 => ?_) (fun c2 => ?_)
  · have h := zif_t h c2
    refine lv_iconst (v := -1) hx hb dX7_dark_23 (by decide) ?_
    exact z_iret X hP hS hr hlocks h dX7_dark_24
  · have h := zif_f h c2
    refine lv_iload_n hx hb dX7_dark_8 rfl (lv_at hl 2 rfl) ?_
    obtain ⟨u3, s3, e3, h⟩ := zb_some h
    refine z_calli hS (z_runS (As := [.int x2]) (rest := []) X hG hA hE hP hS (kX7_isLamp (l := l) (D := D) (a := a) (cI := cI) (cJ := cJ) (cC := cC) e3 _) (va_cwS 1 hts gX7_dark_X7_isLamp rfl rfl rfl (by decide +kernel) ⟨Nat.le_of_ble_eq_true rfl, Nat.le_of_ble_eq_true rfl⟩) rfl hl.1 rfl (Nat.le_of_ble_eq_true rfl) dX7_dark_9) (fun H locs hP hS => ?_)
    refine lv_if_eq (tgt := 23) hx hb dX7_dark_12 (by decide) (fun c4 => ?_) (fun c4 => ?_)
    · have h := zif_t h c4
      refine lv_iconst (v := -1) hx hb dX7_dark_23 (by decide) ?_
      exact z_iret X hP hS hr hlocks h dX7_dark_24
    · have h := zif_f h c4
      refine lv_aload_n hx hb dX7_dark_15 rfl (lv_at hl 0 rfl) ?_
      refine lv_iload_n hx hb dX7_dark_16 rfl (lv_at hl 3 rfl) ?_
      obtain ⟨u5, s5, e5, h⟩ := zb_some h
      refine z_calli hS (z_runV (As := [.int x3]) (rest := []) X hG hA hE hP hS 0 (kX7_isSheet (l := l) (D := D) (a := a) (cI := cI) (cJ := cJ) (cC := cC) e5 _) (cwV 1 hts gX7_dark_X7_isSheet rfl rfl rfl (by decide +kernel) ⟨Nat.le_of_ble_eq_true rfl, Nat.le_of_ble_eq_true rfl⟩) (by decide) (zcM_0 _ _ _ _ _ _) rfl rfl rfl hl.1 rfl (Nat.le_of_ble_eq_true rfl) dX7_dark_17) (fun H locs hP hS => ?_)
      refine lv_if_ne (tgt := 25) hx hb dX7_dark_20 (by decide) (fun c6 => ?_) (fun c6 => ?_)
      · have h := zif_f h c6
        refine lv_aload_n hx hb dX7_dark_25 rfl (lv_at hl 0 rfl) ?_
        refine lv_iload_n hx hb dX7_dark_26 rfl (lv_at hl 1 rfl) ?_
        obtain ⟨u7, s7, e7, h⟩ := zb_some h
        refine z_callv hS (z_runV (As := [.int x1]) (rest := []) X hG hA hE hP hS 0 (kX7_shines (l := l) (D := D) (a := a) (cI := cI) (cJ := cJ) (cC := cC) e7 _) (cwV 1 hts gX7_dark_X7_shines rfl rfl rfl (by decide +kernel) ⟨Nat.le_of_ble_eq_true rfl, Nat.le_of_ble_eq_true rfl⟩) (by decide) (zcM_0 _ _ _ _ _ _) rfl rfl rfl hl.1 rfl (Nat.le_of_ble_eq_true rfl) dX7_dark_27) (fun H locs hP hS => ?_)
        refine lv_iconst (v := 0) hx hb dX7_dark_30 (by decide) ?_
        refine lv_istore (lv' := [(4, .int (0 : Int32)), (0, .ref (a 0)), (1, .int x1), (2, .int x2), (3, .int x3)]) hx hb dX7_dark_31 hl (by decide) rfl (fun ls hl => ?_)
        exact w33  zN (x1) (x2) (x3) ((0 : Int32)) (s7) _ _ _ h hP hS (lv_sub hl [1, 2, 3, 4, 0] rfl)
      · have h := zif_t h c6
        refine lv_iconst (v := -1) hx hb dX7_dark_23 (by decide) ?_
        exact z_iret X hP hS hr hlocks h dX7_dark_24
abbrev rmX7_fades : Room := { frames := 5, cells := 0, slots := 0, locals := 112 }
set_option maxHeartbeats 4000000 in
set_option maxRecDepth 100000 in
theorem kX7_fades {l : Launch} {D : va_G} {a : Nat → Nat} {cI cJ cC : ClassId} {x1 : Int32} {x2 : Int32} {s τ : ZS} {r : Int32} (h : fX7_fades x1 x2 s = some (r, τ)) : zMi (zcM a cI cJ cC) 17 a D [(cI, .int), (cJ, .long), (cC, .char)] zEM l yX7_fades wsX7_fades rmX7_fades [.ref (a 0), .int x1, .int x2] s r τ := by
  refine z_start (cc := cX7_fades) (maxL := 5) (ret := (some .int)) RX7 rfl (by decide) rfl (Nat.le_of_ble_eq_true rfl) ?_
  intro p e st m args below meth c ls H locs X hr hlocks hA hE hP hS hl
  obtain ⟨hx, hb, hml, hown, hts, -⟩ := id X
  have hG := zEM_good
  have inX7 : ∀ w ∈ u_ws RX7 TX7 26, w ∈ wsX7_fades := by decide +kernel
  have w38 : ∀ (k29 : Int32 → Int32 → ZS → Option (Int32 × ZS)) (hk29 : ∀ (x2 : Int32) (x3 : Int32) (s : ZS) (H : Heap) (locs : List Loc) (ls : Array Slot), k29 x2 x3 s = some (r, τ) → va_P D vwCl (zW (zcM a cI cJ cC) 17 a s) H → va_S (zF 17 a st.heap.size) st.heap H locs → lv_has ls 5 [(0, .ref (a 0)), (2, .int x2), (3, .int x3)] → W p l e rmX7_fades st m args below meth c H locs 0 0 (MQ below (va_Qi (fun (r' : Int32) (τ' : ZS) => r' = r ∧ τ' = τ) (zPost (zcM a cI cJ cC) 17 a D [(cI, .int), (cJ, .long), (cC, .char)]) (zF 17 a st.heap.size)) args st 0 0 (zF 17 a st.heap.size)) (F0 m 29 ls [])) (n : Nat) (x2 : Int32) (x3 : Int32) (x4 : Int32) (s : ZS) (H : Heap) (locs : List Loc) (ls : Array Slot), fX7_fades_38n k29 n (x2, x3, x4, s) = some (r, τ) → va_P D vwCl (zW (zcM a cI cJ cC) 17 a s) H → va_S (zF 17 a st.heap.size) st.heap H locs → lv_has ls 5 [(0, .ref (a 0)), (2, .int x2), (3, .int x3), (4, .int x4)] → W p l e rmX7_fades st m args below meth c H locs 0 0 (MQ below (va_Qi (fun (r' : Int32) (τ' : ZS) => r' = r ∧ τ' = τ) (zPost (zcM a cI cJ cC) 17 a D [(cI, .int), (cJ, .long), (cC, .char)]) (zF 17 a st.heap.size)) args st 0 0 (zF 17 a st.heap.size)) (F0 m 38 ls []) := by
    intro k29 hk29 n
    induction n with
    | zero => intro x2 x3 x4 s H locs ls h; exact zloop_0 h
    | succ n ih =>
      intro x2 x3 x4 s H locs ls h hP hS hl
      have h : fX7_fades_38b k29 (fun x2 x3 x4 s => fX7_fades_38n k29 n (x2, x3, x4, s)) x2 x3 x4 s = some (r, τ) := h
      refine lv_iload hx hb dX7_fades_38 (lv_at hl 3 rfl) ?_
      refine lv_iconst (v := 3) hx hb dX7_fades_40 (by decide) ?_
      refine lv_icmp_ge (tgt := 70) hx hb dX7_fades_41 (by decide) (fun c1 => ?_) (fun c1 => ?_)
      · have h := zif_t h c1
        refine lv_iinc (v := (x3 + (1 : Int32))) (lv' := [(3, .int (x3 + (1 : Int32))), (0, .ref (a 0)), (2, .int x2), (4, .int x4)]) hx hb dX7_fades_70 hl (k := 2) rfl rfl (by decide) rfl (fun ls hl => ?_)
        refine lv_goto (tgt := 29) hx hb dX7_fades_73 (by decide) ?_
        exact hk29 (x2) ((x3 + (1 : Int32))) (s) _ _ _ h hP hS (lv_sub hl [1, 2, 0] rfl)
      · have h := zif_f h c1
        refine lv_aload_n hx hb dX7_fades_44 rfl (lv_at hl 0 rfl) ?_
        refine lv_iload_n hx hb dX7_fades_45 rfl (lv_at hl 1 rfl) ?_
        refine lv_iload_n hx hb dX7_fades_46 rfl (lv_at hl 2 rfl) ?_
        refine lv_iload hx hb dX7_fades_47 (lv_at hl 3 rfl) ?_
        obtain ⟨u2, s2, e2, h⟩ := zb_some h
        refine z_calli hS (z_runV (As := [.int x2, .int x3, .int x4]) (rest := []) X hG hA hE hP hS 0 (kX7_shadeOf (l := l) (D := D) (a := a) (cI := cI) (cJ := cJ) (cC := cC) e2 _) (cwV 3 hts gX7_fades_X7_shadeOf rfl rfl rfl (by decide +kernel) ⟨Nat.le_of_ble_eq_true rfl, Nat.le_of_ble_eq_true rfl⟩) (by decide) (zcM_0 _ _ _ _ _ _) rfl rfl rfl hl.1 rfl (Nat.le_of_ble_eq_true rfl) dX7_fades_49) (fun H locs hP hS => ?_)
        refine lv_aload_n hx hb dX7_fades_52 rfl (lv_at hl 0 rfl) ?_
        refine z_get (C := RX7) (T := TX7) (N := 26) X inX7 hP 0 (by decide) (zcM_0 _ _ _ _ _ _) rfl 5 (by decide) rfl (by decide +kernel) rfl dX7_fades_53 ?_
        refine lv_iload hx hb dX7_fades_56 (lv_at hl 3 rfl) ?_
        obtain ⟨g3, h⟩ := zg_some h
        refine z_iald X hP 4 0 (by decide) (zcM_4 _ _ _ _ _ _) rfl g3 dX7_fades_58 ?_
        refine lv_icmp_eq (tgt := 64) hx hb dX7_fades_59 (by decide) (fun c4 => ?_) (fun c4 => ?_)
        · have h := zif_t h c4
          refine lv_iinc (v := (x4 + (1 : Int32))) (lv' := [(4, .int (x4 + (1 : Int32))), (0, .ref (a 0)), (2, .int x2), (3, .int x3)]) hx hb dX7_fades_64 hl (k := 3) rfl rfl (by decide) rfl (fun ls hl => ?_)
          refine lv_goto (tgt := 38) hx hb dX7_fades_67 (by decide) ?_
          exact ih (x2) (x3) ((x4 + (1 : Int32))) (s2) _ _ _ h hP hS (lv_sub hl [1, 2, 3, 0] rfl)
        · have h := zif_f h c4
          refine lv_iload_n hx hb dX7_fades_62 rfl (lv_at hl 2 rfl) ?_
          exact z_iret X hP hS hr hlocks h dX7_fades_63
  have w29 : ∀  (n : Nat) (x2 : Int32) (x3 : Int32) (s : ZS) (H : Heap) (locs : List Loc) (ls : Array Slot), fX7_fades_29n  n (x2, x3, s) = some (r, τ) → va_P D vwCl (zW (zcM a cI cJ cC) 17 a s) H → va_S (zF 17 a st.heap.size) st.heap H locs → lv_has ls 5 [(0, .ref (a 0)), (2, .int x2), (3, .int x3)] → W p l e rmX7_fades st m args below meth c H locs 0 0 (MQ below (va_Qi (fun (r' : Int32) (τ' : ZS) => r' = r ∧ τ' = τ) (zPost (zcM a cI cJ cC) 17 a D [(cI, .int), (cJ, .long), (cC, .char)]) (zF 17 a st.heap.size)) args st 0 0 (zF 17 a st.heap.size)) (F0 m 29 ls []) := by
    intro  n
    induction n with
    | zero => intro x2 x3 s H locs ls h; exact zloop_0 h
    | succ n ih =>
      intro x2 x3 s H locs ls h hP hS hl
      have h : fX7_fades_29b  (fun x2 x3 s => fX7_fades_29n  n (x2, x3, s)) x2 x3 s = some (r, τ) := h
      refine lv_iload_n hx hb dX7_fades_29 rfl (lv_at hl 2 rfl) ?_
      refine lv_bipush (v := 10) hx hb dX7_fades_30 (by decide) ?_
      refine lv_icmp_gt (tgt := 76) hx hb dX7_fades_32 (by decide) (fun c1 => ?_) (fun c1 => ?_)
      · have h := zif_t h c1
        refine lv_bipush (v := -5) hx hb dX7_fades_76 (by decide) ?_
        exact z_iret X hP hS hr hlocks h dX7_fades_78
      · have h := zif_f h c1
        refine lv_iconst (v := 0) hx hb dX7_fades_35 (by decide) ?_
        refine lv_istore (lv' := [(4, .int (0 : Int32)), (0, .ref (a 0)), (2, .int x2), (3, .int x3)]) hx hb dX7_fades_36 hl (by decide) rfl (fun ls hl => ?_)
        exact w38 (fun x2 x3 s => fX7_fades_29n  n (x2, x3, s)) (fun x2 x3 s H locs ls h hP hS hl => ih x2 x3 s H locs ls h hP hS hl) zN (x2) (x3) ((0 : Int32)) (s) _ _ _ h hP hS (lv_sub hl [1, 2, 3, 0] rfl)
  have hl : lv_has ls 5 [(0, .ref (a 0)), (1, .int x1), (2, .int x2)] := hl
  refine lv_aload_n hx hb dX7_fades_0 rfl (lv_at hl 0 rfl) ?_
  refine lv_iload_n hx hb dX7_fades_1 rfl (lv_at hl 1 rfl) ?_
  obtain ⟨u1, s1, e1, h⟩ := zb_some h
  refine z_calli hS (z_runV (As := [.int x1]) (rest := []) X hG hA hE hP hS 0 (kX7_isStack (l := l) (D := D) (a := a) (cI := cI) (cJ := cJ) (cC := cC) e1 _) (cwV 1 hts gX7_fades_X7_isStack rfl rfl rfl (by decide +kernel) ⟨Nat.le_of_ble_eq_true rfl, Nat.le_of_ble_eq_true rfl⟩) (by decide) (zcM_0 _ _ _ _ _ _) rfl rfl rfl hl.1 rfl (Nat.le_of_ble_eq_true rfl) dX7_fades_2) (fun H locs hP hS => ?_)
  refine lv_if_eq (tgt := 15) hx hb dX7_fades_5 (by decide) (fun c2 => ?_) (fun c2 => ?_)
  · have h := zif_t h c2
    refine lv_iconst (v := -1) hx hb dX7_fades_15 (by decide) ?_
    exact z_iret X hP hS hr hlocks h dX7_fades_16
  · have h := zif_f h c2
    refine lv_iload_n hx hb dX7_fades_8 rfl (lv_at hl 2 rfl) ?_
    obtain ⟨u3, s3, e3, h⟩ := zb_some h
    refine z_calli hS (z_runS (As := [.int x2]) (rest := []) X hG hA hE hP hS (kX7_isLamp (l := l) (D := D) (a := a) (cI := cI) (cJ := cJ) (cC := cC) e3 _) (va_cwS 1 hts gX7_fades_X7_isLamp rfl rfl rfl (by decide +kernel) ⟨Nat.le_of_ble_eq_true rfl, Nat.le_of_ble_eq_true rfl⟩) rfl hl.1 rfl (Nat.le_of_ble_eq_true rfl) dX7_fades_9) (fun H locs hP hS => ?_)
    refine lv_if_ne (tgt := 17) hx hb dX7_fades_12 (by decide) (fun c4 => ?_) (fun c4 => ?_)
    · have h := zif_f h c4
      refine lv_aload_n hx hb dX7_fades_17 rfl (lv_at hl 0 rfl) ?_
      refine lv_iload_n hx hb dX7_fades_18 rfl (lv_at hl 1 rfl) ?_
      obtain ⟨u5, s5, e5, h⟩ := zb_some h
      refine z_callv hS (z_runV (As := [.int x1]) (rest := []) X hG hA hE hP hS 0 (kX7_shines (l := l) (D := D) (a := a) (cI := cI) (cJ := cJ) (cC := cC) e5 _) (cwV 1 hts gX7_fades_X7_shines rfl rfl rfl (by decide +kernel) ⟨Nat.le_of_ble_eq_true rfl, Nat.le_of_ble_eq_true rfl⟩) (by decide) (zcM_0 _ _ _ _ _ _) rfl rfl rfl hl.1 rfl (Nat.le_of_ble_eq_true rfl) dX7_fades_19) (fun H locs hP hS => ?_)
      refine lv_aload_n hx hb dX7_fades_22 rfl (lv_at hl 0 rfl) ?_
      refine lv_iload_n hx hb dX7_fades_23 rfl (lv_at hl 2 rfl) ?_
      obtain ⟨u6, s6, e6, h⟩ := zb_some h
      refine z_callv hS (z_runV (As := [.int x2]) (rest := []) X hG hA hE hP hS 0 (kX7_findShades (l := l) (D := D) (a := a) (cI := cI) (cJ := cJ) (cC := cC) e6 _) (cwV 1 hts gX7_fades_X7_findShades rfl rfl rfl (by decide +kernel) ⟨Nat.le_of_ble_eq_true rfl, Nat.le_of_ble_eq_true rfl⟩) (by decide) (zcM_0 _ _ _ _ _ _) rfl rfl rfl hl.1 rfl (Nat.le_of_ble_eq_true rfl) dX7_fades_24) (fun H locs hP hS => ?_)
      refine lv_iconst (v := 1) hx hb dX7_fades_27 (by decide) ?_
      refine lv_istore_n (lv' := [(3, .int (1 : Int32)), (0, .ref (a 0)), (1, .int x1), (2, .int x2)]) hx hb dX7_fades_28 rfl hl (by decide) rfl (fun ls hl => ?_)
      exact w29  zN (x2) ((1 : Int32)) (s6) _ _ _ h hP hS (lv_sub hl [1, 3, 0] rfl)
    · have h := zif_t h c4
      refine lv_iconst (v := -1) hx hb dX7_fades_15 (by decide) ?_
      exact z_iret X hP hS hr hlocks h dX7_fades_16
abbrev rmX7_isTold : Room := { frames := 5, cells := 0, slots := 0, locals := 112 }
set_option maxHeartbeats 4000000 in
set_option maxRecDepth 100000 in
theorem kX7_isTold {l : Launch} {D : va_G} {a : Nat → Nat} {cI cJ cC : ClassId} {x1 : Int32} {x2 : Int32} {x3 : Int32} {s τ : ZS} {r : Int32} (h : fX7_isTold x1 x2 x3 s = some (r, τ)) : zMi (zcM a cI cJ cC) 17 a D [(cI, .int), (cJ, .long), (cC, .char)] zEM l yX7_isTold wsX7_isTold rmX7_isTold [.ref (a 0), .int x1, .int x2, .int x3] s r τ := by
  refine z_start (cc := cX7_isTold) (maxL := 5) (ret := (some .boolean)) RX7 rfl (by decide) rfl (Nat.le_of_ble_eq_true rfl) ?_
  intro p e st m args below meth c ls H locs X hr hlocks hA hE hP hS hl
  obtain ⟨hx, hb, hml, hown, hts, -⟩ := id X
  have hG := zEM_good
  have inX7 : ∀ w ∈ u_ws RX7 TX7 26, w ∈ wsX7_isTold := by decide +kernel
  have w13 : ∀  (n : Nat) (x3 : Int32) (x4 : Int32) (s : ZS) (H : Heap) (locs : List Loc) (ls : Array Slot), fX7_isTold_13n  n (x3, x4, s) = some (r, τ) → va_P D vwCl (zW (zcM a cI cJ cC) 17 a s) H → va_S (zF 17 a st.heap.size) st.heap H locs → lv_has ls 5 [(0, .ref (a 0)), (3, .int x3), (4, .int x4)] → W p l e rmX7_isTold st m args below meth c H locs 0 0 (MQ below (va_Qi (fun (r' : Int32) (τ' : ZS) => r' = r ∧ τ' = τ) (zPost (zcM a cI cJ cC) 17 a D [(cI, .int), (cJ, .long), (cC, .char)]) (zF 17 a st.heap.size)) args st 0 0 (zF 17 a st.heap.size)) (F0 m 13 ls []) := by
    intro  n
    induction n with
    | zero => intro x3 x4 s H locs ls h; exact zloop_0 h
    | succ n ih =>
      intro x3 x4 s H locs ls h hP hS hl
      have h : fX7_isTold_13b  (fun x3 x4 s => fX7_isTold_13n  n (x3, x4, s)) x3 x4 s = some (r, τ) := h
      refine lv_iload hx hb dX7_isTold_13 (lv_at hl 2 rfl) ?_
      refine lv_iconst (v := 3) hx hb dX7_isTold_15 (by decide) ?_
      refine lv_icmp_ge (tgt := 49) hx hb dX7_isTold_16 (by decide) (fun c1 => ?_) (fun c1 => ?_)
      · have h := zif_t h c1
        refine lv_iconst (v := 1) hx hb dX7_isTold_49 (by decide) ?_
        exact z_zret X hP hS hr hlocks (by decide) h dX7_isTold_50
      · have h := zif_f h c1
        refine lv_aload_n hx hb dX7_isTold_19 rfl (lv_at hl 0 rfl) ?_
        refine z_get (C := RX7) (T := TX7) (N := 26) X inX7 hP 0 (by decide) (zcM_0 _ _ _ _ _ _) rfl 5 (by decide) rfl (by decide +kernel) rfl dX7_isTold_20 ?_
        refine lv_iload hx hb dX7_isTold_23 (lv_at hl 2 rfl) ?_
        obtain ⟨g2, h⟩ := zg_some h
        refine z_iald X hP 4 0 (by decide) (zcM_4 _ _ _ _ _ _) rfl g2 dX7_isTold_25 ?_
        refine lv_aload_n hx hb dX7_isTold_26 rfl (lv_at hl 0 rfl) ?_
        refine z_get (C := RX7) (T := TX7) (N := 26) X inX7 hP 0 (by decide) (zcM_0 _ _ _ _ _ _) rfl 24 (by decide) rfl (by decide +kernel) rfl dX7_isTold_27 ?_
        refine lv_bipush (v := 18) hx hb dX7_isTold_30 (by decide) ?_
        refine lv_iload_n hx hb dX7_isTold_32 rfl (lv_at hl 1 rfl) ?_
        refine lv_imul hx hb dX7_isTold_33 ?_
        refine lv_iload hx hb dX7_isTold_34 (lv_at hl 2 rfl) ?_
        refine lv_iadd hx hb dX7_isTold_36 ?_
        obtain ⟨g3, h⟩ := zg_some h
        refine z_iald X hP 15 0 (by decide) (zcM_15 _ _ _ _ _ _) rfl g3 dX7_isTold_37 ?_
        refine lv_icmp_eq (tgt := 43) hx hb dX7_isTold_38 (by decide) (fun c4 => ?_) (fun c4 => ?_)
        · have h := zif_t h c4
          refine lv_iinc (v := (x4 + (1 : Int32))) (lv' := [(4, .int (x4 + (1 : Int32))), (0, .ref (a 0)), (3, .int x3)]) hx hb dX7_isTold_43 hl (k := 2) rfl rfl (by decide) rfl (fun ls hl => ?_)
          refine lv_goto (tgt := 13) hx hb dX7_isTold_46 (by decide) ?_
          exact ih (x3) ((x4 + (1 : Int32))) (s) _ _ _ h hP hS (lv_sub hl [1, 2, 0] rfl)
        · have h := zif_f h c4
          refine lv_iconst (v := 0) hx hb dX7_isTold_41 (by decide) ?_
          exact z_zret X hP hS hr hlocks (by decide) h dX7_isTold_42
  have hl : lv_has ls 5 [(0, .ref (a 0)), (1, .int x1), (2, .int x2), (3, .int x3)] := hl
  refine lv_aload_n hx hb dX7_isTold_0 rfl (lv_at hl 0 rfl) ?_
  refine lv_iload_n hx hb dX7_isTold_1 rfl (lv_at hl 1 rfl) ?_
  obtain ⟨u1, s1, e1, h⟩ := zb_some h
  refine z_callv hS (z_runV (As := [.int x1]) (rest := []) X hG hA hE hP hS 0 (kX7_shines (l := l) (D := D) (a := a) (cI := cI) (cJ := cJ) (cC := cC) e1 _) (cwV 1 hts gX7_isTold_X7_shines rfl rfl rfl (by decide +kernel) ⟨Nat.le_of_ble_eq_true rfl, Nat.le_of_ble_eq_true rfl⟩) (by decide) (zcM_0 _ _ _ _ _ _) rfl rfl rfl hl.1 rfl (Nat.le_of_ble_eq_true rfl) dX7_isTold_2) (fun H locs hP hS => ?_)
  refine lv_aload_n hx hb dX7_isTold_5 rfl (lv_at hl 0 rfl) ?_
  refine lv_iload_n hx hb dX7_isTold_6 rfl (lv_at hl 2 rfl) ?_
  obtain ⟨u2, s2, e2, h⟩ := zb_some h
  refine z_callv hS (z_runV (As := [.int x2]) (rest := []) X hG hA hE hP hS 0 (kX7_findShades (l := l) (D := D) (a := a) (cI := cI) (cJ := cJ) (cC := cC) e2 _) (cwV 1 hts gX7_isTold_X7_findShades rfl rfl rfl (by decide +kernel) ⟨Nat.le_of_ble_eq_true rfl, Nat.le_of_ble_eq_true rfl⟩) (by decide) (zcM_0 _ _ _ _ _ _) rfl rfl rfl hl.1 rfl (Nat.le_of_ble_eq_true rfl) dX7_isTold_7) (fun H locs hP hS => ?_)
  refine lv_iconst (v := 0) hx hb dX7_isTold_10 (by decide) ?_
  refine lv_istore (lv' := [(4, .int (0 : Int32)), (0, .ref (a 0)), (1, .int x1), (2, .int x2), (3, .int x3)]) hx hb dX7_isTold_11 hl (by decide) rfl (fun ls hl => ?_)
  exact w13  zN (x3) ((0 : Int32)) (s2) _ _ _ h hP hS (lv_sub hl [1, 4, 0] rfl)
abbrev rmX7_isList : Room := { frames := 1, cells := 0, slots := 0, locals := 25 }
set_option maxHeartbeats 4000000 in
set_option maxRecDepth 100000 in
theorem kX7_isList {l : Launch} {D : va_G} {a : Nat → Nat} {cI cJ cC : ClassId} {x0 : Int32} {s τ : ZS} {r : Int32} (h : fX7_isList x0 s = some (r, τ)) : zMi (zcM a cI cJ cC) 17 a D [(cI, .int), (cJ, .long), (cC, .char)] zEM l yX7_isList wsX7_isList rmX7_isList [.int x0] s r τ := by
  refine z_start (cc := cX7_isList) (maxL := 1) (ret := (some .boolean)) RX7 rfl (by decide) rfl (Nat.le_of_ble_eq_true rfl) ?_
  intro p e st m args below meth c ls H locs X hr hlocks hA hE hP hS hl
  obtain ⟨hx, hb, hml, hown, hts, -⟩ := id X
  have hG := zEM_good
  have hl : lv_has ls 1 [(0, .int x0)] := hl
  refine lv_iload_n hx hb dX7_isList_0 rfl (lv_at hl 0 rfl) ?_
  refine lv_i2l hx hb dX7_isList_1 rfl ?_
  refine lv_lconst (v := 0) hx hb dX7_isList_2 (by decide) ?_
  refine lv_ldc2 (own := RX7) (index := 260) (v := 3) hx hb hown (hts _ (by decide +kernel)) dX7_isList_3 ?_
  obtain ⟨u1, s1, e1, h⟩ := zb_some h
  refine z_calli hS (z_runS (As := [.long (x0).toInt64, .long (0 : Int64), .long (3 : Int64)]) (rest := []) X hG hA hE hP hS (kX7_isIn (l := l) (D := D) (a := a) (cI := cI) (cJ := cJ) (cC := cC) e1 _) (va_cwS 3 hts gX7_isList_X7_isIn rfl rfl rfl (by decide +kernel) ⟨Nat.le_of_ble_eq_true rfl, Nat.le_of_ble_eq_true rfl⟩) rfl hl.1 rfl (Nat.le_of_ble_eq_true rfl) dX7_isList_6) (fun H locs hP hS => ?_)
  obtain ⟨g2, h⟩ := zg_some h
  exact z_zret X hP hS hr hlocks (zbo_n g2) h dX7_isList_9
abbrev rmX7_was : Room := { frames := 6, cells := 0, slots := 0, locals := 136 }
set_option maxHeartbeats 4000000 in
set_option maxRecDepth 100000 in
theorem kX7_was {l : Launch} {D : va_G} {a : Nat → Nat} {cI cJ cC : ClassId} {x1 : Int32} {x2 : Int32} {x3 : Int32} {x4 : Int32} {x5 : Int32} {s τ : ZS} {r : Int32} (h : fX7_was x1 x2 x3 x4 x5 s = some (r, τ)) : zMi (zcM a cI cJ cC) 17 a D [(cI, .int), (cJ, .long), (cC, .char)] zEM l yX7_was wsX7_was rmX7_was [.ref (a 0), .int x1, .int x2, .int x3, .int x4, .int x5] s r τ := by
  refine z_start (cc := cX7_was) (maxL := 10) (ret := (some .int)) RX7 rfl (by decide) rfl (Nat.le_of_ble_eq_true rfl) ?_
  intro p e st m args below meth c ls H locs X hr hlocks hA hE hP hS hl
  obtain ⟨hx, hb, hml, hown, hts, -⟩ := id X
  have hG := zEM_good
  have inX7 : ∀ w ∈ u_ws RX7 TX7 26, w ∈ wsX7_was := by decide +kernel
  have w144 : ∀ (k97 : Int32 → Int32 → Int32 → Int32 → Int32 → Int32 → Int32 → Int32 → ZS → Option (Int32 × ZS)) (hk97 : ∀ (x2 : Int32) (x3 : Int32) (x4 : Int32) (x5 : Int32) (x6 : Int32) (x7 : Int32) (x8 : Int32) (x9 : Int32) (s : ZS) (H : Heap) (locs : List Loc) (ls : Array Slot), k97 x2 x3 x4 x5 x6 x7 x8 x9 s = some (r, τ) → va_P D vwCl (zW (zcM a cI cJ cC) 17 a s) H → va_S (zF 17 a st.heap.size) st.heap H locs → lv_has ls 10 [(0, .ref (a 0)), (2, .int x2), (3, .int x3), (4, .int x4), (5, .int x5), (6, .int x6), (7, .int x7), (8, .int x8), (9, .int x9)] → W p l e rmX7_was st m args below meth c H locs 0 0 (MQ below (va_Qi (fun (r' : Int32) (τ' : ZS) => r' = r ∧ τ' = τ) (zPost (zcM a cI cJ cC) 17 a D [(cI, .int), (cJ, .long), (cC, .char)]) (zF 17 a st.heap.size)) args st 0 0 (zF 17 a st.heap.size)) (F0 m 97 ls [])) (x2 : Int32) (x3 : Int32) (x4 : Int32) (x5 : Int32) (x6 : Int32) (x7 : Int32) (x9 : Int32) (t0 : Int32) (t1 : Int32) (s : ZS) (H : Heap) (locs : List Loc) (ls : Array Slot), fX7_was_144 k97 x2 x3 x4 x5 x6 x7 x9 t0 t1 s = some (r, τ) → va_P D vwCl (zW (zcM a cI cJ cC) 17 a s) H → va_S (zF 17 a st.heap.size) st.heap H locs → lv_has ls 10 [(0, .ref (a 0)), (2, .int x2), (3, .int x3), (4, .int x4), (5, .int x5), (6, .int x6), (7, .int x7), (9, .int x9)] → W p l e rmX7_was st m args below meth c H locs 0 0 (MQ below (va_Qi (fun (r' : Int32) (τ' : ZS) => r' = r ∧ τ' = τ) (zPost (zcM a cI cJ cC) 17 a D [(cI, .int), (cJ, .long), (cC, .char)]) (zF 17 a st.heap.size)) args st 0 0 (zF 17 a st.heap.size)) (F0 m 144 ls [.int t1, .int t0]) := by
    intro k97 hk97 x2 x3 x4 x5 x6 x7 x9 t0 t1 s H locs ls h hP hS hl
    refine lv_ior hx hb dX7_was_144 ?_
    refine lv_istore (lv' := [(8, .int (t0 ||| t1)), (0, .ref (a 0)), (2, .int x2), (3, .int x3), (4, .int x4), (5, .int x5), (6, .int x6), (7, .int x7), (9, .int x9)]) hx hb dX7_was_145 hl (by decide) rfl (fun ls hl => ?_)
    refine lv_iinc (v := (x9 + (1 : Int32))) (lv' := [(9, .int (x9 + (1 : Int32))), (8, .int (t0 ||| t1)), (0, .ref (a 0)), (2, .int x2), (3, .int x3), (4, .int x4), (5, .int x5), (6, .int x6), (7, .int x7)]) hx hb dX7_was_147 hl (k := 8) rfl rfl (by decide) rfl (fun ls hl => ?_)
    refine lv_goto (tgt := 97) hx hb dX7_was_150 (by decide) ?_
    exact hk97 (x2) (x3) (x4) (x5) (x6) (x7) ((t0 ||| t1)) ((x9 + (1 : Int32))) (s) _ _ _ h hP hS (lv_sub hl [2, 3, 4, 5, 6, 7, 8, 1, 0] rfl)
  have w111 : ∀ (k97 : Int32 → Int32 → Int32 → Int32 → Int32 → Int32 → Int32 → Int32 → ZS → Option (Int32 × ZS)) (hk97 : ∀ (x2 : Int32) (x3 : Int32) (x4 : Int32) (x5 : Int32) (x6 : Int32) (x7 : Int32) (x8 : Int32) (x9 : Int32) (s : ZS) (H : Heap) (locs : List Loc) (ls : Array Slot), k97 x2 x3 x4 x5 x6 x7 x8 x9 s = some (r, τ) → va_P D vwCl (zW (zcM a cI cJ cC) 17 a s) H → va_S (zF 17 a st.heap.size) st.heap H locs → lv_has ls 10 [(0, .ref (a 0)), (2, .int x2), (3, .int x3), (4, .int x4), (5, .int x5), (6, .int x6), (7, .int x7), (8, .int x8), (9, .int x9)] → W p l e rmX7_was st m args below meth c H locs 0 0 (MQ below (va_Qi (fun (r' : Int32) (τ' : ZS) => r' = r ∧ τ' = τ) (zPost (zcM a cI cJ cC) 17 a D [(cI, .int), (cJ, .long), (cC, .char)]) (zF 17 a st.heap.size)) args st 0 0 (zF 17 a st.heap.size)) (F0 m 97 ls [])) (x2 : Int32) (x3 : Int32) (x4 : Int32) (x5 : Int32) (x6 : Int32) (x7 : Int32) (x8 : Int32) (x9 : Int32) (t0 : Int32) (t1 : Int32) (s : ZS) (H : Heap) (locs : List Loc) (ls : Array Slot), fX7_was_111 k97 x2 x3 x4 x5 x6 x7 x8 x9 t0 t1 s = some (r, τ) → va_P D vwCl (zW (zcM a cI cJ cC) 17 a s) H → va_S (zF 17 a st.heap.size) st.heap H locs → lv_has ls 10 [(0, .ref (a 0)), (2, .int x2), (3, .int x3), (4, .int x4), (5, .int x5), (6, .int x6), (7, .int x7), (8, .int x8), (9, .int x9)] → W p l e rmX7_was st m args below meth c H locs 0 0 (MQ below (va_Qi (fun (r' : Int32) (τ' : ZS) => r' = r ∧ τ' = τ) (zPost (zcM a cI cJ cC) 17 a D [(cI, .int), (cJ, .long), (cC, .char)]) (zF 17 a st.heap.size)) args st 0 0 (zF 17 a st.heap.size)) (F0 m 111 ls [.int t1, .int t0]) := by
    intro k97 hk97 x2 x3 x4 x5 x6 x7 x8 x9 t0 t1 s H locs ls h hP hS hl
    refine lv_icmp_ge (tgt := 153) hx hb dX7_was_111 (by decide) (fun c1 => ?_) (fun c1 => ?_)
    · have h := zif_t h c1
      refine lv_aload_n hx hb dX7_was_153 rfl (lv_at hl 0 rfl) ?_
      refine z_get (C := RX7) (T := TX7) (N := 26) X inX7 hP 0 (by decide) (zcM_0 _ _ _ _ _ _) rfl 0 (by decide) rfl (by decide +kernel) rfl dX7_was_154 ?_
      refine lv_iload hx hb dX7_was_157 (lv_at hl 5 rfl) ?_
      refine lv_iload hx hb dX7_was_159 (lv_at hl 6 rfl) ?_
      obtain ⟨g2, h⟩ := zg_some h
      refine z_iast X hA hP hS 1 0 (by decide) (zcM_1 _ _ _ _) rfl g2 dX7_was_161 (fun H locs hP hS => ?_)
      refine lv_iload hx hb dX7_was_162 (lv_at hl 7 rfl) ?_
      exact z_iret X hP hS hr hlocks h dX7_was_164
    · have h := zif_f h c1
      refine lv_aload_n hx hb dX7_was_114 rfl (lv_at hl 0 rfl) ?_
      refine z_get (C := RX7) (T := TX7) (N := 26) X inX7 hP 0 (by decide) (zcM_0 _ _ _ _ _ _) rfl 0 (by decide) rfl (by decide +kernel) rfl dX7_was_115 ?_
      refine lv_iload hx hb dX7_was_118 (lv_at hl 5 rfl) ?_
      refine lv_iload hx hb dX7_was_120 (lv_at hl 8 rfl) ?_
      obtain ⟨g3, h⟩ := zg_some h
      refine z_iast X hA hP hS 1 0 (by decide) (zcM_1 _ _ _ _) rfl g3 dX7_was_122 (fun H locs hP hS => ?_)
      refine lv_iload hx hb dX7_was_123 (lv_at hl 7 rfl) ?_
      refine lv_aload_n hx hb dX7_was_125 rfl (lv_at hl 0 rfl) ?_
      refine lv_iload_n hx hb dX7_was_126 rfl (lv_at hl 1 rfl) ?_
      refine lv_iload_n hx hb dX7_was_127 rfl (lv_at hl 2 rfl) ?_
      refine lv_iload hx hb dX7_was_128 (lv_at hl 3 rfl) ?_
      obtain ⟨u4, s4, e4, h⟩ := zb_some h
      refine z_calli hS (z_runV (As := [.int x2, .int x3, .int x4]) (rest := [.int x8]) X hG hA hE hP hS 0 (kX7_isTold (l := l) (D := D) (a := a) (cI := cI) (cJ := cJ) (cC := cC) e4 _) (cwV 3 hts gX7_was_X7_isTold rfl rfl rfl (by decide +kernel) ⟨Nat.le_of_ble_eq_true rfl, Nat.le_of_ble_eq_true rfl⟩) (by decide) (zcM_0 _ _ _ _ _ _) rfl rfl rfl hl.1 rfl (Nat.le_of_ble_eq_true rfl) dX7_was_130) (fun H locs hP hS => ?_)
      refine lv_if_eq (tgt := 143) hx hb dX7_was_133 (by decide) (fun c5 => ?_) (fun c5 => ?_)
      · have h := zif_t h c5
        refine lv_iconst (v := 0) hx hb dX7_was_143 (by decide) ?_
        exact w144 k97 hk97  (x2) (x3) (x4) (x5) (x6) (x7) (x9) (x8) ((0 : Int32)) (s4) _ _ _ h hP hS (lv_sub hl [0, 1, 2, 3, 4, 5, 6, 8] rfl)
      · have h := zif_f h c5
        refine lv_iconst (v := 1) hx hb dX7_was_136 (by decide) ?_
        refine lv_iload hx hb dX7_was_137 (lv_at hl 8 rfl) ?_
        refine lv_ishl hx hb dX7_was_139 ?_
        refine lv_goto (tgt := 144) hx hb dX7_was_140 (by decide) ?_
        exact w144 k97 hk97  (x2) (x3) (x4) (x5) (x6) (x7) (x9) (x8) (((1 : Int32) <<< (x9 &&& 31))) (s4) _ _ _ h hP hS (lv_sub hl [0, 1, 2, 3, 4, 5, 6, 8] rfl)
  have w97 : ∀  (n : Nat) (x2 : Int32) (x3 : Int32) (x4 : Int32) (x5 : Int32) (x6 : Int32) (x7 : Int32) (x8 : Int32) (x9 : Int32) (s : ZS) (H : Heap) (locs : List Loc) (ls : Array Slot), fX7_was_97n  n (x2, x3, x4, x5, x6, x7, x8, x9, s) = some (r, τ) → va_P D vwCl (zW (zcM a cI cJ cC) 17 a s) H → va_S (zF 17 a st.heap.size) st.heap H locs → lv_has ls 10 [(0, .ref (a 0)), (2, .int x2), (3, .int x3), (4, .int x4), (5, .int x5), (6, .int x6), (7, .int x7), (8, .int x8), (9, .int x9)] → W p l e rmX7_was st m args below meth c H locs 0 0 (MQ below (va_Qi (fun (r' : Int32) (τ' : ZS) => r' = r ∧ τ' = τ) (zPost (zcM a cI cJ cC) 17 a D [(cI, .int), (cJ, .long), (cC, .char)]) (zF 17 a st.heap.size)) args st 0 0 (zF 17 a st.heap.size)) (F0 m 97 ls []) := by
    intro  n
    induction n with
    | zero => intro x2 x3 x4 x5 x6 x7 x8 x9 s H locs ls h; exact zloop_0 h
    | succ n ih =>
      intro x2 x3 x4 x5 x6 x7 x8 x9 s H locs ls h hP hS hl
      have h : fX7_was_97b  (fun x2 x3 x4 x5 x6 x7 x8 x9 s => fX7_was_97n  n (x2, x3, x4, x5, x6, x7, x8, x9, s)) x2 x3 x4 x5 x6 x7 x8 x9 s = some (r, τ) := h
      refine lv_iload hx hb dX7_was_97 (lv_at hl 8 rfl) ?_
      refine lv_iload hx hb dX7_was_99 (lv_at hl 4 rfl) ?_
      refine lv_if_ne (tgt := 109) hx hb dX7_was_101 (by decide) (fun c1 => ?_) (fun c1 => ?_)
      · have h := zif_f h c1
        refine lv_bipush (v := 10) hx hb dX7_was_109 (by decide) ?_
        exact w111 (fun x2 x3 x4 x5 x6 x7 x8 x9 s => fX7_was_97n  n (x2, x3, x4, x5, x6, x7, x8, x9, s)) (fun x2 x3 x4 x5 x6 x7 x8 x9 s H locs ls h hP hS hl => ih x2 x3 x4 x5 x6 x7 x8 x9 s H locs ls h hP hS hl)  (x2) (x3) (x4) (x5) (x6) (x7) (x8) (x9) (x9) ((10 : Int32)) (s) _ _ _ h hP hS (lv_sub hl [0, 1, 2, 3, 4, 5, 6, 7, 8] rfl)
      · have h := zif_t h c1
        refine lv_bipush (v := 6) hx hb dX7_was_104 (by decide) ?_
        refine lv_goto (tgt := 111) hx hb dX7_was_106 (by decide) ?_
        exact w111 (fun x2 x3 x4 x5 x6 x7 x8 x9 s => fX7_was_97n  n (x2, x3, x4, x5, x6, x7, x8, x9, s)) (fun x2 x3 x4 x5 x6 x7 x8 x9 s H locs ls h hP hS hl => ih x2 x3 x4 x5 x6 x7 x8 x9 s H locs ls h hP hS hl)  (x2) (x3) (x4) (x5) (x6) (x7) (x8) (x9) (x9) ((6 : Int32)) (s) _ _ _ h hP hS (lv_sub hl [0, 1, 2, 3, 4, 5, 6, 7, 8] rfl)
  have hl : lv_has ls 10 [(0, .ref (a 0)), (1, .int x1), (2, .int x2), (3, .int x3), (4, .int x4), (5, .int x5)] := hl
  refine lv_aload_n hx hb dX7_was_0 rfl (lv_at hl 0 rfl) ?_
  refine lv_iload_n hx hb dX7_was_1 rfl (lv_at hl 1 rfl) ?_
  obtain ⟨u1, s1, e1, h⟩ := zb_some h
  refine z_calli hS (z_runV (As := [.int x1]) (rest := []) X hG hA hE hP hS 0 (kX7_isSheet (l := l) (D := D) (a := a) (cI := cI) (cJ := cJ) (cC := cC) e1 _) (cwV 1 hts gX7_was_X7_isSheet rfl rfl rfl (by decide +kernel) ⟨Nat.le_of_ble_eq_true rfl, Nat.le_of_ble_eq_true rfl⟩) (by decide) (zcM_0 _ _ _ _ _ _) rfl rfl rfl hl.1 rfl (Nat.le_of_ble_eq_true rfl) dX7_was_2) (fun H locs hP hS => ?_)
  refine lv_if_eq (tgt := 42) hx hb dX7_was_5 (by decide) (fun c2 => ?_) (fun c2 => ?_)
  · have h := zif_t h c2
    refine lv_iconst (v := -1) hx hb dX7_was_42 (by decide) ?_
    exact z_iret X hP hS hr hlocks h dX7_was_43
  · have h := zif_f h c2
    refine lv_aload_n hx hb dX7_was_8 rfl (lv_at hl 0 rfl) ?_
    refine lv_iload_n hx hb dX7_was_9 rfl (lv_at hl 2 rfl) ?_
    obtain ⟨u3, s3, e3, h⟩ := zb_some h
    refine z_calli hS (z_runV (As := [.int x2]) (rest := []) X hG hA hE hP hS 0 (kX7_isStack (l := l) (D := D) (a := a) (cI := cI) (cJ := cJ) (cC := cC) e3 _) (cwV 1 hts gX7_was_X7_isStack rfl rfl rfl (by decide +kernel) ⟨Nat.le_of_ble_eq_true rfl, Nat.le_of_ble_eq_true rfl⟩) (by decide) (zcM_0 _ _ _ _ _ _) rfl rfl rfl hl.1 rfl (Nat.le_of_ble_eq_true rfl) dX7_was_10) (fun H locs hP hS => ?_)
    refine lv_if_eq (tgt := 42) hx hb dX7_was_13 (by decide) (fun c4 => ?_) (fun c4 => ?_)
    · have h := zif_t h c4
      refine lv_iconst (v := -1) hx hb dX7_was_42 (by decide) ?_
      exact z_iret X hP hS hr hlocks h dX7_was_43
    · have h := zif_f h c4
      refine lv_iload_n hx hb dX7_was_16 rfl (lv_at hl 3 rfl) ?_
      obtain ⟨u5, s5, e5, h⟩ := zb_some h
      refine z_calli hS (z_runS (As := [.int x3]) (rest := []) X hG hA hE hP hS (kX7_isLamp (l := l) (D := D) (a := a) (cI := cI) (cJ := cJ) (cC := cC) e5 _) (va_cwS 1 hts gX7_was_X7_isLamp rfl rfl rfl (by decide +kernel) ⟨Nat.le_of_ble_eq_true rfl, Nat.le_of_ble_eq_true rfl⟩) rfl hl.1 rfl (Nat.le_of_ble_eq_true rfl) dX7_was_17) (fun H locs hP hS => ?_)
      refine lv_if_eq (tgt := 42) hx hb dX7_was_20 (by decide) (fun c6 => ?_) (fun c6 => ?_)
      · have h := zif_t h c6
        refine lv_iconst (v := -1) hx hb dX7_was_42 (by decide) ?_
        exact z_iret X hP hS hr hlocks h dX7_was_43
      · have h := zif_f h c6
        refine lv_iload hx hb dX7_was_23 (lv_at hl 4 rfl) ?_
        obtain ⟨u7, s7, e7, h⟩ := zb_some h
        refine z_calli hS (z_runS (As := [.int x4]) (rest := []) X hG hA hE hP hS (kX7_isList (l := l) (D := D) (a := a) (cI := cI) (cJ := cJ) (cC := cC) e7 _) (va_cwS 1 hts gX7_was_X7_isList rfl rfl rfl (by decide +kernel) ⟨Nat.le_of_ble_eq_true rfl, Nat.le_of_ble_eq_true rfl⟩) rfl hl.1 rfl (Nat.le_of_ble_eq_true rfl) dX7_was_25) (fun H locs hP hS => ?_)
        refine lv_if_eq (tgt := 42) hx hb dX7_was_28 (by decide) (fun c8 => ?_) (fun c8 => ?_)
        · have h := zif_t h c8
          refine lv_iconst (v := -1) hx hb dX7_was_42 (by decide) ?_
          exact z_iret X hP hS hr hlocks h dX7_was_43
        · have h := zif_f h c8
          refine lv_iload hx hb dX7_was_31 (lv_at hl 5 rfl) ?_
          refine lv_i2l hx hb dX7_was_33 rfl ?_
          refine lv_lconst (v := 0) hx hb dX7_was_34 (by decide) ?_
          refine lv_lconst (v := 1) hx hb dX7_was_35 (by decide) ?_
          obtain ⟨u9, s9, e9, h⟩ := zb_some h
          refine z_calli hS (z_runS (As := [.long (x5).toInt64, .long (0 : Int64), .long (1 : Int64)]) (rest := []) X hG hA hE hP hS (kX7_isIn (l := l) (D := D) (a := a) (cI := cI) (cJ := cJ) (cC := cC) e9 _) (va_cwS 3 hts gX7_was_X7_isIn rfl rfl rfl (by decide +kernel) ⟨Nat.le_of_ble_eq_true rfl, Nat.le_of_ble_eq_true rfl⟩) rfl hl.1 rfl (Nat.le_of_ble_eq_true rfl) dX7_was_36) (fun H locs hP hS => ?_)
          refine lv_if_ne (tgt := 44) hx hb dX7_was_39 (by decide) (fun c10 => ?_) (fun c10 => ?_)
          · have h := zif_f h c10
            refine lv_aload_n hx hb dX7_was_44 rfl (lv_at hl 0 rfl) ?_
            refine z_get (C := RX7) (T := TX7) (N := 26) X inX7 hP 0 (by decide) (zcM_0 _ _ _ _ _ _) rfl 25 (by decide) rfl (by decide +kernel) rfl dX7_was_45 ?_
            refine lv_iload hx hb dX7_was_48 (lv_at hl 4 rfl) ?_
            obtain ⟨g11, h⟩ := zg_some h
            refine z_iald X hP 16 0 (by decide) (zcM_16 _ _ _ _ _ _) rfl g11 dX7_was_50 ?_
            refine lv_if_ge (tgt := 57) hx hb dX7_was_51 (by decide) (fun c12 => ?_) (fun c12 => ?_)
            · have h := zif_t h c12
              refine lv_aload_n hx hb dX7_was_57 rfl (lv_at hl 0 rfl) ?_
              refine z_get (C := RX7) (T := TX7) (N := 26) X inX7 hP 0 (by decide) (zcM_0 _ _ _ _ _ _) rfl 25 (by decide) rfl (by decide +kernel) rfl dX7_was_58 ?_
              refine lv_iload hx hb dX7_was_61 (lv_at hl 4 rfl) ?_
              obtain ⟨g13, h⟩ := zg_some h
              refine z_iald X hP 16 0 (by decide) (zcM_16 _ _ _ _ _ _) rfl g13 dX7_was_63 ?_
              refine lv_iconst (v := 3) hx hb dX7_was_64 (by decide) ?_
              refine lv_icmp_ge (tgt := 71) hx hb dX7_was_65 (by decide) (fun c14 => ?_) (fun c14 => ?_)
              · have h := zif_t h c14
                refine lv_iconst (v := 2) hx hb dX7_was_71 (by decide) ?_
                refine lv_bipush (v := 7) hx hb dX7_was_72 (by decide) ?_
                refine lv_iload_n hx hb dX7_was_74 rfl (lv_at hl 1 rfl) ?_
                refine lv_imul hx hb dX7_was_75 ?_
                refine lv_iadd hx hb dX7_was_76 ?_
                refine lv_iload hx hb dX7_was_77 (lv_at hl 5 rfl) ?_
                refine lv_iadd hx hb dX7_was_79 ?_
                refine lv_istore (lv' := [(6, .int (((2 : Int32) + ((7 : Int32) * x1)) + x5)), (0, .ref (a 0)), (1, .int x1), (2, .int x2), (3, .int x3), (4, .int x4), (5, .int x5)]) hx hb dX7_was_80 hl (by decide) rfl (fun ls hl => ?_)
                refine lv_aload_n hx hb dX7_was_82 rfl (lv_at hl 1 rfl) ?_
                refine z_get (C := RX7) (T := TX7) (N := 26) X inX7 hP 0 (by decide) (zcM_0 _ _ _ _ _ _) rfl 0 (by decide) rfl (by decide +kernel) rfl dX7_was_83 ?_
                refine lv_iload hx hb dX7_was_86 (lv_at hl 0 rfl) ?_
                obtain ⟨g15, h⟩ := zg_some h
                refine z_iald X hP 1 0 (by decide) (zcM_1 _ _ _ _ _ _) rfl g15 dX7_was_88 ?_
                refine lv_istore (lv' := [(7, .int ((s9).1 1 ((((2 : Int32) + ((7 : Int32) * x1)) + x5)).toNatClampNeg)), (6, .int (((2 : Int32) + ((7 : Int32) * x1)) + x5)), (0, .ref (a 0)), (1, .int x1), (2, .int x2), (3, .int x3), (4, .int x4), (5, .int x5)]) hx hb dX7_was_89 hl (by decide) rfl (fun ls hl => ?_)
                refine lv_iconst (v := 0) hx hb dX7_was_91 (by decide) ?_
                refine lv_istore (lv' := [(8, .int (0 : Int32)), (7, .int ((s9).1 1 ((((2 : Int32) + ((7 : Int32) * x1)) + x5)).toNatClampNeg)), (6, .int (((2 : Int32) + ((7 : Int32) * x1)) + x5)), (0, .ref (a 0)), (1, .int x1), (2, .int x2), (3, .int x3), (4, .int x4), (5, .int x5)]) hx hb dX7_was_92 hl (by decide) rfl (fun ls hl => ?_)
                refine lv_iconst (v := 0) hx hb dX7_was_94 (by decide) ?_
                refine lv_istore (lv' := [(9, .int (0 : Int32)), (8, .int (0 : Int32)), (7, .int ((s9).1 1 ((((2 : Int32) + ((7 : Int32) * x1)) + x5)).toNatClampNeg)), (6, .int (((2 : Int32) + ((7 : Int32) * x1)) + x5)), (0, .ref (a 0)), (1, .int x1), (2, .int x2), (3, .int x3), (4, .int x4), (5, .int x5)]) hx hb dX7_was_95 hl (by decide) rfl (fun ls hl => ?_)
                exact w97  zN (x2) (x3) (x4) (x5) ((((2 : Int32) + ((7 : Int32) * x1)) + x5)) (((s9).1 1 ((((2 : Int32) + ((7 : Int32) * x1)) + x5)).toNatClampNeg)) ((0 : Int32)) ((0 : Int32)) (s9) _ _ _ h hP hS (lv_sub hl [4, 6, 7, 8, 9, 3, 2, 1, 0] rfl)
              · have h := zif_f h c14
                refine lv_bipush (v := -13) hx hb dX7_was_68 (by decide) ?_
                exact z_iret X hP hS hr hlocks h dX7_was_70
            · have h := zif_f h c12
              refine lv_bipush (v := -11) hx hb dX7_was_54 (by decide) ?_
              exact z_iret X hP hS hr hlocks h dX7_was_56
          · have h := zif_t h c10
            refine lv_iconst (v := -1) hx hb dX7_was_42 (by decide) ?_
            exact z_iret X hP hS hr hlocks h dX7_was_43
abbrev rmX7_odds : Room := { frames := 4, cells := 0, slots := 0, locals := 90 }
set_option maxHeartbeats 4000000 in
set_option maxRecDepth 100000 in
theorem kX7_odds {l : Launch} {D : va_G} {a : Nat → Nat} {cI cJ cC : ClassId} {x1 : Int32} {x2 : Int32} {x3 : Int32} {x4 : Int32} {x5 : Int32} {x6 : Int32} {x7 : Int32} {s τ : ZS} {r : Int64} (h : fX7_odds x1 x2 x3 x4 x5 x6 x7 s = some (r, τ)) : zMl (zcM a cI cJ cC) 17 a D [(cI, .int), (cJ, .long), (cC, .char)] zEM l yX7_odds wsX7_odds rmX7_odds [.ref (a 0), .int x1, .int x2, .int x3, .int x4, .int x5, .int x6, .int x7] s r τ := by
  refine z_start (cc := cX7_odds) (maxL := 12) (ret := (some .long)) RX7 rfl (by decide) rfl (Nat.le_of_ble_eq_true rfl) ?_
  intro p e st m args below meth c ls H locs X hr hlocks hA hE hP hS hl
  obtain ⟨hx, hb, hml, hown, hts, -⟩ := id X
  have hG := zEM_good
  have inX7 : ∀ w ∈ u_ws RX7 TX7 26, w ∈ wsX7_odds := by decide +kernel
  have w157 : ∀ (k75 : Int32 → Int32 → Int32 → Int32 → Int32 → Int32 → Int32 → Int32 → Int32 → ZS → Option (Int64 × ZS)) (hk75 : ∀ (x1 : Int32) (x2 : Int32) (x3 : Int32) (x4 : Int32) (x5 : Int32) (x6 : Int32) (x7 : Int32) (x8 : Int32) (x9 : Int32) (s : ZS) (H : Heap) (locs : List Loc) (ls : Array Slot), k75 x1 x2 x3 x4 x5 x6 x7 x8 x9 s = some (r, τ) → va_P D vwCl (zW (zcM a cI cJ cC) 17 a s) H → va_S (zF 17 a st.heap.size) st.heap H locs → lv_has ls 12 [(0, .ref (a 0)), (1, .int x1), (2, .int x2), (3, .int x3), (4, .int x4), (5, .int x5), (6, .int x6), (7, .int x7), (8, .int x8), (9, .int x9)] → W p l e rmX7_odds st m args below meth c H locs 0 0 (MQ below (va_Ql (fun (r' : Int64) (τ' : ZS) => r' = r ∧ τ' = τ) (zPost (zcM a cI cJ cC) 17 a D [(cI, .int), (cJ, .long), (cC, .char)]) (zF 17 a st.heap.size)) args st 0 0 (zF 17 a st.heap.size)) (F0 m 75 ls [])) (x1 : Int32) (x2 : Int32) (x3 : Int32) (x4 : Int32) (x5 : Int32) (x6 : Int32) (x7 : Int32) (x9 : Int32) (t0 : Int32) (t1 : Int32) (s : ZS) (H : Heap) (locs : List Loc) (ls : Array Slot), fX7_odds_157 k75 x1 x2 x3 x4 x5 x6 x7 x9 t0 t1 s = some (r, τ) → va_P D vwCl (zW (zcM a cI cJ cC) 17 a s) H → va_S (zF 17 a st.heap.size) st.heap H locs → lv_has ls 12 [(0, .ref (a 0)), (1, .int x1), (2, .int x2), (3, .int x3), (4, .int x4), (5, .int x5), (6, .int x6), (7, .int x7), (9, .int x9)] → W p l e rmX7_odds st m args below meth c H locs 0 0 (MQ below (va_Ql (fun (r' : Int64) (τ' : ZS) => r' = r ∧ τ' = τ) (zPost (zcM a cI cJ cC) 17 a D [(cI, .int), (cJ, .long), (cC, .char)]) (zF 17 a st.heap.size)) args st 0 0 (zF 17 a st.heap.size)) (F0 m 157 ls [.int t1, .int t0]) := by
    intro k75 hk75 x1 x2 x3 x4 x5 x6 x7 x9 t0 t1 s H locs ls h hP hS hl
    refine lv_iadd hx hb dX7_odds_157 ?_
    refine lv_istore (lv' := [(8, .int (t0 + t1)), (0, .ref (a 0)), (1, .int x1), (2, .int x2), (3, .int x3), (4, .int x4), (5, .int x5), (6, .int x6), (7, .int x7), (9, .int x9)]) hx hb dX7_odds_158 hl (by decide) rfl (fun ls hl => ?_)
    refine lv_iinc (v := (x9 + (1 : Int32))) (lv' := [(9, .int (x9 + (1 : Int32))), (8, .int (t0 + t1)), (0, .ref (a 0)), (1, .int x1), (2, .int x2), (3, .int x3), (4, .int x4), (5, .int x5), (6, .int x6), (7, .int x7)]) hx hb dX7_odds_160 hl (k := 9) rfl rfl (by decide) rfl (fun ls hl => ?_)
    refine lv_goto (tgt := 75) hx hb dX7_odds_163 (by decide) ?_
    exact hk75 (x1) (x2) (x3) (x4) (x5) (x6) (x7) ((t0 + t1)) ((x9 + (1 : Int32))) (s) _ _ _ h hP hS (lv_sub hl [2, 3, 4, 5, 6, 7, 8, 9, 1, 0] rfl)
  have w94 : ∀ (k75 : Int32 → Int32 → Int32 → Int32 → Int32 → Int32 → Int32 → Int32 → Int32 → ZS → Option (Int64 × ZS)) (hk75 : ∀ (x1 : Int32) (x2 : Int32) (x3 : Int32) (x4 : Int32) (x5 : Int32) (x6 : Int32) (x7 : Int32) (x8 : Int32) (x9 : Int32) (s : ZS) (H : Heap) (locs : List Loc) (ls : Array Slot), k75 x1 x2 x3 x4 x5 x6 x7 x8 x9 s = some (r, τ) → va_P D vwCl (zW (zcM a cI cJ cC) 17 a s) H → va_S (zF 17 a st.heap.size) st.heap H locs → lv_has ls 12 [(0, .ref (a 0)), (1, .int x1), (2, .int x2), (3, .int x3), (4, .int x4), (5, .int x5), (6, .int x6), (7, .int x7), (8, .int x8), (9, .int x9)] → W p l e rmX7_odds st m args below meth c H locs 0 0 (MQ below (va_Ql (fun (r' : Int64) (τ' : ZS) => r' = r ∧ τ' = τ) (zPost (zcM a cI cJ cC) 17 a D [(cI, .int), (cJ, .long), (cC, .char)]) (zF 17 a st.heap.size)) args st 0 0 (zF 17 a st.heap.size)) (F0 m 75 ls [])) (n : Nat) (x1 : Int32) (x2 : Int32) (x3 : Int32) (x4 : Int32) (x5 : Int32) (x6 : Int32) (x7 : Int32) (x8 : Int32) (x9 : Int32) (x10 : Int32) (x11 : Int32) (s : ZS) (H : Heap) (locs : List Loc) (ls : Array Slot), fX7_odds_94n k75 n (x1, x2, x3, x4, x5, x6, x7, x8, x9, x10, x11, s) = some (r, τ) → va_P D vwCl (zW (zcM a cI cJ cC) 17 a s) H → va_S (zF 17 a st.heap.size) st.heap H locs → lv_has ls 12 [(0, .ref (a 0)), (1, .int x1), (2, .int x2), (3, .int x3), (4, .int x4), (5, .int x5), (6, .int x6), (7, .int x7), (8, .int x8), (9, .int x9), (10, .int x10), (11, .int x11)] → W p l e rmX7_odds st m args below meth c H locs 0 0 (MQ below (va_Ql (fun (r' : Int64) (τ' : ZS) => r' = r ∧ τ' = τ) (zPost (zcM a cI cJ cC) 17 a D [(cI, .int), (cJ, .long), (cC, .char)]) (zF 17 a st.heap.size)) args st 0 0 (zF 17 a st.heap.size)) (F0 m 94 ls []) := by
    intro k75 hk75 n
    induction n with
    | zero => intro x1 x2 x3 x4 x5 x6 x7 x8 x9 x10 x11 s H locs ls h; exact zloop_0 h
    | succ n ih =>
      intro x1 x2 x3 x4 x5 x6 x7 x8 x9 x10 x11 s H locs ls h hP hS hl
      have h : fX7_odds_94b k75 (fun x1 x2 x3 x4 x5 x6 x7 x8 x9 x10 x11 s => fX7_odds_94n k75 n (x1, x2, x3, x4, x5, x6, x7, x8, x9, x10, x11, s)) x1 x2 x3 x4 x5 x6 x7 x8 x9 x10 x11 s = some (r, τ) := h
      refine lv_iload hx hb dX7_odds_94 (lv_at hl 11 rfl) ?_
      refine lv_iload_n hx hb dX7_odds_96 rfl (lv_at hl 1 rfl) ?_
      refine lv_icmp_ge (tgt := 136) hx hb dX7_odds_97 (by decide) (fun c1 => ?_) (fun c1 => ?_)
      · have h := zif_t h c1
        refine lv_iload hx hb dX7_odds_136 (lv_at hl 8 rfl) ?_
        refine lv_aload_n hx hb dX7_odds_138 rfl (lv_at hl 0 rfl) ?_
        refine lv_iload hx hb dX7_odds_139 (lv_at hl 4 rfl) ?_
        refine lv_iconst (v := 0) hx hb dX7_odds_141 (by decide) ?_
        refine lv_iload hx hb dX7_odds_142 (lv_at hl 5 rfl) ?_
        obtain ⟨u2, s2, e2, h⟩ := zb_some h
        refine z_calli hS (z_runV (As := [.int x4, .int (0 : Int32), .int x5]) (rest := [.int x8]) X hG hA hE hP hS 0 (kX7_shadeOf (l := l) (D := D) (a := a) (cI := cI) (cJ := cJ) (cC := cC) e2 _) (cwV 3 hts gX7_odds_X7_shadeOf rfl rfl rfl (by decide +kernel) ⟨Nat.le_of_ble_eq_true rfl, Nat.le_of_ble_eq_true rfl⟩) (by decide) (zcM_0 _ _ _ _ _ _) rfl rfl rfl hl.1 rfl (Nat.le_of_ble_eq_true rfl) dX7_odds_144) (fun H locs hP hS => ?_)
        refine lv_iload hx hb dX7_odds_147 (lv_at hl 6 rfl) ?_
        refine lv_icmp_lt (tgt := 156) hx hb dX7_odds_149 (by decide) (fun c3 => ?_) (fun c3 => ?_)
        · have h := zif_t h c3
          refine lv_iconst (v := 0) hx hb dX7_odds_156 (by decide) ?_
          exact w157 k75 hk75  (x1) (x2) (x3) (x4) (x5) (x6) (x7) (x9) (x8) ((0 : Int32)) (s2) _ _ _ h hP hS (lv_sub hl [0, 1, 2, 3, 4, 5, 6, 7, 9] rfl)
        · have h := zif_f h c3
          refine lv_iconst (v := 1) hx hb dX7_odds_152 (by decide) ?_
          refine lv_goto (tgt := 157) hx hb dX7_odds_153 (by decide) ?_
          exact w157 k75 hk75  (x1) (x2) (x3) (x4) (x5) (x6) (x7) (x9) (x8) ((1 : Int32)) (s2) _ _ _ h hP hS (lv_sub hl [0, 1, 2, 3, 4, 5, 6, 7, 9] rfl)
      · have h := zif_f h c1
        refine lv_iload hx hb dX7_odds_100 (lv_at hl 10 rfl) ?_
        refine lv_ldc (own := RX7) (index := 251) (v := 1103515245) hx hb hown (hts _ (by decide +kernel)) dX7_odds_102 ?_
        refine lv_imul hx hb dX7_odds_104 ?_
        refine lv_sipush (v := 12345) hx hb dX7_odds_105 (by decide) ?_
        refine lv_iadd hx hb dX7_odds_108 ?_
        refine lv_istore (lv' := [(10, .int ((x10 * (1103515245 : Int32)) + (12345 : Int32))), (0, .ref (a 0)), (1, .int x1), (2, .int x2), (3, .int x3), (4, .int x4), (5, .int x5), (6, .int x6), (7, .int x7), (8, .int x8), (9, .int x9), (11, .int x11)]) hx hb dX7_odds_109 hl (by decide) rfl (fun ls hl => ?_)
        refine lv_aload_n hx hb dX7_odds_111 rfl (lv_at hl 1 rfl) ?_
        refine lv_iload hx hb dX7_odds_112 (lv_at hl 0 rfl) ?_
        refine lv_ldc (own := RX7) (index := 252) (v := 2147483647) hx hb hown (hts _ (by decide +kernel)) dX7_odds_114 ?_
        refine lv_iand hx hb dX7_odds_116 ?_
        refine lv_ldc (own := RX7) (index := 253) (v := 65536) hx hb hown (hts _ (by decide +kernel)) dX7_odds_117 ?_
        obtain ⟨g4, h⟩ := zg_some h
        refine lv_idiv hx hb dX7_odds_119 (zne_ne g4) ?_
        refine lv_aload_n hx hb dX7_odds_120 rfl (lv_at hl 1 rfl) ?_
        refine z_get (C := RX7) (T := TX7) (N := 26) X inX7 hP 0 (by decide) (zcM_0 _ _ _ _ _ _) rfl 0 (by decide) rfl (by decide +kernel) rfl dX7_odds_121 ?_
        refine lv_iconst (v := 0) hx hb dX7_odds_124 (by decide) ?_
        obtain ⟨g5, h⟩ := zg_some h
        refine z_iald X hP 1 0 (by decide) (zcM_1 _ _ _ _ _ _) rfl g5 dX7_odds_125 ?_
        obtain ⟨g6, h⟩ := zg_some h
        refine lv_irem hx hb dX7_odds_126 (zne_ne g6) ?_
        obtain ⟨u7, s7, e7, h⟩ := zb_some h
        refine z_callv hS (z_runV (As := [.int (((((x10 * (1103515245 : Int32)) + (12345 : Int32)) &&& (2147483647 : Int32)) / (65536 : Int32)) - ((((x10 * (1103515245 : Int32)) + (12345 : Int32)) &&& (2147483647 : Int32)) / (65536 : Int32)) / ((s).1 1 ((0 : Int32)).toNatClampNeg) * ((s).1 1 ((0 : Int32)).toNatClampNeg))]) (rest := []) X hG hA hE hP hS 0 (kX7_lays (l := l) (D := D) (a := a) (cI := cI) (cJ := cJ) (cC := cC) e7 _) (cwV 1 hts gX7_odds_X7_lays rfl rfl rfl (by decide +kernel) ⟨Nat.le_of_ble_eq_true rfl, Nat.le_of_ble_eq_true rfl⟩) (by decide) (zcM_0 _ _ _ _ _ _) rfl rfl rfl hl.1 rfl (Nat.le_of_ble_eq_true rfl) dX7_odds_127) (fun H locs hP hS => ?_)
        refine lv_iinc (v := (x11 + (1 : Int32))) (lv' := [(11, .int (x11 + (1 : Int32))), (10, .int ((x10 * (1103515245 : Int32)) + (12345 : Int32))), (0, .ref (a 0)), (1, .int x1), (2, .int x2), (3, .int x3), (4, .int x4), (5, .int x5), (6, .int x6), (7, .int x7), (8, .int x8), (9, .int x9)]) hx hb dX7_odds_130 hl (k := 11) rfl rfl (by decide) rfl (fun ls hl => ?_)
        refine lv_goto (tgt := 94) hx hb dX7_odds_133 (by decide) ?_
        exact ih (x1) (x2) (x3) (x4) (x5) (x6) (x7) (x8) (x9) (((x10 * (1103515245 : Int32)) + (12345 : Int32))) ((x11 + (1 : Int32))) (s7) _ _ _ h hP hS (lv_sub hl [2, 3, 4, 5, 6, 7, 8, 9, 10, 11, 1, 0] rfl)
  have w75 : ∀  (n : Nat) (x1 : Int32) (x2 : Int32) (x3 : Int32) (x4 : Int32) (x5 : Int32) (x6 : Int32) (x7 : Int32) (x8 : Int32) (x9 : Int32) (s : ZS) (H : Heap) (locs : List Loc) (ls : Array Slot), fX7_odds_75n  n (x1, x2, x3, x4, x5, x6, x7, x8, x9, s) = some (r, τ) → va_P D vwCl (zW (zcM a cI cJ cC) 17 a s) H → va_S (zF 17 a st.heap.size) st.heap H locs → lv_has ls 12 [(0, .ref (a 0)), (1, .int x1), (2, .int x2), (3, .int x3), (4, .int x4), (5, .int x5), (6, .int x6), (7, .int x7), (8, .int x8), (9, .int x9)] → W p l e rmX7_odds st m args below meth c H locs 0 0 (MQ below (va_Ql (fun (r' : Int64) (τ' : ZS) => r' = r ∧ τ' = τ) (zPost (zcM a cI cJ cC) 17 a D [(cI, .int), (cJ, .long), (cC, .char)]) (zF 17 a st.heap.size)) args st 0 0 (zF 17 a st.heap.size)) (F0 m 75 ls []) := by
    intro  n
    induction n with
    | zero => intro x1 x2 x3 x4 x5 x6 x7 x8 x9 s H locs ls h; exact zloop_0 h
    | succ n ih =>
      intro x1 x2 x3 x4 x5 x6 x7 x8 x9 s H locs ls h hP hS hl
      have h : fX7_odds_75b  (fun x1 x2 x3 x4 x5 x6 x7 x8 x9 s => fX7_odds_75n  n (x1, x2, x3, x4, x5, x6, x7, x8, x9, s)) x1 x2 x3 x4 x5 x6 x7 x8 x9 s = some (r, τ) := h
      refine lv_iload hx hb dX7_odds_75 (lv_at hl 9 rfl) ?_
      refine lv_iload_n hx hb dX7_odds_77 rfl (lv_at hl 3 rfl) ?_
      refine lv_icmp_ge (tgt := 166) hx hb dX7_odds_78 (by decide) (fun c1 => ?_) (fun c1 => ?_)
      · have h := zif_t h c1
        refine lv_iload hx hb dX7_odds_166 (lv_at hl 8 rfl) ?_
        refine lv_i2l hx hb dX7_odds_168 rfl ?_
        refine lv_iload_n hx hb dX7_odds_169 rfl (lv_at hl 3 rfl) ?_
        refine lv_i2l hx hb dX7_odds_170 rfl ?_
        refine lv_iload hx hb dX7_odds_171 (lv_at hl 7 rfl) ?_
        obtain ⟨u2, s2, e2, h⟩ := zb_some h
        refine z_calll hS (z_runS (As := [.long (x8).toInt64, .long (x3).toInt64, .int x7]) (rest := []) X hG hA hE hP hS (kX7_partOf (l := l) (D := D) (a := a) (cI := cI) (cJ := cJ) (cC := cC) e2 _) (va_cwS 3 hts gX7_odds_X7_partOf rfl rfl rfl (by decide +kernel) ⟨Nat.le_of_ble_eq_true rfl, Nat.le_of_ble_eq_true rfl⟩) rfl hl.1 rfl (Nat.le_of_ble_eq_true rfl) dX7_odds_173) (fun H locs hP hS => ?_)
        exact z_lret X hP hS hr hlocks h dX7_odds_176
      · have h := zif_f h c1
        refine lv_iload_n hx hb dX7_odds_81 rfl (lv_at hl 2 rfl) ?_
        refine lv_iload hx hb dX7_odds_82 (lv_at hl 9 rfl) ?_
        refine lv_iadd hx hb dX7_odds_84 ?_
        refine lv_istore (lv' := [(10, .int (x2 + x9)), (0, .ref (a 0)), (1, .int x1), (2, .int x2), (3, .int x3), (4, .int x4), (5, .int x5), (6, .int x6), (7, .int x7), (8, .int x8), (9, .int x9)]) hx hb dX7_odds_85 hl (by decide) rfl (fun ls hl => ?_)
        refine lv_aload_n hx hb dX7_odds_87 rfl (lv_at hl 1 rfl) ?_
        obtain ⟨u3, s3, e3, h⟩ := zb_some h
        refine z_callv hS (z_runV (As := []) (rest := []) X hG hA hE hP hS 0 (kX7_begins (l := l) (D := D) (a := a) (cI := cI) (cJ := cJ) (cC := cC) e3 _) (cwV 0 hts gX7_odds_X7_begins rfl rfl rfl (by decide +kernel) ⟨Nat.le_of_ble_eq_true rfl, Nat.le_of_ble_eq_true rfl⟩) (by decide) (zcM_0 _ _ _ _ _ _) rfl rfl rfl hl.1 rfl (Nat.le_of_ble_eq_true rfl) dX7_odds_88) (fun H locs hP hS => ?_)
        refine lv_iconst (v := 0) hx hb dX7_odds_91 (by decide) ?_
        refine lv_istore (lv' := [(11, .int (0 : Int32)), (10, .int (x2 + x9)), (0, .ref (a 0)), (1, .int x1), (2, .int x2), (3, .int x3), (4, .int x4), (5, .int x5), (6, .int x6), (7, .int x7), (8, .int x8), (9, .int x9)]) hx hb dX7_odds_92 hl (by decide) rfl (fun ls hl => ?_)
        exact w94 (fun x1 x2 x3 x4 x5 x6 x7 x8 x9 s => fX7_odds_75n  n (x1, x2, x3, x4, x5, x6, x7, x8, x9, s)) (fun x1 x2 x3 x4 x5 x6 x7 x8 x9 s H locs ls h hP hS hl => ih x1 x2 x3 x4 x5 x6 x7 x8 x9 s H locs ls h hP hS hl) zN (x1) (x2) (x3) (x4) (x5) (x6) (x7) (x8) (x9) ((x2 + x9)) ((0 : Int32)) (s3) _ _ _ h hP hS (lv_sub hl [2, 3, 4, 5, 6, 7, 8, 9, 10, 11, 1, 0] rfl)
  have hl : lv_has ls 12 [(0, .ref (a 0)), (1, .int x1), (2, .int x2), (3, .int x3), (4, .int x4), (5, .int x5), (6, .int x6), (7, .int x7)] := hl
  refine lv_iload_n hx hb dX7_odds_0 rfl (lv_at hl 1 rfl) ?_
  refine lv_i2l hx hb dX7_odds_1 rfl ?_
  refine lv_lconst (v := 0) hx hb dX7_odds_2 (by decide) ?_
  refine lv_ldc2 (own := RX7) (index := 68) (v := 4) hx hb hown (hts _ (by decide +kernel)) dX7_odds_3 ?_
  obtain ⟨u1, s1, e1, h⟩ := zb_some h
  refine z_calli hS (z_runS (As := [.long (x1).toInt64, .long (0 : Int64), .long (4 : Int64)]) (rest := []) X hG hA hE hP hS (kX7_isIn (l := l) (D := D) (a := a) (cI := cI) (cJ := cJ) (cC := cC) e1 _) (va_cwS 3 hts gX7_odds_X7_isIn rfl rfl rfl (by decide +kernel) ⟨Nat.le_of_ble_eq_true rfl, Nat.le_of_ble_eq_true rfl⟩) rfl hl.1 rfl (Nat.le_of_ble_eq_true rfl) dX7_odds_6) (fun H locs hP hS => ?_)
  refine lv_if_eq (tgt := 65) hx hb dX7_odds_9 (by decide) (fun c2 => ?_) (fun c2 => ?_)
  · have h := zif_t h c2
    refine lv_ldc2 (own := RX7) (index := 181) (v := -9223372036854775808) hx hb hown (hts _ (by decide +kernel)) dX7_odds_65 ?_
    exact z_lret X hP hS hr hlocks h dX7_odds_68
  · have h := zif_f h c2
    refine lv_iload_n hx hb dX7_odds_12 rfl (lv_at hl 3 rfl) ?_
    refine lv_i2l hx hb dX7_odds_13 rfl ?_
    refine lv_lconst (v := 1) hx hb dX7_odds_14 (by decide) ?_
    refine lv_ldc2 (own := RX7) (index := 165) (v := 20) hx hb hown (hts _ (by decide +kernel)) dX7_odds_15 ?_
    obtain ⟨u3, s3, e3, h⟩ := zb_some h
    refine z_calli hS (z_runS (As := [.long (x3).toInt64, .long (1 : Int64), .long (20 : Int64)]) (rest := []) X hG hA hE hP hS (kX7_isIn (l := l) (D := D) (a := a) (cI := cI) (cJ := cJ) (cC := cC) e3 _) (va_cwS 3 hts gX7_odds_X7_isIn rfl rfl rfl (by decide +kernel) ⟨Nat.le_of_ble_eq_true rfl, Nat.le_of_ble_eq_true rfl⟩) rfl hl.1 rfl (Nat.le_of_ble_eq_true rfl) dX7_odds_18) (fun H locs hP hS => ?_)
    refine lv_if_eq (tgt := 65) hx hb dX7_odds_21 (by decide) (fun c4 => ?_) (fun c4 => ?_)
    · have h := zif_t h c4
      refine lv_ldc2 (own := RX7) (index := 181) (v := -9223372036854775808) hx hb hown (hts _ (by decide +kernel)) dX7_odds_65 ?_
      exact z_lret X hP hS hr hlocks h dX7_odds_68
    · have h := zif_f h c4
      refine lv_iload hx hb dX7_odds_24 (lv_at hl 4 rfl) ?_
      obtain ⟨u5, s5, e5, h⟩ := zb_some h
      refine z_calli hS (z_runS (As := [.int x4]) (rest := []) X hG hA hE hP hS (kX7_isLamp (l := l) (D := D) (a := a) (cI := cI) (cJ := cJ) (cC := cC) e5 _) (va_cwS 1 hts gX7_odds_X7_isLamp rfl rfl rfl (by decide +kernel) ⟨Nat.le_of_ble_eq_true rfl, Nat.le_of_ble_eq_true rfl⟩) rfl hl.1 rfl (Nat.le_of_ble_eq_true rfl) dX7_odds_26) (fun H locs hP hS => ?_)
      refine lv_if_eq (tgt := 65) hx hb dX7_odds_29 (by decide) (fun c6 => ?_) (fun c6 => ?_)
      · have h := zif_t h c6
        refine lv_ldc2 (own := RX7) (index := 181) (v := -9223372036854775808) hx hb hown (hts _ (by decide +kernel)) dX7_odds_65 ?_
        exact z_lret X hP hS hr hlocks h dX7_odds_68
      · have h := zif_f h c6
        refine lv_iload hx hb dX7_odds_32 (lv_at hl 5 rfl) ?_
        refine lv_i2l hx hb dX7_odds_34 rfl ?_
        refine lv_lconst (v := 0) hx hb dX7_odds_35 (by decide) ?_
        refine lv_ldc2 (own := RX7) (index := 66) (v := 2) hx hb hown (hts _ (by decide +kernel)) dX7_odds_36 ?_
        obtain ⟨u7, s7, e7, h⟩ := zb_some h
        refine z_calli hS (z_runS (As := [.long (x5).toInt64, .long (0 : Int64), .long (2 : Int64)]) (rest := []) X hG hA hE hP hS (kX7_isIn (l := l) (D := D) (a := a) (cI := cI) (cJ := cJ) (cC := cC) e7 _) (va_cwS 3 hts gX7_odds_X7_isIn rfl rfl rfl (by decide +kernel) ⟨Nat.le_of_ble_eq_true rfl, Nat.le_of_ble_eq_true rfl⟩) rfl hl.1 rfl (Nat.le_of_ble_eq_true rfl) dX7_odds_39) (fun H locs hP hS => ?_)
        refine lv_if_eq (tgt := 65) hx hb dX7_odds_42 (by decide) (fun c8 => ?_) (fun c8 => ?_)
        · have h := zif_t h c8
          refine lv_ldc2 (own := RX7) (index := 181) (v := -9223372036854775808) hx hb hown (hts _ (by decide +kernel)) dX7_odds_65 ?_
          exact z_lret X hP hS hr hlocks h dX7_odds_68
        · have h := zif_f h c8
          refine lv_iload hx hb dX7_odds_45 (lv_at hl 7 rfl) ?_
          refine lv_i2l hx hb dX7_odds_47 rfl ?_
          refine lv_lconst (v := 0) hx hb dX7_odds_48 (by decide) ?_
          refine lv_lconst (v := 1) hx hb dX7_odds_49 (by decide) ?_
          obtain ⟨u9, s9, e9, h⟩ := zb_some h
          refine z_calli hS (z_runS (As := [.long (x7).toInt64, .long (0 : Int64), .long (1 : Int64)]) (rest := []) X hG hA hE hP hS (kX7_isIn (l := l) (D := D) (a := a) (cI := cI) (cJ := cJ) (cC := cC) e9 _) (va_cwS 3 hts gX7_odds_X7_isIn rfl rfl rfl (by decide +kernel) ⟨Nat.le_of_ble_eq_true rfl, Nat.le_of_ble_eq_true rfl⟩) rfl hl.1 rfl (Nat.le_of_ble_eq_true rfl) dX7_odds_50) (fun H locs hP hS => ?_)
          refine lv_if_eq (tgt := 65) hx hb dX7_odds_53 (by decide) (fun c10 => ?_) (fun c10 => ?_)
          · have h := zif_t h c10
            refine lv_ldc2 (own := RX7) (index := 181) (v := -9223372036854775808) hx hb hown (hts _ (by decide +kernel)) dX7_odds_65 ?_
            exact z_lret X hP hS hr hlocks h dX7_odds_68
          · have h := zif_f h c10
            refine lv_aload_n hx hb dX7_odds_56 rfl (lv_at hl 0 rfl) ?_
            refine z_get (C := RX7) (T := TX7) (N := 26) X inX7 hP 0 (by decide) (zcM_0 _ _ _ _ _ _) rfl 0 (by decide) rfl (by decide +kernel) rfl dX7_odds_57 ?_
            refine lv_iconst (v := 0) hx hb dX7_odds_60 (by decide) ?_
            obtain ⟨g11, h⟩ := zg_some h
            refine z_iald X hP 1 0 (by decide) (zcM_1 _ _ _ _ _ _) rfl g11 dX7_odds_61 ?_
            refine lv_if_ne (tgt := 69) hx hb dX7_odds_62 (by decide) (fun c12 => ?_) (fun c12 => ?_)
            · have h := zif_f h c12
              refine lv_iconst (v := 0) hx hb dX7_odds_69 (by decide) ?_
              refine lv_istore (lv' := [(8, .int (0 : Int32)), (0, .ref (a 0)), (1, .int x1), (2, .int x2), (3, .int x3), (4, .int x4), (5, .int x5), (6, .int x6), (7, .int x7)]) hx hb dX7_odds_70 hl (by decide) rfl (fun ls hl => ?_)
              refine lv_iconst (v := 0) hx hb dX7_odds_72 (by decide) ?_
              refine lv_istore (lv' := [(9, .int (0 : Int32)), (8, .int (0 : Int32)), (0, .ref (a 0)), (1, .int x1), (2, .int x2), (3, .int x3), (4, .int x4), (5, .int x5), (6, .int x6), (7, .int x7)]) hx hb dX7_odds_73 hl (by decide) rfl (fun ls hl => ?_)
              exact w75  zN (x1) (x2) (x3) (x4) (x5) (x6) (x7) ((0 : Int32)) ((0 : Int32)) (s9) _ _ _ h hP hS (lv_sub hl [2, 3, 4, 5, 6, 7, 8, 9, 1, 0] rfl)
            · have h := zif_t h c12
              refine lv_ldc2 (own := RX7) (index := 181) (v := -9223372036854775808) hx hb hown (hts _ (by decide +kernel)) dX7_odds_65 ?_
              exact z_lret X hP hS hr hlocks h dX7_odds_68
abbrev rmX7_writes : Room := { frames := 0, cells := 0, slots := 0, locals := 0 }
set_option maxHeartbeats 4000000 in
set_option maxRecDepth 100000 in
theorem kX7_writes {l : Launch} {D : va_G} {a : Nat → Nat} {cI cJ cC : ClassId} {x1 : Int32} {s τ : ZS} {r : Unit} (h : fX7_writes x1 s = some (r, τ)) : zMv (zcM a cI cJ cC) 17 a D [(cI, .int), (cJ, .long), (cC, .char)] zEM l yX7_writes wsX7_writes rmX7_writes [.ref (a 0), .int x1] s r τ := by
  refine z_start (cc := cX7_writes) (maxL := 2) (ret := none) RX7 rfl (by decide) rfl (Nat.le_of_ble_eq_true rfl) ?_
  intro p e st m args below meth c ls H locs X hr hlocks hA hE hP hS hl
  obtain ⟨hx, hb, hml, hown, hts, -⟩ := id X
  have hG := zEM_good
  have inX7 : ∀ w ∈ u_ws RX7 TX7 26, w ∈ wsX7_writes := by decide +kernel
  have hl : lv_has ls 2 [(0, .ref (a 0)), (1, .int x1)] := hl
  refine lv_aload_n hx hb dX7_writes_0 rfl (lv_at hl 0 rfl) ?_
  refine z_get (C := RX7) (T := TX7) (N := 26) X inX7 hP 0 (by decide) (zcM_0 _ _ _ _ _ _) rfl 22 (by decide) rfl (by decide +kernel) rfl dX7_writes_1 ?_
  refine lv_aload_n hx hb dX7_writes_4 rfl (lv_at hl 0 rfl) ?_
  refine z_get (C := RX7) (T := TX7) (N := 26) X inX7 hP 0 (by decide) (zcM_0 _ _ _ _ _ _) rfl 23 (by decide) rfl (by decide +kernel) rfl dX7_writes_5 ?_
  refine lv_iload_n hx hb dX7_writes_8 rfl (lv_at hl 1 rfl) ?_
  obtain ⟨g1, h⟩ := zg_some h
  refine z_iast X hA hP hS 14 0 (by decide) (zcM_14 _ _ _ _) rfl g1 dX7_writes_9 (fun H locs hP hS => ?_)
  refine lv_aload_n hx hb dX7_writes_10 rfl (lv_at hl 0 rfl) ?_
  refine lv_dup hx hb dX7_writes_11 rfl ?_
  refine z_get (C := RX7) (T := TX7) (N := 26) X inX7 hP 0 (by decide) (zcM_0 _ _ _ _ _ _) rfl 23 (by decide) rfl (by decide +kernel) rfl dX7_writes_12 ?_
  refine lv_iconst (v := 1) hx hb dX7_writes_15 (by decide) ?_
  refine lv_iadd hx hb dX7_writes_16 ?_
  refine z_put (ty := .int) (x := ((((zI s 14 (((s).1 0 23)).toNatClampNeg x1)).1 0 23) + (1 : Int32))) (C := RX7) (T := TX7) (N := 26) X inX7 tyX7 tyX7_ok nmX7 hA hP hS 0 (by decide) (zcM_0 _ _ _ _ _ _) rfl 23 (by decide) rfl (by decide +kernel) rfl (by decide +kernel) rfl rfl (Nat.le_of_ble_eq_true rfl) rfl dX7_writes_17 (fun H locs hP hS => ?_)
  exact z_vret X hP hS hr hlocks h dX7_writes_20
abbrev rmX7_spell : Room := { frames := 2, cells := 0, slots := 0, locals := 46 }
set_option maxHeartbeats 4000000 in
set_option maxRecDepth 100000 in
theorem kX7_spell {l : Launch} {D : va_G} {a : Nat → Nat} {cI cJ cC : ClassId} {x1 : Int32} {s τ : ZS} {r : Int32} (h : fX7_spell x1 s = some (r, τ)) : zMi (zcM a cI cJ cC) 17 a D [(cI, .int), (cJ, .long), (cC, .char)] zEM l yX7_spell wsX7_spell rmX7_spell [.ref (a 0), .int x1] s r τ := by
  refine z_start (cc := cX7_spell) (maxL := 5) (ret := (some .int)) RX7 rfl (by decide) rfl (Nat.le_of_ble_eq_true rfl) ?_
  intro p e st m args below meth c ls H locs X hr hlocks hA hE hP hS hl
  obtain ⟨hx, hb, hml, hown, hts, -⟩ := id X
  have hG := zEM_good
  have inX7 : ∀ w ∈ u_ws RX7 TX7 26, w ∈ wsX7_spell := by decide +kernel
  have w60 : ∀ (k31 : Int32 → Int32 → ZS → Option (Int32 × ZS)) (hk31 : ∀ (x1 : Int32) (x2 : Int32) (s : ZS) (H : Heap) (locs : List Loc) (ls : Array Slot), k31 x1 x2 s = some (r, τ) → va_P D vwCl (zW (zcM a cI cJ cC) 17 a s) H → va_S (zF 17 a st.heap.size) st.heap H locs → lv_has ls 5 [(0, .ref (a 0)), (1, .int x1), (2, .int x2)] → W p l e rmX7_spell st m args below meth c H locs 0 0 (MQ below (va_Qi (fun (r' : Int32) (τ' : ZS) => r' = r ∧ τ' = τ) (zPost (zcM a cI cJ cC) 17 a D [(cI, .int), (cJ, .long), (cC, .char)]) (zF 17 a st.heap.size)) args st 0 0 (zF 17 a st.heap.size)) (F0 m 31 ls [])) (n : Nat) (x1 : Int32) (x2 : Int32) (x3 : Int32) (x4 : Int32) (s : ZS) (H : Heap) (locs : List Loc) (ls : Array Slot), fX7_spell_60n k31 n (x1, x2, x3, x4, s) = some (r, τ) → va_P D vwCl (zW (zcM a cI cJ cC) 17 a s) H → va_S (zF 17 a st.heap.size) st.heap H locs → lv_has ls 5 [(0, .ref (a 0)), (1, .int x1), (2, .int x2), (3, .int x3), (4, .int x4)] → W p l e rmX7_spell st m args below meth c H locs 0 0 (MQ below (va_Qi (fun (r' : Int32) (τ' : ZS) => r' = r ∧ τ' = τ) (zPost (zcM a cI cJ cC) 17 a D [(cI, .int), (cJ, .long), (cC, .char)]) (zF 17 a st.heap.size)) args st 0 0 (zF 17 a st.heap.size)) (F0 m 60 ls []) := by
    intro k31 hk31 n
    induction n with
    | zero => intro x1 x2 x3 x4 s H locs ls h; exact zloop_0 h
    | succ n ih =>
      intro x1 x2 x3 x4 s H locs ls h hP hS hl
      have h : fX7_spell_60b k31 (fun x1 x2 x3 x4 s => fX7_spell_60n k31 n (x1, x2, x3, x4, s)) x1 x2 x3 x4 s = some (r, τ) := h
      refine lv_iload hx hb dX7_spell_60 (lv_at hl 4 rfl) ?_
      refine lv_aload_n hx hb dX7_spell_62 rfl (lv_at hl 0 rfl) ?_
      refine z_get (C := RX7) (T := TX7) (N := 26) X inX7 hP 0 (by decide) (zcM_0 _ _ _ _ _ _) rfl 15 (by decide) rfl (by decide +kernel) rfl dX7_spell_63 ?_
      refine lv_aload_n hx hb dX7_spell_66 rfl (lv_at hl 0 rfl) ?_
      refine lv_iload_n hx hb dX7_spell_67 rfl (lv_at hl 3 rfl) ?_
      obtain ⟨u1, s1, e1, h⟩ := zb_some h
      refine z_calli hS (z_runV (As := [.int x3]) (rest := [.ref (a 10), .int x4]) X hG hA hE hP hS 0 (kX7_kindOf (l := l) (D := D) (a := a) (cI := cI) (cJ := cJ) (cC := cC) e1 _) (cwV 1 hts gX7_spell_X7_kindOf rfl rfl rfl (by decide +kernel) ⟨Nat.le_of_ble_eq_true rfl, Nat.le_of_ble_eq_true rfl⟩) (by decide) (zcM_0 _ _ _ _ _ _) rfl rfl rfl hl.1 rfl (Nat.le_of_ble_eq_true rfl) dX7_spell_68) (fun H locs hP hS => ?_)
      obtain ⟨g2, h⟩ := zg_some h
      refine z_iald X hP 10 0 (by decide) (zcM_10 _ _ _ _ _ _) rfl g2 dX7_spell_71 ?_
      refine lv_icmp_ge (tgt := 101) hx hb dX7_spell_72 (by decide) (fun c3 => ?_) (fun c3 => ?_)
      · have h := zif_t h c3
        refine lv_aload_n hx hb dX7_spell_101 rfl (lv_at hl 0 rfl) ?_
        refine lv_bipush (v := 48) hx hb dX7_spell_102 (by decide) ?_
        refine lv_aload_n hx hb dX7_spell_104 rfl (lv_at hl 0 rfl) ?_
        refine lv_iload_n hx hb dX7_spell_105 rfl (lv_at hl 3 rfl) ?_
        obtain ⟨u4, s4, e4, h⟩ := zb_some h
        refine z_calli hS (z_runV (As := [.int x3]) (rest := [.int (48 : Int32), .ref (a 0)]) X hG hA hE hP hS 0 (kX7_figureOf (l := l) (D := D) (a := a) (cI := cI) (cJ := cJ) (cC := cC) e4 _) (cwV 1 hts gX7_spell_X7_figureOf rfl rfl rfl (by decide +kernel) ⟨Nat.le_of_ble_eq_true rfl, Nat.le_of_ble_eq_true rfl⟩) (by decide) (zcM_0 _ _ _ _ _ _) rfl rfl rfl hl.1 rfl (Nat.le_of_ble_eq_true rfl) dX7_spell_106) (fun H locs hP hS => ?_)
        refine lv_iadd hx hb dX7_spell_109 ?_
        obtain ⟨u5, s5, e5, h⟩ := zb_some h
        refine z_callv hS (z_runV (As := [.int ((48 : Int32) + u4)]) (rest := []) X hG hA hE hP hS 0 (kX7_writes (l := l) (D := D) (a := a) (cI := cI) (cJ := cJ) (cC := cC) e5 _) (cwV 1 hts gX7_spell_X7_writes rfl rfl rfl (by decide +kernel) ⟨Nat.le_of_ble_eq_true rfl, Nat.le_of_ble_eq_true rfl⟩) (by decide) (zcM_0 _ _ _ _ _ _) rfl rfl rfl hl.1 rfl (Nat.le_of_ble_eq_true rfl) dX7_spell_110) (fun H locs hP hS => ?_)
        refine lv_iinc (v := (x2 + (1 : Int32))) (lv' := [(2, .int (x2 + (1 : Int32))), (0, .ref (a 0)), (1, .int x1), (3, .int x3), (4, .int x4)]) hx hb dX7_spell_113 hl (k := 2) rfl rfl (by decide) rfl (fun ls hl => ?_)
        refine lv_goto (tgt := 31) hx hb dX7_spell_116 (by decide) ?_
        exact hk31 (x1) ((x2 + (1 : Int32))) (s5) _ _ _ h hP hS (lv_sub hl [1, 2, 0] rfl)
      · have h := zif_f h c3
        refine lv_aload_n hx hb dX7_spell_75 rfl (lv_at hl 0 rfl) ?_
        refine lv_aload_n hx hb dX7_spell_76 rfl (lv_at hl 0 rfl) ?_
        refine z_get (C := RX7) (T := TX7) (N := 26) X inX7 hP 0 (by decide) (zcM_0 _ _ _ _ _ _) rfl 14 (by decide) rfl (by decide +kernel) rfl dX7_spell_77 ?_
        refine lv_bipush (v := 6) hx hb dX7_spell_80 (by decide) ?_
        refine lv_aload_n hx hb dX7_spell_82 rfl (lv_at hl 0 rfl) ?_
        refine lv_iload_n hx hb dX7_spell_83 rfl (lv_at hl 3 rfl) ?_
        obtain ⟨u6, s6, e6, h⟩ := zb_some h
        refine z_calli hS (z_runV (As := [.int x3]) (rest := [.int (6 : Int32), .ref (a 9), .ref (a 0)]) X hG hA hE hP hS 0 (kX7_kindOf (l := l) (D := D) (a := a) (cI := cI) (cJ := cJ) (cC := cC) e6 _) (cwV 1 hts gX7_spell_X7_kindOf rfl rfl rfl (by decide +kernel) ⟨Nat.le_of_ble_eq_true rfl, Nat.le_of_ble_eq_true rfl⟩) (by decide) (zcM_0 _ _ _ _ _ _) rfl rfl rfl hl.1 rfl (Nat.le_of_ble_eq_true rfl) dX7_spell_84) (fun H locs hP hS => ?_)
        refine lv_imul hx hb dX7_spell_87 ?_
        refine lv_iload hx hb dX7_spell_88 (lv_at hl 4 rfl) ?_
        refine lv_iadd hx hb dX7_spell_90 ?_
        obtain ⟨g7, h⟩ := zg_some h
        refine z_cald X hP 9 2 (by decide) (zcM_9 _ _ _ _ _ _) rfl g7 dX7_spell_91 ?_
        obtain ⟨u8, s8, e8, h⟩ := zb_some h
        refine z_callv hS (z_runV (As := [.int ((s6).1 9 ((((6 : Int32) * u6) + x4)).toNatClampNeg)]) (rest := []) X hG hA hE hP hS 0 (kX7_writes (l := l) (D := D) (a := a) (cI := cI) (cJ := cJ) (cC := cC) e8 _) (cwV 1 hts gX7_spell_X7_writes rfl rfl rfl (by decide +kernel) ⟨Nat.le_of_ble_eq_true rfl, Nat.le_of_ble_eq_true rfl⟩) (by decide) (zcM_0 _ _ _ _ _ _) rfl rfl rfl hl.1 rfl (Nat.le_of_ble_eq_true rfl) dX7_spell_92) (fun H locs hP hS => ?_)
        refine lv_iinc (v := (x4 + (1 : Int32))) (lv' := [(4, .int (x4 + (1 : Int32))), (0, .ref (a 0)), (1, .int x1), (2, .int x2), (3, .int x3)]) hx hb dX7_spell_95 hl (k := 4) rfl rfl (by decide) rfl (fun ls hl => ?_)
        refine lv_goto (tgt := 60) hx hb dX7_spell_98 (by decide) ?_
        exact ih (x1) (x2) (x3) ((x4 + (1 : Int32))) (s8) _ _ _ h hP hS (lv_sub hl [1, 2, 3, 4, 0] rfl)
  have w50 : ∀ (k31 : Int32 → Int32 → ZS → Option (Int32 × ZS)) (hk31 : ∀ (x1 : Int32) (x2 : Int32) (s : ZS) (H : Heap) (locs : List Loc) (ls : Array Slot), k31 x1 x2 s = some (r, τ) → va_P D vwCl (zW (zcM a cI cJ cC) 17 a s) H → va_S (zF 17 a st.heap.size) st.heap H locs → lv_has ls 5 [(0, .ref (a 0)), (1, .int x1), (2, .int x2)] → W p l e rmX7_spell st m args below meth c H locs 0 0 (MQ below (va_Qi (fun (r' : Int32) (τ' : ZS) => r' = r ∧ τ' = τ) (zPost (zcM a cI cJ cC) 17 a D [(cI, .int), (cJ, .long), (cC, .char)]) (zF 17 a st.heap.size)) args st 0 0 (zF 17 a st.heap.size)) (F0 m 31 ls [])) (x1 : Int32) (x2 : Int32) (s : ZS) (H : Heap) (locs : List Loc) (ls : Array Slot), fX7_spell_50 k31 x1 x2 s = some (r, τ) → va_P D vwCl (zW (zcM a cI cJ cC) 17 a s) H → va_S (zF 17 a st.heap.size) st.heap H locs → lv_has ls 5 [(0, .ref (a 0)), (1, .int x1), (2, .int x2)] → W p l e rmX7_spell st m args below meth c H locs 0 0 (MQ below (va_Qi (fun (r' : Int32) (τ' : ZS) => r' = r ∧ τ' = τ) (zPost (zcM a cI cJ cC) 17 a D [(cI, .int), (cJ, .long), (cC, .char)]) (zF 17 a st.heap.size)) args st 0 0 (zF 17 a st.heap.size)) (F0 m 50 ls []) := by
    intro k31 hk31 x1 x2 s H locs ls h hP hS hl
    refine lv_aload_n hx hb dX7_spell_50 rfl (lv_at hl 0 rfl) ?_
    refine lv_iload_n hx hb dX7_spell_51 rfl (lv_at hl 1 rfl) ?_
    refine lv_iload_n hx hb dX7_spell_52 rfl (lv_at hl 2 rfl) ?_
    obtain ⟨u1, s1, e1, h⟩ := zb_some h
    refine z_calli hS (z_runV (As := [.int x1, .int x2]) (rest := []) X hG hA hE hP hS 0 (kX7_laid (l := l) (D := D) (a := a) (cI := cI) (cJ := cJ) (cC := cC) e1 _) (cwV 2 hts gX7_spell_X7_laid rfl rfl rfl (by decide +kernel) ⟨Nat.le_of_ble_eq_true rfl, Nat.le_of_ble_eq_true rfl⟩) (by decide) (zcM_0 _ _ _ _ _ _) rfl rfl rfl hl.1 rfl (Nat.le_of_ble_eq_true rfl) dX7_spell_53) (fun H locs hP hS => ?_)
    refine lv_istore_n (lv' := [(3, .int u1), (0, .ref (a 0)), (1, .int x1), (2, .int x2)]) hx hb dX7_spell_56 rfl hl (by decide) rfl (fun ls hl => ?_)
    refine lv_iconst (v := 0) hx hb dX7_spell_57 (by decide) ?_
    refine lv_istore (lv' := [(4, .int (0 : Int32)), (3, .int u1), (0, .ref (a 0)), (1, .int x1), (2, .int x2)]) hx hb dX7_spell_58 hl (by decide) rfl (fun ls hl => ?_)
    exact w60 k31 hk31 zN (x1) (x2) (u1) ((0 : Int32)) (s1) _ _ _ h hP hS (lv_sub hl [2, 3, 4, 1, 0] rfl)
  have w31 : ∀  (n : Nat) (x1 : Int32) (x2 : Int32) (s : ZS) (H : Heap) (locs : List Loc) (ls : Array Slot), fX7_spell_31n  n (x1, x2, s) = some (r, τ) → va_P D vwCl (zW (zcM a cI cJ cC) 17 a s) H → va_S (zF 17 a st.heap.size) st.heap H locs → lv_has ls 5 [(0, .ref (a 0)), (1, .int x1), (2, .int x2)] → W p l e rmX7_spell st m args below meth c H locs 0 0 (MQ below (va_Qi (fun (r' : Int32) (τ' : ZS) => r' = r ∧ τ' = τ) (zPost (zcM a cI cJ cC) 17 a D [(cI, .int), (cJ, .long), (cC, .char)]) (zF 17 a st.heap.size)) args st 0 0 (zF 17 a st.heap.size)) (F0 m 31 ls []) := by
    intro  n
    induction n with
    | zero => intro x1 x2 s H locs ls h; exact zloop_0 h
    | succ n ih =>
      intro x1 x2 s H locs ls h hP hS hl
      have h : fX7_spell_31b  (fun x1 x2 s => fX7_spell_31n  n (x1, x2, s)) x1 x2 s = some (r, τ) := h
      refine lv_iload_n hx hb dX7_spell_31 rfl (lv_at hl 2 rfl) ?_
      refine lv_aload_n hx hb dX7_spell_32 rfl (lv_at hl 0 rfl) ?_
      refine lv_iload_n hx hb dX7_spell_33 rfl (lv_at hl 1 rfl) ?_
      obtain ⟨u1, s1, e1, h⟩ := zb_some h
      refine z_calli hS (z_runV (As := [.int x1]) (rest := [.int x2]) X hG hA hE hP hS 0 (kX7_size (l := l) (D := D) (a := a) (cI := cI) (cJ := cJ) (cC := cC) e1 _) (cwV 1 hts gX7_spell_X7_size rfl rfl rfl (by decide +kernel) ⟨Nat.le_of_ble_eq_true rfl, Nat.le_of_ble_eq_true rfl⟩) (by decide) (zcM_0 _ _ _ _ _ _) rfl rfl rfl hl.1 rfl (Nat.le_of_ble_eq_true rfl) dX7_spell_34) (fun H locs hP hS => ?_)
      refine lv_icmp_ge (tgt := 119) hx hb dX7_spell_37 (by decide) (fun c2 => ?_) (fun c2 => ?_)
      · have h := zif_t h c2
        refine lv_aload_n hx hb dX7_spell_119 rfl (lv_at hl 0 rfl) ?_
        refine z_get (C := RX7) (T := TX7) (N := 26) X inX7 hP 0 (by decide) (zcM_0 _ _ _ _ _ _) rfl 23 (by decide) rfl (by decide +kernel) rfl dX7_spell_120 ?_
        exact z_iret X hP hS hr hlocks h dX7_spell_123
      · have h := zif_f h c2
        refine lv_iload_n hx hb dX7_spell_40 rfl (lv_at hl 2 rfl) ?_
        refine lv_if_le (tgt := 50) hx hb dX7_spell_41 (by decide) (fun c3 => ?_) (fun c3 => ?_)
        · have h := zif_t h c3
          exact w50 (fun x1 x2 s => fX7_spell_31n  n (x1, x2, s)) (fun x1 x2 s H locs ls h hP hS hl => ih x1 x2 s H locs ls h hP hS hl)  (x1) (x2) (s1) _ _ _ h hP hS (lv_sub hl [0, 1, 2] rfl)
        · have h := zif_f h c3
          refine lv_aload_n hx hb dX7_spell_44 rfl (lv_at hl 0 rfl) ?_
          refine lv_bipush (v := 47) hx hb dX7_spell_45 (by decide) ?_
          obtain ⟨u4, s4, e4, h⟩ := zb_some h
          refine z_callv hS (z_runV (As := [.int (47 : Int32)]) (rest := []) X hG hA hE hP hS 0 (kX7_writes (l := l) (D := D) (a := a) (cI := cI) (cJ := cJ) (cC := cC) e4 _) (cwV 1 hts gX7_spell_X7_writes rfl rfl rfl (by decide +kernel) ⟨Nat.le_of_ble_eq_true rfl, Nat.le_of_ble_eq_true rfl⟩) (by decide) (zcM_0 _ _ _ _ _ _) rfl rfl rfl hl.1 rfl (Nat.le_of_ble_eq_true rfl) dX7_spell_47) (fun H locs hP hS => ?_)
          exact w50 (fun x1 x2 s => fX7_spell_31n  n (x1, x2, s)) (fun x1 x2 s H locs ls h hP hS hl => ih x1 x2 s H locs ls h hP hS hl)  (x1) (x2) (s4) _ _ _ h hP hS (lv_sub hl [0, 1, 2] rfl)
  have w29 : ∀  (x1 : Int32) (s : ZS) (H : Heap) (locs : List Loc) (ls : Array Slot), fX7_spell_29  x1 s = some (r, τ) → va_P D vwCl (zW (zcM a cI cJ cC) 17 a s) H → va_S (zF 17 a st.heap.size) st.heap H locs → lv_has ls 5 [(0, .ref (a 0)), (1, .int x1)] → W p l e rmX7_spell st m args below meth c H locs 0 0 (MQ below (va_Qi (fun (r' : Int32) (τ' : ZS) => r' = r ∧ τ' = τ) (zPost (zcM a cI cJ cC) 17 a D [(cI, .int), (cJ, .long), (cC, .char)]) (zF 17 a st.heap.size)) args st 0 0 (zF 17 a st.heap.size)) (F0 m 29 ls []) := by
    intro  x1 s H locs ls h hP hS hl
    refine lv_iconst (v := 0) hx hb dX7_spell_29 (by decide) ?_
    refine lv_istore_n (lv' := [(2, .int (0 : Int32)), (0, .ref (a 0)), (1, .int x1)]) hx hb dX7_spell_30 rfl hl (by decide) rfl (fun ls hl => ?_)
    exact w31  zN (x1) ((0 : Int32)) (s) _ _ _ h hP hS (lv_sub hl [1, 2, 0] rfl)
  have hl : lv_has ls 5 [(0, .ref (a 0)), (1, .int x1)] := hl
  refine lv_aload_n hx hb dX7_spell_0 rfl (lv_at hl 0 rfl) ?_
  refine lv_iload_n hx hb dX7_spell_1 rfl (lv_at hl 1 rfl) ?_
  obtain ⟨u1, s1, e1, h⟩ := zb_some h
  refine z_calli hS (z_runV (As := [.int x1]) (rest := []) X hG hA hE hP hS 0 (kX7_isStack (l := l) (D := D) (a := a) (cI := cI) (cJ := cJ) (cC := cC) e1 _) (cwV 1 hts gX7_spell_X7_isStack rfl rfl rfl (by decide +kernel) ⟨Nat.le_of_ble_eq_true rfl, Nat.le_of_ble_eq_true rfl⟩) (by decide) (zcM_0 _ _ _ _ _ _) rfl rfl rfl hl.1 rfl (Nat.le_of_ble_eq_true rfl) dX7_spell_2) (fun H locs hP hS => ?_)
  refine lv_if_ne (tgt := 10) hx hb dX7_spell_5 (by decide) (fun c2 => ?_) (fun c2 => ?_)
  · have h := zif_f h c2
    refine lv_aload_n hx hb dX7_spell_10 rfl (lv_at hl 0 rfl) ?_
    refine lv_iconst (v := 0) hx hb dX7_spell_11 (by decide) ?_
    refine z_put (ty := .int) (x := (0 : Int32)) (C := RX7) (T := TX7) (N := 26) X inX7 tyX7 tyX7_ok nmX7 hA hP hS 0 (by decide) (zcM_0 _ _ _ _ _ _) rfl 23 (by decide) rfl (by decide +kernel) rfl (by decide +kernel) rfl rfl (Nat.le_of_ble_eq_true rfl) rfl dX7_spell_12 (fun H locs hP hS => ?_)
    refine lv_aload_n hx hb dX7_spell_15 rfl (lv_at hl 0 rfl) ?_
    refine lv_iload_n hx hb dX7_spell_16 rfl (lv_at hl 1 rfl) ?_
    obtain ⟨u3, s3, e3, h⟩ := zb_some h
    refine z_calli hS (z_runV (As := [.int x1]) (rest := []) X hG hA hE hP hS 0 (kX7_size (l := l) (D := D) (a := a) (cI := cI) (cJ := cJ) (cC := cC) e3 _) (cwV 1 hts gX7_spell_X7_size rfl rfl rfl (by decide +kernel) ⟨Nat.le_of_ble_eq_true rfl, Nat.le_of_ble_eq_true rfl⟩) (by decide) (zcM_0 _ _ _ _ _ _) rfl rfl rfl hl.1 rfl (Nat.le_of_ble_eq_true rfl) dX7_spell_17) (fun H locs hP hS => ?_)
    refine lv_if_ne (tgt := 29) hx hb dX7_spell_20 (by decide) (fun c4 => ?_) (fun c4 => ?_)
    · have h := zif_f h c4
      exact w29   (x1) (s3) _ _ _ h hP hS (lv_sub hl [0, 1] rfl)
    · have h := zif_t h c4
      refine lv_aload_n hx hb dX7_spell_23 rfl (lv_at hl 0 rfl) ?_
      refine lv_bipush (v := 45) hx hb dX7_spell_24 (by decide) ?_
      obtain ⟨u5, s5, e5, h⟩ := zb_some h
      refine z_callv hS (z_runV (As := [.int (45 : Int32)]) (rest := []) X hG hA hE hP hS 0 (kX7_writes (l := l) (D := D) (a := a) (cI := cI) (cJ := cJ) (cC := cC) e5 _) (cwV 1 hts gX7_spell_X7_writes rfl rfl rfl (by decide +kernel) ⟨Nat.le_of_ble_eq_true rfl, Nat.le_of_ble_eq_true rfl⟩) (by decide) (zcM_0 _ _ _ _ _ _) rfl rfl rfl hl.1 rfl (Nat.le_of_ble_eq_true rfl) dX7_spell_26) (fun H locs hP hS => ?_)
      exact w29   (x1) (s5) _ _ _ h hP hS (lv_sub hl [0, 1] rfl)
  · have h := zif_t h c2
    refine lv_iconst (v := -1) hx hb dX7_spell_8 (by decide) ?_
    exact z_iret X hP hS hr hlocks h dX7_spell_9
