abbrev rmX7_paper : Room := { frames := 1, cells := 0, slots := 0, locals := 25 }
set_option maxHeartbeats 4000000 in
set_option maxRecDepth 100000 in
theorem kX7_paper {l : Launch} {D : va_G} {a : Nat → Nat} {cI cJ cC : ClassId} {x1 : Int32} {s τ : ZS} {r : Int32} (h : fX7_paper x1 s = some (r, τ)) : zMi (zcM a cI cJ cC) 17 a D [(cI, .int), (cJ, .long), (cC, .char)] zEM l yX7_paper wsX7_paper rmX7_paper [.ref (a 0), .int x1] s r τ := by
  refine z_start (cc := cX7_paper) (maxL := 2) (ret := (some .int)) RX7 rfl (by decide) rfl (Nat.le_of_ble_eq_true rfl) ?_
  intro p e st m args below meth c ls H locs X hr hlocks hA hE hP hS hl
  obtain ⟨hx, hb, hml, hown, hts, -⟩ := id X
  have hG := zEM_good
  have inX7 : ∀ w ∈ u_ws RX7 TX7 26, w ∈ wsX7_paper := by decide +kernel
  have hl : lv_has ls 2 [(0, .ref (a 0)), (1, .int x1)] := hl
  refine lv_iload_n hx hb dX7_paper_0 rfl (lv_at hl 1 rfl) ?_
  refine lv_i2l hx hb dX7_paper_1 rfl ?_
  refine lv_lconst (v := 0) hx hb dX7_paper_2 (by decide) ?_
  refine lv_aload_n hx hb dX7_paper_3 rfl (lv_at hl 0 rfl) ?_
  refine z_get (C := RX7) (T := TX7) (N := 26) X inX7 hP 0 (by decide) (zcM_0 _ _ _ _ _ _) rfl 23 (by decide) rfl (by decide +kernel) rfl dX7_paper_4 ?_
  refine lv_iconst (v := 1) hx hb dX7_paper_7 (by decide) ?_
  refine lv_isub hx hb dX7_paper_8 ?_
  refine lv_i2l hx hb dX7_paper_9 rfl ?_
  obtain ⟨u1, s1, e1, h⟩ := zb_some h
  refine z_calli hS (z_runS (As := [.long (x1).toInt64, .long (0 : Int64), .long ((((s).1 0 23) - (1 : Int32))).toInt64]) (rest := []) X hG hA hE hP hS (kX7_isIn (l := l) (D := D) (a := a) (cI := cI) (cJ := cJ) (cC := cC) e1 _) (va_cwS 3 hts gX7_paper_X7_isIn rfl rfl rfl (by decide +kernel) ⟨Nat.le_of_ble_eq_true rfl, Nat.le_of_ble_eq_true rfl⟩) rfl hl.1 rfl (Nat.le_of_ble_eq_true rfl) dX7_paper_10) (fun H locs hP hS => ?_)
  refine lv_if_eq (tgt := 25) hx hb dX7_paper_13 (by decide) (fun c2 => ?_) (fun c2 => ?_)
  · have h := zif_t h c2
    refine lv_iconst (v := -1) hx hb dX7_paper_25 (by decide) ?_
    exact z_iret X hP hS hr hlocks h dX7_paper_26
  · have h := zif_f h c2
    refine lv_aload_n hx hb dX7_paper_16 rfl (lv_at hl 0 rfl) ?_
    refine z_get (C := RX7) (T := TX7) (N := 26) X inX7 hP 0 (by decide) (zcM_0 _ _ _ _ _ _) rfl 22 (by decide) rfl (by decide +kernel) rfl dX7_paper_17 ?_
    refine lv_iload_n hx hb dX7_paper_20 rfl (lv_at hl 1 rfl) ?_
    obtain ⟨g3, h⟩ := zg_some h
    refine z_iald X hP 14 0 (by decide) (zcM_14 _ _ _ _ _ _) rfl g3 dX7_paper_21 ?_
    refine lv_goto (tgt := 26) hx hb dX7_paper_22 (by decide) ?_
    exact z_iret X hP hS hr hlocks h dX7_paper_26
abbrev rmX7_judge : Room := { frames := 5, cells := 0, slots := 0, locals := 112 }
set_option maxHeartbeats 4000000 in
set_option maxRecDepth 100000 in
theorem kX7_judge {l : Launch} {D : va_G} {a : Nat → Nat} {cI cJ cC : ClassId} {x1 : Int32} {x2 : Int32} {s τ : ZS} {r : Int32} (h : fX7_judge x1 x2 s = some (r, τ)) : zMi (zcM a cI cJ cC) 17 a D [(cI, .int), (cJ, .long), (cC, .char)] zEM l yX7_judge wsX7_judge rmX7_judge [.ref (a 0), .int x1, .int x2] s r τ := by
  refine z_start (cc := cX7_judge) (maxL := 4) (ret := (some .int)) RX7 rfl (by decide) rfl (Nat.le_of_ble_eq_true rfl) ?_
  intro p e st m args below meth c ls H locs X hr hlocks hA hE hP hS hl
  obtain ⟨hx, hb, hml, hown, hts, -⟩ := id X
  have hG := zEM_good
  have inX7 : ∀ w ∈ u_ws RX7 TX7 26, w ∈ wsX7_judge := by decide +kernel
  have w30 : ∀  (n : Nat) (x1 : Int32) (x2 : Int32) (x3 : Int32) (s : ZS) (H : Heap) (locs : List Loc) (ls : Array Slot), fX7_judge_30n  n (x1, x2, x3, s) = some (r, τ) → va_P D vwCl (zW (zcM a cI cJ cC) 17 a s) H → va_S (zF 17 a st.heap.size) st.heap H locs → lv_has ls 4 [(0, .ref (a 0)), (1, .int x1), (2, .int x2), (3, .int x3)] → W p l e rmX7_judge st m args below meth c H locs 0 0 (MQ below (va_Qi (fun (r' : Int32) (τ' : ZS) => r' = r ∧ τ' = τ) (zPost (zcM a cI cJ cC) 17 a D [(cI, .int), (cJ, .long), (cC, .char)]) (zF 17 a st.heap.size)) args st 0 0 (zF 17 a st.heap.size)) (F0 m 30 ls []) := by
    intro  n
    induction n with
    | zero => intro x1 x2 x3 s H locs ls h; exact zloop_0 h
    | succ n ih =>
      intro x1 x2 x3 s H locs ls h hP hS hl
      have h : fX7_judge_30b  (fun x1 x2 x3 s => fX7_judge_30n  n (x1, x2, x3, s)) x1 x2 x3 s = some (r, τ) := h
      refine lv_iload_n hx hb dX7_judge_30 rfl (lv_at hl 3 rfl) ?_
      refine lv_aload_n hx hb dX7_judge_31 rfl (lv_at hl 0 rfl) ?_
      refine z_get (C := RX7) (T := TX7) (N := 26) X inX7 hP 0 (by decide) (zcM_0 _ _ _ _ _ _) rfl 25 (by decide) rfl (by decide +kernel) rfl dX7_judge_32 ?_
      refine lv_iload_n hx hb dX7_judge_35 rfl (lv_at hl 1 rfl) ?_
      obtain ⟨g1, h⟩ := zg_some h
      refine z_iald X hP 16 0 (by decide) (zcM_16 _ _ _ _ _ _) rfl g1 dX7_judge_36 ?_
      refine lv_icmp_ge (tgt := 90) hx hb dX7_judge_37 (by decide) (fun c2 => ?_) (fun c2 => ?_)
      · have h := zif_t h c2
        refine lv_bipush (v := -5) hx hb dX7_judge_90 (by decide) ?_
        exact z_iret X hP hS hr hlocks h dX7_judge_92
      · have h := zif_f h c2
        refine lv_aload_n hx hb dX7_judge_40 rfl (lv_at hl 0 rfl) ?_
        refine lv_iload_n hx hb dX7_judge_41 rfl (lv_at hl 3 rfl) ?_
        refine lv_iconst (v := 3) hx hb dX7_judge_42 (by decide) ?_
        obtain ⟨g3, h⟩ := zg_some h
        refine lv_idiv hx hb dX7_judge_43 (zne_ne g3) ?_
        obtain ⟨u4, s4, e4, h⟩ := zb_some h
        refine z_calli hS (z_runV (As := [.int (x3 / (3 : Int32))]) (rest := []) X hG hA hE hP hS 0 (kX7_isStack (l := l) (D := D) (a := a) (cI := cI) (cJ := cJ) (cC := cC) e4 _) (cwV 1 hts gX7_judge_X7_isStack rfl rfl rfl (by decide +kernel) ⟨Nat.le_of_ble_eq_true rfl, Nat.le_of_ble_eq_true rfl⟩) (by decide) (zcM_0 _ _ _ _ _ _) rfl rfl rfl hl.1 rfl (Nat.le_of_ble_eq_true rfl) dX7_judge_44) (fun H locs hP hS => ?_)
        refine lv_if_ne (tgt := 52) hx hb dX7_judge_47 (by decide) (fun c5 => ?_) (fun c5 => ?_)
        · have h := zif_f h c5
          refine lv_aload_n hx hb dX7_judge_52 rfl (lv_at hl 0 rfl) ?_
          refine lv_iload_n hx hb dX7_judge_53 rfl (lv_at hl 3 rfl) ?_
          refine lv_iconst (v := 3) hx hb dX7_judge_54 (by decide) ?_
          obtain ⟨g6, h⟩ := zg_some h
          refine lv_idiv hx hb dX7_judge_55 (zne_ne g6) ?_
          obtain ⟨u7, s7, e7, h⟩ := zb_some h
          refine z_callv hS (z_runV (As := [.int (x3 / (3 : Int32))]) (rest := []) X hG hA hE hP hS 0 (kX7_shines (l := l) (D := D) (a := a) (cI := cI) (cJ := cJ) (cC := cC) e7 _) (cwV 1 hts gX7_judge_X7_shines rfl rfl rfl (by decide +kernel) ⟨Nat.le_of_ble_eq_true rfl, Nat.le_of_ble_eq_true rfl⟩) (by decide) (zcM_0 _ _ _ _ _ _) rfl rfl rfl hl.1 rfl (Nat.le_of_ble_eq_true rfl) dX7_judge_56) (fun H locs hP hS => ?_)
          refine lv_aload_n hx hb dX7_judge_59 rfl (lv_at hl 0 rfl) ?_
          refine lv_iload_n hx hb dX7_judge_60 rfl (lv_at hl 2 rfl) ?_
          refine lv_iconst (v := 0) hx hb dX7_judge_61 (by decide) ?_
          refine lv_iload_n hx hb dX7_judge_62 rfl (lv_at hl 3 rfl) ?_
          refine lv_iconst (v := 3) hx hb dX7_judge_63 (by decide) ?_
          obtain ⟨g8, h⟩ := zg_some h
          refine lv_irem hx hb dX7_judge_64 (zne_ne g8) ?_
          obtain ⟨u9, s9, e9, h⟩ := zb_some h
          refine z_calli hS (z_runV (As := [.int x2, .int (0 : Int32), .int (x3 - x3 / (3 : Int32) * (3 : Int32))]) (rest := []) X hG hA hE hP hS 0 (kX7_shadeOf (l := l) (D := D) (a := a) (cI := cI) (cJ := cJ) (cC := cC) e9 _) (cwV 3 hts gX7_judge_X7_shadeOf rfl rfl rfl (by decide +kernel) ⟨Nat.le_of_ble_eq_true rfl, Nat.le_of_ble_eq_true rfl⟩) (by decide) (zcM_0 _ _ _ _ _ _) rfl rfl rfl hl.1 rfl (Nat.le_of_ble_eq_true rfl) dX7_judge_65) (fun H locs hP hS => ?_)
          refine lv_aload_n hx hb dX7_judge_68 rfl (lv_at hl 0 rfl) ?_
          refine z_get (C := RX7) (T := TX7) (N := 26) X inX7 hP 0 (by decide) (zcM_0 _ _ _ _ _ _) rfl 24 (by decide) rfl (by decide +kernel) rfl dX7_judge_69 ?_
          refine lv_bipush (v := 18) hx hb dX7_judge_72 (by decide) ?_
          refine lv_iload_n hx hb dX7_judge_74 rfl (lv_at hl 1 rfl) ?_
          refine lv_imul hx hb dX7_judge_75 ?_
          refine lv_iload_n hx hb dX7_judge_76 rfl (lv_at hl 3 rfl) ?_
          refine lv_iadd hx hb dX7_judge_77 ?_
          obtain ⟨g10, h⟩ := zg_some h
          refine z_iald X hP 15 0 (by decide) (zcM_15 _ _ _ _ _ _) rfl g10 dX7_judge_78 ?_
          refine lv_icmp_eq (tgt := 84) hx hb dX7_judge_79 (by decide) (fun c11 => ?_) (fun c11 => ?_)
          · have h := zif_t h c11
            refine lv_iinc (v := (x3 + (1 : Int32))) (lv' := [(3, .int (x3 + (1 : Int32))), (0, .ref (a 0)), (1, .int x1), (2, .int x2)]) hx hb dX7_judge_84 hl (k := 3) rfl rfl (by decide) rfl (fun ls hl => ?_)
            refine lv_goto (tgt := 30) hx hb dX7_judge_87 (by decide) ?_
            exact ih (x1) (x2) ((x3 + (1 : Int32))) (s9) _ _ _ h hP hS (lv_sub hl [1, 2, 3, 0] rfl)
          · have h := zif_f h c11
            refine lv_iload_n hx hb dX7_judge_82 rfl (lv_at hl 3 rfl) ?_
            exact z_iret X hP hS hr hlocks h dX7_judge_83
        · have h := zif_t h c5
          refine lv_iload_n hx hb dX7_judge_50 rfl (lv_at hl 3 rfl) ?_
          exact z_iret X hP hS hr hlocks h dX7_judge_51
  have hl : lv_has ls 4 [(0, .ref (a 0)), (1, .int x1), (2, .int x2)] := hl
  refine lv_iload_n hx hb dX7_judge_0 rfl (lv_at hl 1 rfl) ?_
  obtain ⟨u1, s1, e1, h⟩ := zb_some h
  refine z_calli hS (z_runS (As := [.int x1]) (rest := []) X hG hA hE hP hS (kX7_isList (l := l) (D := D) (a := a) (cI := cI) (cJ := cJ) (cC := cC) e1 _) (va_cwS 1 hts gX7_judge_X7_isList rfl rfl rfl (by decide +kernel) ⟨Nat.le_of_ble_eq_true rfl, Nat.le_of_ble_eq_true rfl⟩) rfl hl.1 rfl (Nat.le_of_ble_eq_true rfl) dX7_judge_1) (fun H locs hP hS => ?_)
  refine lv_if_eq (tgt := 14) hx hb dX7_judge_4 (by decide) (fun c2 => ?_) (fun c2 => ?_)
  · have h := zif_t h c2
    refine lv_iconst (v := -1) hx hb dX7_judge_14 (by decide) ?_
    exact z_iret X hP hS hr hlocks h dX7_judge_15
  · have h := zif_f h c2
    refine lv_iload_n hx hb dX7_judge_7 rfl (lv_at hl 2 rfl) ?_
    obtain ⟨u3, s3, e3, h⟩ := zb_some h
    refine z_calli hS (z_runS (As := [.int x2]) (rest := []) X hG hA hE hP hS (kX7_isLamp (l := l) (D := D) (a := a) (cI := cI) (cJ := cJ) (cC := cC) e3 _) (va_cwS 1 hts gX7_judge_X7_isLamp rfl rfl rfl (by decide +kernel) ⟨Nat.le_of_ble_eq_true rfl, Nat.le_of_ble_eq_true rfl⟩) rfl hl.1 rfl (Nat.le_of_ble_eq_true rfl) dX7_judge_8) (fun H locs hP hS => ?_)
    refine lv_if_ne (tgt := 16) hx hb dX7_judge_11 (by decide) (fun c4 => ?_) (fun c4 => ?_)
    · have h := zif_f h c4
      refine lv_aload_n hx hb dX7_judge_16 rfl (lv_at hl 0 rfl) ?_
      refine z_get (C := RX7) (T := TX7) (N := 26) X inX7 hP 0 (by decide) (zcM_0 _ _ _ _ _ _) rfl 25 (by decide) rfl (by decide +kernel) rfl dX7_judge_17 ?_
      refine lv_iload_n hx hb dX7_judge_20 rfl (lv_at hl 1 rfl) ?_
      obtain ⟨g5, h⟩ := zg_some h
      refine z_iald X hP 16 0 (by decide) (zcM_16 _ _ _ _ _ _) rfl g5 dX7_judge_21 ?_
      refine lv_if_ge (tgt := 28) hx hb dX7_judge_22 (by decide) (fun c6 => ?_) (fun c6 => ?_)
      · have h := zif_t h c6
        refine lv_iconst (v := 0) hx hb dX7_judge_28 (by decide) ?_
        refine lv_istore_n (lv' := [(3, .int (0 : Int32)), (0, .ref (a 0)), (1, .int x1), (2, .int x2)]) hx hb dX7_judge_29 rfl hl (by decide) rfl (fun ls hl => ?_)
        exact w30  zN (x1) (x2) ((0 : Int32)) (s3) _ _ _ h hP hS (lv_sub hl [1, 2, 3, 0] rfl)
      · have h := zif_f h c6
        refine lv_bipush (v := -11) hx hb dX7_judge_25 (by decide) ?_
        exact z_iret X hP hS hr hlocks h dX7_judge_27
    · have h := zif_t h c4
      refine lv_iconst (v := -1) hx hb dX7_judge_14 (by decide) ?_
      exact z_iret X hP hS hr hlocks h dX7_judge_15
abbrev rmX7_change : Room := { frames := 3, cells := 0, slots := 0, locals := 70 }
set_option maxHeartbeats 4000000 in
set_option maxRecDepth 100000 in
theorem kX7_change {l : Launch} {D : va_G} {a : Nat → Nat} {cI cJ cC : ClassId} {x1 : Int32} {s τ : ZS} {r : Int32} (h : fX7_change x1 s = some (r, τ)) : zMi (zcM a cI cJ cC) 17 a D [(cI, .int), (cJ, .long), (cC, .char)] zEM l yX7_change wsX7_change rmX7_change [.ref (a 0), .int x1] s r τ := by
  refine z_start (cc := cX7_change) (maxL := 5) (ret := (some .int)) RX7 rfl (by decide) rfl (Nat.le_of_ble_eq_true rfl) ?_
  intro p e st m args below meth c ls H locs X hr hlocks hA hE hP hS hl
  obtain ⟨hx, hb, hml, hown, hts, -⟩ := id X
  have hG := zEM_good
  have inX7 : ∀ w ∈ u_ws RX7 TX7 26, w ∈ wsX7_change := by decide +kernel
  have w83 : ∀ (k25 : Int32 → Int32 → Int32 → ZS → Option (Int32 × ZS)) (hk25 : ∀ (x1 : Int32) (x2 : Int32) (x3 : Int32) (s : ZS) (H : Heap) (locs : List Loc) (ls : Array Slot), k25 x1 x2 x3 s = some (r, τ) → va_P D vwCl (zW (zcM a cI cJ cC) 17 a s) H → va_S (zF 17 a st.heap.size) st.heap H locs → lv_has ls 5 [(0, .ref (a 0)), (1, .int x1), (2, .int x2), (3, .int x3)] → W p l e rmX7_change st m args below meth c H locs 0 0 (MQ below (va_Qi (fun (r' : Int32) (τ' : ZS) => r' = r ∧ τ' = τ) (zPost (zcM a cI cJ cC) 17 a D [(cI, .int), (cJ, .long), (cC, .char)]) (zF 17 a st.heap.size)) args st 0 0 (zF 17 a st.heap.size)) (F0 m 25 ls [])) (x1 : Int32) (x3 : Int32) (t0 : Int32) (t1 : Int32) (s : ZS) (H : Heap) (locs : List Loc) (ls : Array Slot), fX7_change_83 k25 x1 x3 t0 t1 s = some (r, τ) → va_P D vwCl (zW (zcM a cI cJ cC) 17 a s) H → va_S (zF 17 a st.heap.size) st.heap H locs → lv_has ls 5 [(0, .ref (a 0)), (1, .int x1), (3, .int x3)] → W p l e rmX7_change st m args below meth c H locs 0 0 (MQ below (va_Qi (fun (r' : Int32) (τ' : ZS) => r' = r ∧ τ' = τ) (zPost (zcM a cI cJ cC) 17 a D [(cI, .int), (cJ, .long), (cC, .char)]) (zF 17 a st.heap.size)) args st 0 0 (zF 17 a st.heap.size)) (F0 m 83 ls [.int t1, .int t0]) := by
    intro k25 hk25 x1 x3 t0 t1 s H locs ls h hP hS hl
    refine lv_iadd hx hb dX7_change_83 ?_
    refine lv_istore_n (lv' := [(2, .int (t0 + t1)), (0, .ref (a 0)), (1, .int x1), (3, .int x3)]) hx hb dX7_change_84 rfl hl (by decide) rfl (fun ls hl => ?_)
    refine lv_iinc (v := (x3 + (3 : Int32))) (lv' := [(3, .int (x3 + (3 : Int32))), (2, .int (t0 + t1)), (0, .ref (a 0)), (1, .int x1)]) hx hb dX7_change_85 hl (k := 3) rfl rfl (by decide) rfl (fun ls hl => ?_)
    refine lv_goto (tgt := 25) hx hb dX7_change_88 (by decide) ?_
    exact hk25 (x1) ((t0 + t1)) ((x3 + (3 : Int32))) (s) _ _ _ h hP hS (lv_sub hl [2, 3, 1, 0] rfl)
  have w25 : ∀  (n : Nat) (x1 : Int32) (x2 : Int32) (x3 : Int32) (s : ZS) (H : Heap) (locs : List Loc) (ls : Array Slot), fX7_change_25n  n (x1, x2, x3, s) = some (r, τ) → va_P D vwCl (zW (zcM a cI cJ cC) 17 a s) H → va_S (zF 17 a st.heap.size) st.heap H locs → lv_has ls 5 [(0, .ref (a 0)), (1, .int x1), (2, .int x2), (3, .int x3)] → W p l e rmX7_change st m args below meth c H locs 0 0 (MQ below (va_Qi (fun (r' : Int32) (τ' : ZS) => r' = r ∧ τ' = τ) (zPost (zcM a cI cJ cC) 17 a D [(cI, .int), (cJ, .long), (cC, .char)]) (zF 17 a st.heap.size)) args st 0 0 (zF 17 a st.heap.size)) (F0 m 25 ls []) := by
    intro  n
    induction n with
    | zero => intro x1 x2 x3 s H locs ls h; exact zloop_0 h
    | succ n ih =>
      intro x1 x2 x3 s H locs ls h hP hS hl
      have h : fX7_change_25b  (fun x1 x2 x3 s => fX7_change_25n  n (x1, x2, x3, s)) x1 x2 x3 s = some (r, τ) := h
      refine lv_iload_n hx hb dX7_change_25 rfl (lv_at hl 3 rfl) ?_
      refine lv_iconst (v := 2) hx hb dX7_change_26 (by decide) ?_
      refine lv_iadd hx hb dX7_change_27 ?_
      refine lv_aload_n hx hb dX7_change_28 rfl (lv_at hl 0 rfl) ?_
      refine z_get (C := RX7) (T := TX7) (N := 26) X inX7 hP 0 (by decide) (zcM_0 _ _ _ _ _ _) rfl 25 (by decide) rfl (by decide +kernel) rfl dX7_change_29 ?_
      refine lv_iload_n hx hb dX7_change_32 rfl (lv_at hl 1 rfl) ?_
      obtain ⟨g1, h⟩ := zg_some h
      refine z_iald X hP 16 0 (by decide) (zcM_16 _ _ _ _ _ _) rfl g1 dX7_change_33 ?_
      refine lv_icmp_ge (tgt := 91) hx hb dX7_change_34 (by decide) (fun c2 => ?_) (fun c2 => ?_)
      · have h := zif_t h c2
        refine lv_iload_n hx hb dX7_change_91 rfl (lv_at hl 2 rfl) ?_
        exact z_iret X hP hS hr hlocks h dX7_change_92
      · have h := zif_f h c2
        refine lv_bipush (v := 18) hx hb dX7_change_37 (by decide) ?_
        refine lv_iload_n hx hb dX7_change_39 rfl (lv_at hl 1 rfl) ?_
        refine lv_imul hx hb dX7_change_40 ?_
        refine lv_iload_n hx hb dX7_change_41 rfl (lv_at hl 3 rfl) ?_
        refine lv_iadd hx hb dX7_change_42 ?_
        refine lv_istore (lv' := [(4, .int (((18 : Int32) * x1) + x3)), (0, .ref (a 0)), (1, .int x1), (2, .int x2), (3, .int x3)]) hx hb dX7_change_43 hl (by decide) rfl (fun ls hl => ?_)
        refine lv_iload_n hx hb dX7_change_45 rfl (lv_at hl 3 rfl) ?_
        refine lv_aload_n hx hb dX7_change_46 rfl (lv_at hl 1 rfl) ?_
        refine lv_aload_n hx hb dX7_change_47 rfl (lv_at hl 1 rfl) ?_
        refine z_get (C := RX7) (T := TX7) (N := 26) X inX7 hP 0 (by decide) (zcM_0 _ _ _ _ _ _) rfl 24 (by decide) rfl (by decide +kernel) rfl dX7_change_48 ?_
        refine lv_iload hx hb dX7_change_51 (lv_at hl 0 rfl) ?_
        obtain ⟨g3, h⟩ := zg_some h
        refine z_iald X hP 15 0 (by decide) (zcM_15 _ _ _ _ _ _) rfl g3 dX7_change_53 ?_
        refine lv_aload_n hx hb dX7_change_54 rfl (lv_at hl 1 rfl) ?_
        refine z_get (C := RX7) (T := TX7) (N := 26) X inX7 hP 0 (by decide) (zcM_0 _ _ _ _ _ _) rfl 24 (by decide) rfl (by decide +kernel) rfl dX7_change_55 ?_
        refine lv_iload hx hb dX7_change_58 (lv_at hl 0 rfl) ?_
        refine lv_iconst (v := 1) hx hb dX7_change_60 (by decide) ?_
        refine lv_iadd hx hb dX7_change_61 ?_
        obtain ⟨g4, h⟩ := zg_some h
        refine z_iald X hP 15 0 (by decide) (zcM_15 _ _ _ _ _ _) rfl g4 dX7_change_62 ?_
        refine lv_aload_n hx hb dX7_change_63 rfl (lv_at hl 1 rfl) ?_
        refine z_get (C := RX7) (T := TX7) (N := 26) X inX7 hP 0 (by decide) (zcM_0 _ _ _ _ _ _) rfl 24 (by decide) rfl (by decide +kernel) rfl dX7_change_64 ?_
        refine lv_iload hx hb dX7_change_67 (lv_at hl 0 rfl) ?_
        refine lv_iconst (v := 2) hx hb dX7_change_69 (by decide) ?_
        refine lv_iadd hx hb dX7_change_70 ?_
        obtain ⟨g5, h⟩ := zg_some h
        refine z_iald X hP 15 0 (by decide) (zcM_15 _ _ _ _ _ _) rfl g5 dX7_change_71 ?_
        obtain ⟨u6, s6, e6, h⟩ := zb_some h
        refine z_calli hS (z_runV (As := [.int ((s).1 15 ((((18 : Int32) * x1) + x3)).toNatClampNeg), .int ((s).1 15 (((((18 : Int32) * x1) + x3) + (1 : Int32))).toNatClampNeg), .int ((s).1 15 (((((18 : Int32) * x1) + x3) + (2 : Int32))).toNatClampNeg)]) (rest := [.int x2]) X hG hA hE hP hS 0 (kX7_number (l := l) (D := D) (a := a) (cI := cI) (cJ := cJ) (cC := cC) e6 _) (cwV 3 hts gX7_change_X7_number rfl rfl rfl (by decide +kernel) ⟨Nat.le_of_ble_eq_true rfl, Nat.le_of_ble_eq_true rfl⟩) (by decide) (zcM_0 _ _ _ _ _ _) rfl rfl rfl hl.1 rfl (Nat.le_of_ble_eq_true rfl) dX7_change_72) (fun H locs hP hS => ?_)
        refine lv_if_lt (tgt := 82) hx hb dX7_change_75 (by decide) (fun c7 => ?_) (fun c7 => ?_)
        · have h := zif_t h c7
          refine lv_iconst (v := 0) hx hb dX7_change_82 (by decide) ?_
          exact w83 (fun x1 x2 x3 s => fX7_change_25n  n (x1, x2, x3, s)) (fun x1 x2 x3 s H locs ls h hP hS hl => ih x1 x2 x3 s H locs ls h hP hS hl)  (x1) (x3) (x2) ((0 : Int32)) (s6) _ _ _ h hP hS (lv_sub hl [1, 2, 4] rfl)
        · have h := zif_f h c7
          refine lv_iconst (v := 1) hx hb dX7_change_78 (by decide) ?_
          refine lv_goto (tgt := 83) hx hb dX7_change_79 (by decide) ?_
          exact w83 (fun x1 x2 x3 s => fX7_change_25n  n (x1, x2, x3, s)) (fun x1 x2 x3 s H locs ls h hP hS hl => ih x1 x2 x3 s H locs ls h hP hS hl)  (x1) (x3) (x2) ((1 : Int32)) (s6) _ _ _ h hP hS (lv_sub hl [1, 2, 4] rfl)
  have hl : lv_has ls 5 [(0, .ref (a 0)), (1, .int x1)] := hl
  refine lv_iload_n hx hb dX7_change_0 rfl (lv_at hl 1 rfl) ?_
  obtain ⟨u1, s1, e1, h⟩ := zb_some h
  refine z_calli hS (z_runS (As := [.int x1]) (rest := []) X hG hA hE hP hS (kX7_isList (l := l) (D := D) (a := a) (cI := cI) (cJ := cJ) (cC := cC) e1 _) (va_cwS 1 hts gX7_change_X7_isList rfl rfl rfl (by decide +kernel) ⟨Nat.le_of_ble_eq_true rfl, Nat.le_of_ble_eq_true rfl⟩) rfl hl.1 rfl (Nat.le_of_ble_eq_true rfl) dX7_change_1) (fun H locs hP hS => ?_)
  refine lv_if_ne (tgt := 9) hx hb dX7_change_4 (by decide) (fun c2 => ?_) (fun c2 => ?_)
  · have h := zif_f h c2
    refine lv_aload_n hx hb dX7_change_9 rfl (lv_at hl 0 rfl) ?_
    refine z_get (C := RX7) (T := TX7) (N := 26) X inX7 hP 0 (by decide) (zcM_0 _ _ _ _ _ _) rfl 25 (by decide) rfl (by decide +kernel) rfl dX7_change_10 ?_
    refine lv_iload_n hx hb dX7_change_13 rfl (lv_at hl 1 rfl) ?_
    obtain ⟨g3, h⟩ := zg_some h
    refine z_iald X hP 16 0 (by decide) (zcM_16 _ _ _ _ _ _) rfl g3 dX7_change_14 ?_
    refine lv_if_ge (tgt := 21) hx hb dX7_change_15 (by decide) (fun c4 => ?_) (fun c4 => ?_)
    · have h := zif_t h c4
      refine lv_iconst (v := 0) hx hb dX7_change_21 (by decide) ?_
      refine lv_istore_n (lv' := [(2, .int (0 : Int32)), (0, .ref (a 0)), (1, .int x1)]) hx hb dX7_change_22 rfl hl (by decide) rfl (fun ls hl => ?_)
      refine lv_iconst (v := 0) hx hb dX7_change_23 (by decide) ?_
      refine lv_istore_n (lv' := [(3, .int (0 : Int32)), (2, .int (0 : Int32)), (0, .ref (a 0)), (1, .int x1)]) hx hb dX7_change_24 rfl hl (by decide) rfl (fun ls hl => ?_)
      exact w25  zN (x1) ((0 : Int32)) ((0 : Int32)) (s1) _ _ _ h hP hS (lv_sub hl [2, 3, 1, 0] rfl)
    · have h := zif_f h c4
      refine lv_bipush (v := -11) hx hb dX7_change_18 (by decide) ?_
      exact z_iret X hP hS hr hlocks h dX7_change_20
  · have h := zif_t h c2
    refine lv_iconst (v := -1) hx hb dX7_change_7 (by decide) ?_
    exact z_iret X hP hS hr hlocks h dX7_change_8
abbrev rmX7_list : Room := { frames := 2, cells := 0, slots := 0, locals := 45 }
set_option maxHeartbeats 4000000 in
set_option maxRecDepth 100000 in
theorem kX7_list {l : Launch} {D : va_G} {a : Nat → Nat} {cI cJ cC : ClassId} {x1 : Int32} {x2 : Int32} {s τ : ZS} {r : Int32} (h : fX7_list x1 x2 s = some (r, τ)) : zMi (zcM a cI cJ cC) 17 a D [(cI, .int), (cJ, .long), (cC, .char)] zEM l yX7_list wsX7_list rmX7_list [.ref (a 0), .int x1, .int x2] s r τ := by
  refine z_start (cc := cX7_list) (maxL := 4) (ret := (some .int)) RX7 rfl (by decide) rfl (Nat.le_of_ble_eq_true rfl) ?_
  intro p e st m args below meth c ls H locs X hr hlocks hA hE hP hS hl
  obtain ⟨hx, hb, hml, hown, hts, -⟩ := id X
  have hG := zEM_good
  have inX7 : ∀ w ∈ u_ws RX7 TX7 26, w ∈ wsX7_list := by decide +kernel
  have w34 : ∀  (n : Nat) (x1 : Int32) (x3 : Int32) (s : ZS) (H : Heap) (locs : List Loc) (ls : Array Slot), fX7_list_34n  n (x1, x3, s) = some (r, τ) → va_P D vwCl (zW (zcM a cI cJ cC) 17 a s) H → va_S (zF 17 a st.heap.size) st.heap H locs → lv_has ls 4 [(0, .ref (a 0)), (1, .int x1), (3, .int x3)] → W p l e rmX7_list st m args below meth c H locs 0 0 (MQ below (va_Qi (fun (r' : Int32) (τ' : ZS) => r' = r ∧ τ' = τ) (zPost (zcM a cI cJ cC) 17 a D [(cI, .int), (cJ, .long), (cC, .char)]) (zF 17 a st.heap.size)) args st 0 0 (zF 17 a st.heap.size)) (F0 m 34 ls []) := by
    intro  n
    induction n with
    | zero => intro x1 x3 s H locs ls h; exact zloop_0 h
    | succ n ih =>
      intro x1 x3 s H locs ls h hP hS hl
      have h : fX7_list_34b  (fun x1 x3 s => fX7_list_34n  n (x1, x3, s)) x1 x3 s = some (r, τ) := h
      refine lv_iload_n hx hb dX7_list_34 rfl (lv_at hl 2 rfl) ?_
      refine lv_bipush (v := 18) hx hb dX7_list_35 (by decide) ?_
      refine lv_icmp_ge (tgt := 58) hx hb dX7_list_37 (by decide) (fun c1 => ?_) (fun c1 => ?_)
      · have h := zif_t h c1
        refine lv_iconst (v := 1) hx hb dX7_list_58 (by decide) ?_
        exact z_iret X hP hS hr hlocks h dX7_list_59
      · have h := zif_f h c1
        refine lv_aload_n hx hb dX7_list_40 rfl (lv_at hl 0 rfl) ?_
        refine z_get (C := RX7) (T := TX7) (N := 26) X inX7 hP 0 (by decide) (zcM_0 _ _ _ _ _ _) rfl 24 (by decide) rfl (by decide +kernel) rfl dX7_list_41 ?_
        refine lv_bipush (v := 18) hx hb dX7_list_44 (by decide) ?_
        refine lv_iload_n hx hb dX7_list_46 rfl (lv_at hl 1 rfl) ?_
        refine lv_imul hx hb dX7_list_47 ?_
        refine lv_iload_n hx hb dX7_list_48 rfl (lv_at hl 2 rfl) ?_
        refine lv_iadd hx hb dX7_list_49 ?_
        refine lv_iconst (v := 0) hx hb dX7_list_50 (by decide) ?_
        obtain ⟨g2, h⟩ := zg_some h
        refine z_iast X hA hP hS 15 0 (by decide) (zcM_15 _ _ _ _) rfl g2 dX7_list_51 (fun H locs hP hS => ?_)
        refine lv_iinc (v := (x3 + (1 : Int32))) (lv' := [(3, .int (x3 + (1 : Int32))), (0, .ref (a 0)), (1, .int x1)]) hx hb dX7_list_52 hl (k := 2) rfl rfl (by decide) rfl (fun ls hl => ?_)
        refine lv_goto (tgt := 34) hx hb dX7_list_55 (by decide) ?_
        exact ih (x1) ((x3 + (1 : Int32))) ((zI s 15 ((((18 : Int32) * x1) + x3)).toNatClampNeg (0 : Int32))) _ _ _ h hP hS (lv_sub hl [1, 2, 0] rfl)
  have hl : lv_has ls 4 [(0, .ref (a 0)), (1, .int x1), (2, .int x2)] := hl
  refine lv_iload_n hx hb dX7_list_0 rfl (lv_at hl 1 rfl) ?_
  obtain ⟨u1, s1, e1, h⟩ := zb_some h
  refine z_calli hS (z_runS (As := [.int x1]) (rest := []) X hG hA hE hP hS (kX7_isList (l := l) (D := D) (a := a) (cI := cI) (cJ := cJ) (cC := cC) e1 _) (va_cwS 1 hts gX7_list_X7_isList rfl rfl rfl (by decide +kernel) ⟨Nat.le_of_ble_eq_true rfl, Nat.le_of_ble_eq_true rfl⟩) rfl hl.1 rfl (Nat.le_of_ble_eq_true rfl) dX7_list_1) (fun H locs hP hS => ?_)
  refine lv_if_ne (tgt := 9) hx hb dX7_list_4 (by decide) (fun c2 => ?_) (fun c2 => ?_)
  · have h := zif_f h c2
    refine lv_iload_n hx hb dX7_list_9 rfl (lv_at hl 2 rfl) ?_
    refine lv_bipush (v := 18) hx hb dX7_list_10 (by decide) ?_
    refine lv_icmp_le (tgt := 18) hx hb dX7_list_12 (by decide) (fun c3 => ?_) (fun c3 => ?_)
    · have h := zif_t h c3
      refine lv_iload_n hx hb dX7_list_18 rfl (lv_at hl 2 rfl) ?_
      refine lv_if_ge (tgt := 25) hx hb dX7_list_19 (by decide) (fun c4 => ?_) (fun c4 => ?_)
      · have h := zif_t h c4
        refine lv_aload_n hx hb dX7_list_25 rfl (lv_at hl 0 rfl) ?_
        refine z_get (C := RX7) (T := TX7) (N := 26) X inX7 hP 0 (by decide) (zcM_0 _ _ _ _ _ _) rfl 25 (by decide) rfl (by decide +kernel) rfl dX7_list_26 ?_
        refine lv_iload_n hx hb dX7_list_29 rfl (lv_at hl 1 rfl) ?_
        refine lv_iload_n hx hb dX7_list_30 rfl (lv_at hl 2 rfl) ?_
        obtain ⟨g5, h⟩ := zg_some h
        refine z_iast X hA hP hS 16 0 (by decide) (zcM_16 _ _ _ _) rfl g5 dX7_list_31 (fun H locs hP hS => ?_)
        refine lv_iconst (v := 0) hx hb dX7_list_32 (by decide) ?_
        refine lv_istore_n (lv' := [(3, .int (0 : Int32)), (0, .ref (a 0)), (1, .int x1), (2, .int x2)]) hx hb dX7_list_33 rfl hl (by decide) rfl (fun ls hl => ?_)
        exact w34  zN (x1) ((0 : Int32)) ((zI s1 16 (x1).toNatClampNeg x2)) _ _ _ h hP hS (lv_sub hl [1, 2, 0] rfl)
      · have h := zif_f h c4
        refine lv_bipush (v := -14) hx hb dX7_list_22 (by decide) ?_
        exact z_iret X hP hS hr hlocks h dX7_list_24
    · have h := zif_f h c3
      refine lv_bipush (v := -2) hx hb dX7_list_15 (by decide) ?_
      exact z_iret X hP hS hr hlocks h dX7_list_17
  · have h := zif_t h c2
    refine lv_iconst (v := -1) hx hb dX7_list_7 (by decide) ?_
    exact z_iret X hP hS hr hlocks h dX7_list_8
abbrev rmX7_put : Room := { frames := 2, cells := 0, slots := 0, locals := 45 }
set_option maxHeartbeats 4000000 in
set_option maxRecDepth 100000 in
theorem kX7_put {l : Launch} {D : va_G} {a : Nat → Nat} {cI cJ cC : ClassId} {x1 : Int32} {x2 : Int32} {x3 : Int32} {s τ : ZS} {r : Int32} (h : fX7_put x1 x2 x3 s = some (r, τ)) : zMi (zcM a cI cJ cC) 17 a D [(cI, .int), (cJ, .long), (cC, .char)] zEM l yX7_put wsX7_put rmX7_put [.ref (a 0), .int x1, .int x2, .int x3] s r τ := by
  refine z_start (cc := cX7_put) (maxL := 4) (ret := (some .int)) RX7 rfl (by decide) rfl (Nat.le_of_ble_eq_true rfl) ?_
  intro p e st m args below meth c ls H locs X hr hlocks hA hE hP hS hl
  obtain ⟨hx, hb, hml, hown, hts, -⟩ := id X
  have hG := zEM_good
  have inX7 : ∀ w ∈ u_ws RX7 TX7 26, w ∈ wsX7_put := by decide +kernel
  have hl : lv_has ls 4 [(0, .ref (a 0)), (1, .int x1), (2, .int x2), (3, .int x3)] := hl
  refine lv_iload_n hx hb dX7_put_0 rfl (lv_at hl 1 rfl) ?_
  obtain ⟨u1, s1, e1, h⟩ := zb_some h
  refine z_calli hS (z_runS (As := [.int x1]) (rest := []) X hG hA hE hP hS (kX7_isList (l := l) (D := D) (a := a) (cI := cI) (cJ := cJ) (cC := cC) e1 _) (va_cwS 1 hts gX7_put_X7_isList rfl rfl rfl (by decide +kernel) ⟨Nat.le_of_ble_eq_true rfl, Nat.le_of_ble_eq_true rfl⟩) rfl hl.1 rfl (Nat.le_of_ble_eq_true rfl) dX7_put_1) (fun H locs hP hS => ?_)
  refine lv_if_ne (tgt := 9) hx hb dX7_put_4 (by decide) (fun c2 => ?_) (fun c2 => ?_)
  · have h := zif_f h c2
    refine lv_aload_n hx hb dX7_put_9 rfl (lv_at hl 0 rfl) ?_
    refine z_get (C := RX7) (T := TX7) (N := 26) X inX7 hP 0 (by decide) (zcM_0 _ _ _ _ _ _) rfl 25 (by decide) rfl (by decide +kernel) rfl dX7_put_10 ?_
    refine lv_iload_n hx hb dX7_put_13 rfl (lv_at hl 1 rfl) ?_
    obtain ⟨g3, h⟩ := zg_some h
    refine z_iald X hP 16 0 (by decide) (zcM_16 _ _ _ _ _ _) rfl g3 dX7_put_14 ?_
    refine lv_if_ge (tgt := 21) hx hb dX7_put_15 (by decide) (fun c4 => ?_) (fun c4 => ?_)
    · have h := zif_t h c4
      refine lv_iload_n hx hb dX7_put_21 rfl (lv_at hl 2 rfl) ?_
      refine lv_i2l hx hb dX7_put_22 rfl ?_
      refine lv_lconst (v := 0) hx hb dX7_put_23 (by decide) ?_
      refine lv_aload_n hx hb dX7_put_24 rfl (lv_at hl 0 rfl) ?_
      refine z_get (C := RX7) (T := TX7) (N := 26) X inX7 hP 0 (by decide) (zcM_0 _ _ _ _ _ _) rfl 25 (by decide) rfl (by decide +kernel) rfl dX7_put_25 ?_
      refine lv_iload_n hx hb dX7_put_28 rfl (lv_at hl 1 rfl) ?_
      obtain ⟨g5, h⟩ := zg_some h
      refine z_iald X hP 16 0 (by decide) (zcM_16 _ _ _ _ _ _) rfl g5 dX7_put_29 ?_
      refine lv_iconst (v := 1) hx hb dX7_put_30 (by decide) ?_
      refine lv_isub hx hb dX7_put_31 ?_
      refine lv_i2l hx hb dX7_put_32 rfl ?_
      obtain ⟨u6, s6, e6, h⟩ := zb_some h
      refine z_calli hS (z_runS (As := [.long (x2).toInt64, .long (0 : Int64), .long ((((s1).1 16 (x1).toNatClampNeg) - (1 : Int32))).toInt64]) (rest := []) X hG hA hE hP hS (kX7_isIn (l := l) (D := D) (a := a) (cI := cI) (cJ := cJ) (cC := cC) e6 _) (va_cwS 3 hts gX7_put_X7_isIn rfl rfl rfl (by decide +kernel) ⟨Nat.le_of_ble_eq_true rfl, Nat.le_of_ble_eq_true rfl⟩) rfl hl.1 rfl (Nat.le_of_ble_eq_true rfl) dX7_put_33) (fun H locs hP hS => ?_)
      refine lv_if_ne (tgt := 42) hx hb dX7_put_36 (by decide) (fun c7 => ?_) (fun c7 => ?_)
      · have h := zif_f h c7
        refine lv_aload_n hx hb dX7_put_42 rfl (lv_at hl 0 rfl) ?_
        refine z_get (C := RX7) (T := TX7) (N := 26) X inX7 hP 0 (by decide) (zcM_0 _ _ _ _ _ _) rfl 24 (by decide) rfl (by decide +kernel) rfl dX7_put_43 ?_
        refine lv_bipush (v := 18) hx hb dX7_put_46 (by decide) ?_
        refine lv_iload_n hx hb dX7_put_48 rfl (lv_at hl 1 rfl) ?_
        refine lv_imul hx hb dX7_put_49 ?_
        refine lv_iload_n hx hb dX7_put_50 rfl (lv_at hl 2 rfl) ?_
        refine lv_iadd hx hb dX7_put_51 ?_
        refine lv_iload_n hx hb dX7_put_52 rfl (lv_at hl 3 rfl) ?_
        obtain ⟨g8, h⟩ := zg_some h
        refine z_iast X hA hP hS 15 0 (by decide) (zcM_15 _ _ _ _) rfl g8 dX7_put_53 (fun H locs hP hS => ?_)
        refine lv_iconst (v := 1) hx hb dX7_put_54 (by decide) ?_
        exact z_iret X hP hS hr hlocks h dX7_put_55
      · have h := zif_t h c7
        refine lv_bipush (v := -13) hx hb dX7_put_39 (by decide) ?_
        exact z_iret X hP hS hr hlocks h dX7_put_41
    · have h := zif_f h c4
      refine lv_bipush (v := -11) hx hb dX7_put_18 (by decide) ?_
      exact z_iret X hP hS hr hlocks h dX7_put_20
  · have h := zif_t h c2
    refine lv_iconst (v := -1) hx hb dX7_put_7 (by decide) ?_
    exact z_iret X hP hS hr hlocks h dX7_put_8
abbrev rmX7_get : Room := { frames := 2, cells := 0, slots := 0, locals := 45 }
set_option maxHeartbeats 4000000 in
set_option maxRecDepth 100000 in
theorem kX7_get {l : Launch} {D : va_G} {a : Nat → Nat} {cI cJ cC : ClassId} {x1 : Int32} {x2 : Int32} {s τ : ZS} {r : Int64} (h : fX7_get x1 x2 s = some (r, τ)) : zMl (zcM a cI cJ cC) 17 a D [(cI, .int), (cJ, .long), (cC, .char)] zEM l yX7_get wsX7_get rmX7_get [.ref (a 0), .int x1, .int x2] s r τ := by
  refine z_start (cc := cX7_get) (maxL := 3) (ret := (some .long)) RX7 rfl (by decide) rfl (Nat.le_of_ble_eq_true rfl) ?_
  intro p e st m args below meth c ls H locs X hr hlocks hA hE hP hS hl
  obtain ⟨hx, hb, hml, hown, hts, -⟩ := id X
  have hG := zEM_good
  have inX7 : ∀ w ∈ u_ws RX7 TX7 26, w ∈ wsX7_get := by decide +kernel
  have hl : lv_has ls 3 [(0, .ref (a 0)), (1, .int x1), (2, .int x2)] := hl
  refine lv_iload_n hx hb dX7_get_0 rfl (lv_at hl 1 rfl) ?_
  obtain ⟨u1, s1, e1, h⟩ := zb_some h
  refine z_calli hS (z_runS (As := [.int x1]) (rest := []) X hG hA hE hP hS (kX7_isList (l := l) (D := D) (a := a) (cI := cI) (cJ := cJ) (cC := cC) e1 _) (va_cwS 1 hts gX7_get_X7_isList rfl rfl rfl (by decide +kernel) ⟨Nat.le_of_ble_eq_true rfl, Nat.le_of_ble_eq_true rfl⟩) rfl hl.1 rfl (Nat.le_of_ble_eq_true rfl) dX7_get_1) (fun H locs hP hS => ?_)
  refine lv_if_eq (tgt := 40) hx hb dX7_get_4 (by decide) (fun c2 => ?_) (fun c2 => ?_)
  · have h := zif_t h c2
    refine lv_ldc2 (own := RX7) (index := 181) (v := -9223372036854775808) hx hb hown (hts _ (by decide +kernel)) dX7_get_40 ?_
    exact z_lret X hP hS hr hlocks h dX7_get_43
  · have h := zif_f h c2
    refine lv_iload_n hx hb dX7_get_7 rfl (lv_at hl 2 rfl) ?_
    refine lv_i2l hx hb dX7_get_8 rfl ?_
    refine lv_lconst (v := 0) hx hb dX7_get_9 (by decide) ?_
    refine lv_aload_n hx hb dX7_get_10 rfl (lv_at hl 0 rfl) ?_
    refine z_get (C := RX7) (T := TX7) (N := 26) X inX7 hP 0 (by decide) (zcM_0 _ _ _ _ _ _) rfl 25 (by decide) rfl (by decide +kernel) rfl dX7_get_11 ?_
    refine lv_iload_n hx hb dX7_get_14 rfl (lv_at hl 1 rfl) ?_
    obtain ⟨g3, h⟩ := zg_some h
    refine z_iald X hP 16 0 (by decide) (zcM_16 _ _ _ _ _ _) rfl g3 dX7_get_15 ?_
    refine lv_iconst (v := 1) hx hb dX7_get_16 (by decide) ?_
    refine lv_isub hx hb dX7_get_17 ?_
    refine lv_i2l hx hb dX7_get_18 rfl ?_
    obtain ⟨u4, s4, e4, h⟩ := zb_some h
    refine z_calli hS (z_runS (As := [.long (x2).toInt64, .long (0 : Int64), .long ((((s1).1 16 (x1).toNatClampNeg) - (1 : Int32))).toInt64]) (rest := []) X hG hA hE hP hS (kX7_isIn (l := l) (D := D) (a := a) (cI := cI) (cJ := cJ) (cC := cC) e4 _) (va_cwS 3 hts gX7_get_X7_isIn rfl rfl rfl (by decide +kernel) ⟨Nat.le_of_ble_eq_true rfl, Nat.le_of_ble_eq_true rfl⟩) rfl hl.1 rfl (Nat.le_of_ble_eq_true rfl) dX7_get_19) (fun H locs hP hS => ?_)
    refine lv_if_eq (tgt := 40) hx hb dX7_get_22 (by decide) (fun c5 => ?_) (fun c5 => ?_)
    · have h := zif_t h c5
      refine lv_ldc2 (own := RX7) (index := 181) (v := -9223372036854775808) hx hb hown (hts _ (by decide +kernel)) dX7_get_40 ?_
      exact z_lret X hP hS hr hlocks h dX7_get_43
    · have h := zif_f h c5
      refine lv_aload_n hx hb dX7_get_25 rfl (lv_at hl 0 rfl) ?_
      refine z_get (C := RX7) (T := TX7) (N := 26) X inX7 hP 0 (by decide) (zcM_0 _ _ _ _ _ _) rfl 24 (by decide) rfl (by decide +kernel) rfl dX7_get_26 ?_
      refine lv_bipush (v := 18) hx hb dX7_get_29 (by decide) ?_
      refine lv_iload_n hx hb dX7_get_31 rfl (lv_at hl 1 rfl) ?_
      refine lv_imul hx hb dX7_get_32 ?_
      refine lv_iload_n hx hb dX7_get_33 rfl (lv_at hl 2 rfl) ?_
      refine lv_iadd hx hb dX7_get_34 ?_
      obtain ⟨g6, h⟩ := zg_some h
      refine z_iald X hP 15 0 (by decide) (zcM_15 _ _ _ _ _ _) rfl g6 dX7_get_35 ?_
      refine lv_i2l hx hb dX7_get_36 rfl ?_
      refine lv_goto (tgt := 43) hx hb dX7_get_37 (by decide) ?_
      exact z_lret X hP hS hr hlocks h dX7_get_43
abbrev rmX7_image : Room := { frames := 0, cells := 0, slots := 0, locals := 0 }
set_option maxHeartbeats 4000000 in
set_option maxRecDepth 100000 in
theorem kX7_image {l : Launch} {D : va_G} {a : Nat → Nat} {cI cJ cC : ClassId}  {s τ : ZS} {r : Int32} (h : fX7_image  s = some (r, τ)) : zMi (zcM a cI cJ cC) 17 a D [(cI, .int), (cJ, .long), (cC, .char)] zEM l yX7_image wsX7_image rmX7_image [.ref (a 0)] s r τ := by
  refine z_start (cc := cX7_image) (maxL := 2) (ret := (some .int)) RX7 rfl (by decide) rfl (Nat.le_of_ble_eq_true rfl) ?_
  intro p e st m args below meth c ls H locs X hr hlocks hA hE hP hS hl
  obtain ⟨hx, hb, hml, hown, hts, -⟩ := id X
  have hG := zEM_good
  have inX7 : ∀ w ∈ u_ws RX7 TX7 26, w ∈ wsX7_image := by decide +kernel
  have w2 : ∀  (n : Nat) (x1 : Int32) (s : ZS) (H : Heap) (locs : List Loc) (ls : Array Slot), fX7_image_2n  n (x1, s) = some (r, τ) → va_P D vwCl (zW (zcM a cI cJ cC) 17 a s) H → va_S (zF 17 a st.heap.size) st.heap H locs → lv_has ls 2 [(0, .ref (a 0)), (1, .int x1)] → W p l e rmX7_image st m args below meth c H locs 0 0 (MQ below (va_Qi (fun (r' : Int32) (τ' : ZS) => r' = r ∧ τ' = τ) (zPost (zcM a cI cJ cC) 17 a D [(cI, .int), (cJ, .long), (cC, .char)]) (zF 17 a st.heap.size)) args st 0 0 (zF 17 a st.heap.size)) (F0 m 2 ls []) := by
    intro  n
    induction n with
    | zero => intro x1 s H locs ls h; exact zloop_0 h
    | succ n ih =>
      intro x1 s H locs ls h hP hS hl
      have h : fX7_image_2b  (fun x1 s => fX7_image_2n  n (x1, s)) x1 s = some (r, τ) := h
      refine lv_iload_n hx hb dX7_image_2 rfl (lv_at hl 1 rfl) ?_
      refine lv_sipush (v := 133) hx hb dX7_image_3 (by decide) ?_
      refine lv_icmp_ge (tgt := 27) hx hb dX7_image_6 (by decide) (fun c1 => ?_) (fun c1 => ?_)
      · have h := zif_t h c1
        refine lv_aload_n hx hb dX7_image_27 rfl (lv_at hl 0 rfl) ?_
        refine lv_iconst (v := 1) hx hb dX7_image_28 (by decide) ?_
        refine z_put (ty := .boolean) (x := (1 : Int32)) (C := RX7) (T := TX7) (N := 26) X inX7 tyX7 tyX7_ok nmX7 hA hP hS 0 (by decide) (zcM_0 _ _ _ _ _ _) rfl 2 (by decide) rfl (by decide +kernel) rfl (by decide +kernel) (by decide) (by decide) (Nat.le_of_ble_eq_true rfl) rfl dX7_image_29 (fun H locs hP hS => ?_)
        refine lv_aload_n hx hb dX7_image_32 rfl (lv_at hl 0 rfl) ?_
        refine z_get (C := RX7) (T := TX7) (N := 26) X inX7 hP 0 (by decide) (zcM_0 _ _ _ _ _ _) rfl 0 (by decide) rfl (by decide +kernel) rfl dX7_image_33 ?_
        refine lv_iconst (v := 0) hx hb dX7_image_36 (by decide) ?_
        obtain ⟨g2, h⟩ := zg_some h
        refine z_iald X hP 1 0 (by decide) (zcM_1 _ _ _ _ _ _) rfl g2 dX7_image_37 ?_
        exact z_iret X hP hS hr hlocks h dX7_image_38
      · have h := zif_f h c1
        refine lv_aload_n hx hb dX7_image_9 rfl (lv_at hl 0 rfl) ?_
        refine z_get (C := RX7) (T := TX7) (N := 26) X inX7 hP 0 (by decide) (zcM_0 _ _ _ _ _ _) rfl 1 (by decide) rfl (by decide +kernel) rfl dX7_image_10 ?_
        refine lv_iload_n hx hb dX7_image_13 rfl (lv_at hl 1 rfl) ?_
        refine lv_aload_n hx hb dX7_image_14 rfl (lv_at hl 0 rfl) ?_
        refine z_get (C := RX7) (T := TX7) (N := 26) X inX7 hP 0 (by decide) (zcM_0 _ _ _ _ _ _) rfl 0 (by decide) rfl (by decide +kernel) rfl dX7_image_15 ?_
        refine lv_iload_n hx hb dX7_image_18 rfl (lv_at hl 1 rfl) ?_
        obtain ⟨g3, h⟩ := zg_some h
        refine z_iald X hP 1 0 (by decide) (zcM_1 _ _ _ _ _ _) rfl g3 dX7_image_19 ?_
        obtain ⟨g4, h⟩ := zg_some h
        refine z_iast X hA hP hS 2 0 (by decide) (zcM_2 _ _ _ _) rfl g4 dX7_image_20 (fun H locs hP hS => ?_)
        refine lv_iinc (v := (x1 + (1 : Int32))) (lv' := [(1, .int (x1 + (1 : Int32))), (0, .ref (a 0))]) hx hb dX7_image_21 hl (k := 1) rfl rfl (by decide) rfl (fun ls hl => ?_)
        refine lv_goto (tgt := 2) hx hb dX7_image_24 (by decide) ?_
        exact ih ((x1 + (1 : Int32))) ((zI s 2 (x1).toNatClampNeg ((s).1 1 (x1).toNatClampNeg))) _ _ _ h hP hS (lv_sub hl [1, 0] rfl)
  have hl : lv_has ls 2 [(0, .ref (a 0))] := hl
  refine lv_iconst (v := 0) hx hb dX7_image_0 (by decide) ?_
  refine lv_istore_n (lv' := [(1, .int (0 : Int32)), (0, .ref (a 0))]) hx hb dX7_image_1 rfl hl (by decide) rfl (fun ls hl => ?_)
  exact w2  zN ((0 : Int32)) (s) _ _ _ h hP hS (lv_sub hl [1, 0] rfl)
abbrev rmX7_undo : Room := { frames := 0, cells := 0, slots := 0, locals := 0 }
set_option maxHeartbeats 4000000 in
set_option maxRecDepth 100000 in
theorem kX7_undo {l : Launch} {D : va_G} {a : Nat → Nat} {cI cJ cC : ClassId}  {s τ : ZS} {r : Int32} (h : fX7_undo  s = some (r, τ)) : zMi (zcM a cI cJ cC) 17 a D [(cI, .int), (cJ, .long), (cC, .char)] zEM l yX7_undo wsX7_undo rmX7_undo [.ref (a 0)] s r τ := by
  refine z_start (cc := cX7_undo) (maxL := 2) (ret := (some .int)) RX7 rfl (by decide) rfl (Nat.le_of_ble_eq_true rfl) ?_
  intro p e st m args below meth c ls H locs X hr hlocks hA hE hP hS hl
  obtain ⟨hx, hb, hml, hown, hts, -⟩ := id X
  have hG := zEM_good
  have inX7 : ∀ w ∈ u_ws RX7 TX7 26, w ∈ wsX7_undo := by decide +kernel
  have w12 : ∀  (n : Nat) (x1 : Int32) (s : ZS) (H : Heap) (locs : List Loc) (ls : Array Slot), fX7_undo_12n  n (x1, s) = some (r, τ) → va_P D vwCl (zW (zcM a cI cJ cC) 17 a s) H → va_S (zF 17 a st.heap.size) st.heap H locs → lv_has ls 2 [(0, .ref (a 0)), (1, .int x1)] → W p l e rmX7_undo st m args below meth c H locs 0 0 (MQ below (va_Qi (fun (r' : Int32) (τ' : ZS) => r' = r ∧ τ' = τ) (zPost (zcM a cI cJ cC) 17 a D [(cI, .int), (cJ, .long), (cC, .char)]) (zF 17 a st.heap.size)) args st 0 0 (zF 17 a st.heap.size)) (F0 m 12 ls []) := by
    intro  n
    induction n with
    | zero => intro x1 s H locs ls h; exact zloop_0 h
    | succ n ih =>
      intro x1 s H locs ls h hP hS hl
      have h : fX7_undo_12b  (fun x1 s => fX7_undo_12n  n (x1, s)) x1 s = some (r, τ) := h
      refine lv_iload_n hx hb dX7_undo_12 rfl (lv_at hl 1 rfl) ?_
      refine lv_sipush (v := 133) hx hb dX7_undo_13 (by decide) ?_
      refine lv_icmp_ge (tgt := 37) hx hb dX7_undo_16 (by decide) (fun c1 => ?_) (fun c1 => ?_)
      · have h := zif_t h c1
        refine lv_aload_n hx hb dX7_undo_37 rfl (lv_at hl 0 rfl) ?_
        refine z_get (C := RX7) (T := TX7) (N := 26) X inX7 hP 0 (by decide) (zcM_0 _ _ _ _ _ _) rfl 0 (by decide) rfl (by decide +kernel) rfl dX7_undo_38 ?_
        refine lv_iconst (v := 0) hx hb dX7_undo_41 (by decide) ?_
        obtain ⟨g2, h⟩ := zg_some h
        refine z_iald X hP 1 0 (by decide) (zcM_1 _ _ _ _ _ _) rfl g2 dX7_undo_42 ?_
        exact z_iret X hP hS hr hlocks h dX7_undo_43
      · have h := zif_f h c1
        refine lv_aload_n hx hb dX7_undo_19 rfl (lv_at hl 0 rfl) ?_
        refine z_get (C := RX7) (T := TX7) (N := 26) X inX7 hP 0 (by decide) (zcM_0 _ _ _ _ _ _) rfl 0 (by decide) rfl (by decide +kernel) rfl dX7_undo_20 ?_
        refine lv_iload_n hx hb dX7_undo_23 rfl (lv_at hl 1 rfl) ?_
        refine lv_aload_n hx hb dX7_undo_24 rfl (lv_at hl 0 rfl) ?_
        refine z_get (C := RX7) (T := TX7) (N := 26) X inX7 hP 0 (by decide) (zcM_0 _ _ _ _ _ _) rfl 1 (by decide) rfl (by decide +kernel) rfl dX7_undo_25 ?_
        refine lv_iload_n hx hb dX7_undo_28 rfl (lv_at hl 1 rfl) ?_
        obtain ⟨g3, h⟩ := zg_some h
        refine z_iald X hP 2 0 (by decide) (zcM_2 _ _ _ _ _ _) rfl g3 dX7_undo_29 ?_
        obtain ⟨g4, h⟩ := zg_some h
        refine z_iast X hA hP hS 1 0 (by decide) (zcM_1 _ _ _ _) rfl g4 dX7_undo_30 (fun H locs hP hS => ?_)
        refine lv_iinc (v := (x1 + (1 : Int32))) (lv' := [(1, .int (x1 + (1 : Int32))), (0, .ref (a 0))]) hx hb dX7_undo_31 hl (k := 1) rfl rfl (by decide) rfl (fun ls hl => ?_)
        refine lv_goto (tgt := 12) hx hb dX7_undo_34 (by decide) ?_
        exact ih ((x1 + (1 : Int32))) ((zI s 1 (x1).toNatClampNeg ((s).1 2 (x1).toNatClampNeg))) _ _ _ h hP hS (lv_sub hl [1, 0] rfl)
  have hl : lv_has ls 2 [(0, .ref (a 0))] := hl
  refine lv_aload_n hx hb dX7_undo_0 rfl (lv_at hl 0 rfl) ?_
  refine z_get (C := RX7) (T := TX7) (N := 26) X inX7 hP 0 (by decide) (zcM_0 _ _ _ _ _ _) rfl 2 (by decide) rfl (by decide +kernel) rfl dX7_undo_1 ?_
  refine lv_if_ne (tgt := 10) hx hb dX7_undo_4 (by decide) (fun c1 => ?_) (fun c1 => ?_)
  · have h := zif_f h c1
    refine lv_iconst (v := 0) hx hb dX7_undo_10 (by decide) ?_
    refine lv_istore_n (lv' := [(1, .int (0 : Int32)), (0, .ref (a 0))]) hx hb dX7_undo_11 rfl hl (by decide) rfl (fun ls hl => ?_)
    exact w12  zN ((0 : Int32)) (s) _ _ _ h hP hS (lv_sub hl [1, 0] rfl)
  · have h := zif_t h c1
    refine lv_bipush (v := -3) hx hb dX7_undo_7 (by decide) ?_
    exact z_iret X hP hS hr hlocks h dX7_undo_9
abbrev rmX7_allLaid : Room := { frames := 1, cells := 0, slots := 0, locals := 21 }
set_option maxHeartbeats 4000000 in
set_option maxRecDepth 100000 in
theorem kX7_allLaid {l : Launch} {D : va_G} {a : Nat → Nat} {cI cJ cC : ClassId}  {s τ : ZS} {r : Int32} (h : fX7_allLaid  s = some (r, τ)) : zMi (zcM a cI cJ cC) 17 a D [(cI, .int), (cJ, .long), (cC, .char)] zEM l yX7_allLaid wsX7_allLaid rmX7_allLaid [.ref (a 0)] s r τ := by
  refine z_start (cc := cX7_allLaid) (maxL := 3) (ret := (some .int)) RX7 rfl (by decide) rfl (Nat.le_of_ble_eq_true rfl) ?_
  intro p e st m args below meth c ls H locs X hr hlocks hA hE hP hS hl
  obtain ⟨hx, hb, hml, hown, hts, -⟩ := id X
  have hG := zEM_good
  have inX7 : ∀ w ∈ u_ws RX7 TX7 26, w ∈ wsX7_allLaid := by decide +kernel
  have w4 : ∀  (n : Nat) (x1 : Int32) (x2 : Int32) (s : ZS) (H : Heap) (locs : List Loc) (ls : Array Slot), fX7_allLaid_4n  n (x1, x2, s) = some (r, τ) → va_P D vwCl (zW (zcM a cI cJ cC) 17 a s) H → va_S (zF 17 a st.heap.size) st.heap H locs → lv_has ls 3 [(0, .ref (a 0)), (1, .int x1), (2, .int x2)] → W p l e rmX7_allLaid st m args below meth c H locs 0 0 (MQ below (va_Qi (fun (r' : Int32) (τ' : ZS) => r' = r ∧ τ' = τ) (zPost (zcM a cI cJ cC) 17 a D [(cI, .int), (cJ, .long), (cC, .char)]) (zF 17 a st.heap.size)) args st 0 0 (zF 17 a st.heap.size)) (F0 m 4 ls []) := by
    intro  n
    induction n with
    | zero => intro x1 x2 s H locs ls h; exact zloop_0 h
    | succ n ih =>
      intro x1 x2 s H locs ls h hP hS hl
      have h : fX7_allLaid_4b  (fun x1 x2 s => fX7_allLaid_4n  n (x1, x2, s)) x1 x2 s = some (r, τ) := h
      refine lv_iload_n hx hb dX7_allLaid_4 rfl (lv_at hl 2 rfl) ?_
      refine lv_aload_n hx hb dX7_allLaid_5 rfl (lv_at hl 0 rfl) ?_
      refine z_get (C := RX7) (T := TX7) (N := 26) X inX7 hP 0 (by decide) (zcM_0 _ _ _ _ _ _) rfl 0 (by decide) rfl (by decide +kernel) rfl dX7_allLaid_6 ?_
      refine lv_iconst (v := 1) hx hb dX7_allLaid_9 (by decide) ?_
      obtain ⟨g1, h⟩ := zg_some h
      refine z_iald X hP 1 0 (by decide) (zcM_1 _ _ _ _ _ _) rfl g1 dX7_allLaid_10 ?_
      refine lv_icmp_ge (tgt := 28) hx hb dX7_allLaid_11 (by decide) (fun c2 => ?_) (fun c2 => ?_)
      · have h := zif_t h c2
        refine lv_iload_n hx hb dX7_allLaid_28 rfl (lv_at hl 1 rfl) ?_
        exact z_iret X hP hS hr hlocks h dX7_allLaid_29
      · have h := zif_f h c2
        refine lv_iload_n hx hb dX7_allLaid_14 rfl (lv_at hl 1 rfl) ?_
        refine lv_aload_n hx hb dX7_allLaid_15 rfl (lv_at hl 0 rfl) ?_
        refine lv_iload_n hx hb dX7_allLaid_16 rfl (lv_at hl 2 rfl) ?_
        obtain ⟨u3, s3, e3, h⟩ := zb_some h
        refine z_calli hS (z_runV (As := [.int x2]) (rest := [.int x1]) X hG hA hE hP hS 0 (kX7_size (l := l) (D := D) (a := a) (cI := cI) (cJ := cJ) (cC := cC) e3 _) (cwV 1 hts gX7_allLaid_X7_size rfl rfl rfl (by decide +kernel) ⟨Nat.le_of_ble_eq_true rfl, Nat.le_of_ble_eq_true rfl⟩) (by decide) (zcM_0 _ _ _ _ _ _) rfl rfl rfl hl.1 rfl (Nat.le_of_ble_eq_true rfl) dX7_allLaid_17) (fun H locs hP hS => ?_)
        refine lv_iadd hx hb dX7_allLaid_20 ?_
        refine lv_istore_n (lv' := [(1, .int (x1 + u3)), (0, .ref (a 0)), (2, .int x2)]) hx hb dX7_allLaid_21 rfl hl (by decide) rfl (fun ls hl => ?_)
        refine lv_iinc (v := (x2 + (1 : Int32))) (lv' := [(2, .int (x2 + (1 : Int32))), (1, .int (x1 + u3)), (0, .ref (a 0))]) hx hb dX7_allLaid_22 hl (k := 2) rfl rfl (by decide) rfl (fun ls hl => ?_)
        refine lv_goto (tgt := 4) hx hb dX7_allLaid_25 (by decide) ?_
        exact ih ((x1 + u3)) ((x2 + (1 : Int32))) (s3) _ _ _ h hP hS (lv_sub hl [2, 1, 0] rfl)
  have hl : lv_has ls 3 [(0, .ref (a 0))] := hl
  refine lv_iconst (v := 0) hx hb dX7_allLaid_0 (by decide) ?_
  refine lv_istore_n (lv' := [(1, .int (0 : Int32)), (0, .ref (a 0))]) hx hb dX7_allLaid_1 rfl hl (by decide) rfl (fun ls hl => ?_)
  refine lv_iconst (v := 0) hx hb dX7_allLaid_2 (by decide) ?_
  refine lv_istore_n (lv' := [(2, .int (0 : Int32)), (1, .int (0 : Int32)), (0, .ref (a 0))]) hx hb dX7_allLaid_3 rfl hl (by decide) rfl (fun ls hl => ?_)
  exact w4  zN ((0 : Int32)) ((0 : Int32)) (s) _ _ _ h hP hS (lv_sub hl [2, 1, 0] rfl)
abbrev rmX7_count : Room := { frames := 2, cells := 0, slots := 0, locals := 43 }
set_option maxHeartbeats 4000000 in
set_option maxRecDepth 100000 in
theorem kX7_count {l : Launch} {D : va_G} {a : Nat → Nat} {cI cJ cC : ClassId} {x1 : Int32} {s τ : ZS} {r : Int32} (h : fX7_count x1 s = some (r, τ)) : zMi (zcM a cI cJ cC) 17 a D [(cI, .int), (cJ, .long), (cC, .char)] zEM l yX7_count wsX7_count rmX7_count [.ref (a 0), .int x1] s r τ := by
  refine z_start (cc := cX7_count) (maxL := 2) (ret := (some .int)) RX7 rfl (by decide) rfl (Nat.le_of_ble_eq_true rfl) ?_
  intro p e st m args below meth c ls H locs X hr hlocks hA hE hP hS hl
  obtain ⟨hx, hb, hml, hown, hts, -⟩ := id X
  have hG := zEM_good
  have inX7 : ∀ w ∈ u_ws RX7 TX7 26, w ∈ wsX7_count := by decide +kernel
  have hl : lv_has ls 2 [(0, .ref (a 0)), (1, .int x1)] := hl
  refine lv_iload_n hx hb dX7_count_0 rfl (lv_at hl 1 rfl) ?_
  by_cases c1 : x1 = (0 : Int32)
  · have h := zif_t h c1
    refine lv_tableIn (tgt := 36) hx hb dX7_count_1 (by rw [c1]; decide) (by rw [c1]; decide) (by rw [c1]; rfl) (by decide) ?_
    refine lv_aload_n hx hb dX7_count_36 rfl (lv_at hl 0 rfl) ?_
    refine z_get (C := RX7) (T := TX7) (N := 26) X inX7 hP 0 (by decide) (zcM_0 _ _ _ _ _ _) rfl 0 (by decide) rfl (by decide +kernel) rfl dX7_count_37 ?_
    refine lv_iconst (v := 0) hx hb dX7_count_40 (by decide) ?_
    obtain ⟨g2, h⟩ := zg_some h
    refine z_iald X hP 1 0 (by decide) (zcM_1 _ _ _ _ _ _) rfl g2 dX7_count_41 ?_
    exact z_iret X hP hS hr hlocks h dX7_count_42
  have h := zif_f h c1
  by_cases c3 : x1 = (1 : Int32)
  · have h := zif_t h c3
    refine lv_tableIn (tgt := 43) hx hb dX7_count_1 (by rw [c3]; decide) (by rw [c3]; decide) (by rw [c3]; rfl) (by decide) ?_
    refine lv_aload_n hx hb dX7_count_43 rfl (lv_at hl 0 rfl) ?_
    refine z_get (C := RX7) (T := TX7) (N := 26) X inX7 hP 0 (by decide) (zcM_0 _ _ _ _ _ _) rfl 0 (by decide) rfl (by decide +kernel) rfl dX7_count_44 ?_
    refine lv_iconst (v := 1) hx hb dX7_count_47 (by decide) ?_
    obtain ⟨g4, h⟩ := zg_some h
    refine z_iald X hP 1 0 (by decide) (zcM_1 _ _ _ _ _ _) rfl g4 dX7_count_48 ?_
    exact z_iret X hP hS hr hlocks h dX7_count_49
  have h := zif_f h c3
  by_cases c5 : x1 = (2 : Int32)
  · have h := zif_t h c5
    refine lv_tableIn (tgt := 50) hx hb dX7_count_1 (by rw [c5]; decide) (by rw [c5]; decide) (by rw [c5]; rfl) (by decide) ?_
    refine lv_aload_n hx hb dX7_count_50 rfl (lv_at hl 0 rfl) ?_
    refine z_get (C := RX7) (T := TX7) (N := 26) X inX7 hP 0 (by decide) (zcM_0 _ _ _ _ _ _) rfl 8 (by decide) rfl (by decide +kernel) rfl dX7_count_51 ?_
    exact z_iret X hP hS hr hlocks h dX7_count_54
  have h := zif_f h c5
  by_cases c6 : x1 = (3 : Int32)
  · have h := zif_t h c6
    refine lv_tableIn (tgt := 55) hx hb dX7_count_1 (by rw [c6]; decide) (by rw [c6]; decide) (by rw [c6]; rfl) (by decide) ?_
    refine lv_aload_n hx hb dX7_count_55 rfl (lv_at hl 0 rfl) ?_
    refine z_get (C := RX7) (T := TX7) (N := 26) X inX7 hP 0 (by decide) (zcM_0 _ _ _ _ _ _) rfl 23 (by decide) rfl (by decide +kernel) rfl dX7_count_56 ?_
    exact z_iret X hP hS hr hlocks h dX7_count_59
  have h := zif_f h c6
  by_cases c7 : x1 = (4 : Int32)
  · have h := zif_t h c7
    refine lv_tableIn (tgt := 60) hx hb dX7_count_1 (by rw [c7]; decide) (by rw [c7]; decide) (by rw [c7]; rfl) (by decide) ?_
    refine lv_aload_n hx hb dX7_count_60 rfl (lv_at hl 0 rfl) ?_
    obtain ⟨u8, s8, e8, h⟩ := zb_some h
    refine z_calli hS (z_runV (As := []) (rest := []) X hG hA hE hP hS 0 (kX7_allLaid (l := l) (D := D) (a := a) (cI := cI) (cJ := cJ) (cC := cC) e8 _) (cwV 0 hts gX7_count_X7_allLaid rfl rfl rfl (by decide +kernel) ⟨Nat.le_of_ble_eq_true rfl, Nat.le_of_ble_eq_true rfl⟩) (by decide) (zcM_0 _ _ _ _ _ _) rfl rfl rfl hl.1 rfl (Nat.le_of_ble_eq_true rfl) dX7_count_61) (fun H locs hP hS => ?_)
    exact z_iret X hP hS hr hlocks h dX7_count_64
  have h := zif_f h c7
  refine lv_tableOut (tgt := 65) hx hb dX7_count_1 (by have := lv_neT (a := 0) c1 rfl; have := lv_neT (a := 1) c3 rfl; have := lv_neT (a := 2) c5 rfl; have := lv_neT (a := 3) c6 rfl; have := lv_neT (a := 4) c7 rfl; omega) (by decide) ?_
  refine lv_iload_n hx hb dX7_count_65 rfl (lv_at hl 1 rfl) ?_
  refine lv_i2l hx hb dX7_count_66 rfl ?_
  refine lv_ldc2 (own := RX7) (index := 159) (v := 5) hx hb hown (hts _ (by decide +kernel)) dX7_count_67 ?_
  refine lv_ldc2 (own := RX7) (index := 272) (v := 7) hx hb hown (hts _ (by decide +kernel)) dX7_count_70 ?_
  obtain ⟨u9, s9, e9, h⟩ := zb_some h
  refine z_calli hS (z_runS (As := [.long (x1).toInt64, .long (5 : Int64), .long (7 : Int64)]) (rest := []) X hG hA hE hP hS (kX7_isIn (l := l) (D := D) (a := a) (cI := cI) (cJ := cJ) (cC := cC) e9 _) (va_cwS 3 hts gX7_count_X7_isIn rfl rfl rfl (by decide +kernel) ⟨Nat.le_of_ble_eq_true rfl, Nat.le_of_ble_eq_true rfl⟩) rfl hl.1 rfl (Nat.le_of_ble_eq_true rfl) dX7_count_73) (fun H locs hP hS => ?_)
  refine lv_if_eq (tgt := 94) hx hb dX7_count_76 (by decide) (fun c10 => ?_) (fun c10 => ?_)
  · have h := zif_t h c10
    refine lv_bipush (v := -2) hx hb dX7_count_94 (by decide) ?_
    exact z_iret X hP hS hr hlocks h dX7_count_96
  · have h := zif_f h c10
    refine lv_aload_n hx hb dX7_count_79 rfl (lv_at hl 0 rfl) ?_
    refine z_get (C := RX7) (T := TX7) (N := 26) X inX7 hP 0 (by decide) (zcM_0 _ _ _ _ _ _) rfl 0 (by decide) rfl (by decide +kernel) rfl dX7_count_80 ?_
    refine lv_sipush (v := 130) hx hb dX7_count_83 (by decide) ?_
    refine lv_iload_n hx hb dX7_count_86 rfl (lv_at hl 1 rfl) ?_
    refine lv_iadd hx hb dX7_count_87 ?_
    refine lv_iconst (v := 5) hx hb dX7_count_88 (by decide) ?_
    refine lv_isub hx hb dX7_count_89 ?_
    obtain ⟨g11, h⟩ := zg_some h
    refine z_iald X hP 1 0 (by decide) (zcM_1 _ _ _ _ _ _) rfl g11 dX7_count_90 ?_
    refine lv_goto (tgt := 96) hx hb dX7_count_91 (by decide) ?_
    exact z_iret X hP hS hr hlocks h dX7_count_96
