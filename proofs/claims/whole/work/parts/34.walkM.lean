abbrev rmX7_wish : Room := { frames := 1, cells := 0, slots := 0, locals := 25 }
set_option maxHeartbeats 4000000 in
set_option maxRecDepth 100000 in
theorem kX7_wish {l : Launch} {D : va_G} {a : Nat → Nat} {cI cJ cC : ClassId} {x1 : Int32} {x2 : Int32} {x3 : Int32} {s τ : ZS} {r : Int32} (h : fX7_wish x1 x2 x3 s = some (r, τ)) : zMi (zcM a cI cJ cC) 17 a D [(cI, .int), (cJ, .long), (cC, .char)] zEM l yX7_wish wsX7_wish rmX7_wish [.ref (a 0), .int x1, .int x2, .int x3] s r τ := by
  refine z_start (cc := cX7_wish) (maxL := 4) (ret := (some .int)) RX7 rfl (by decide) rfl (Nat.le_of_ble_eq_true rfl) ?_
  intro p e st m args below meth c ls H locs X hr hlocks hA hE hP hS hl
  obtain ⟨hx, hb, hml, hown, hts, -⟩ := id X
  have hG := zEM_good
  have inX7 : ∀ w ∈ u_ws RX7 TX7 26, w ∈ wsX7_wish := by decide +kernel
  have hl : lv_has ls 4 [(0, .ref (a 0)), (1, .int x1), (2, .int x2), (3, .int x3)] := hl
  refine lv_iload_n hx hb dX7_wish_0 rfl (lv_at hl 1 rfl) ?_
  refine lv_i2l hx hb dX7_wish_1 rfl ?_
  refine lv_lconst (v := 0) hx hb dX7_wish_2 (by decide) ?_
  refine lv_ldc2 (own := RX7) (index := 205) (v := 9999) hx hb hown (hts _ (by decide +kernel)) dX7_wish_3 ?_
  obtain ⟨u1, s1, e1, h⟩ := zb_some h
  refine z_calli hS (z_runS (As := [.long (x1).toInt64, .long (0 : Int64), .long (9999 : Int64)]) (rest := []) X hG hA hE hP hS (kX7_isIn (l := l) (D := D) (a := a) (cI := cI) (cJ := cJ) (cC := cC) e1 _) (va_cwS 3 hts gX7_wish_X7_isIn rfl rfl rfl (by decide +kernel) ⟨Nat.le_of_ble_eq_true rfl, Nat.le_of_ble_eq_true rfl⟩) rfl hl.1 rfl (Nat.le_of_ble_eq_true rfl) dX7_wish_6) (fun H locs hP hS => ?_)
  refine lv_if_eq (tgt := 36) hx hb dX7_wish_9 (by decide) (fun c2 => ?_) (fun c2 => ?_)
  · have h := zif_t h c2
    refine lv_bipush (v := -2) hx hb dX7_wish_36 (by decide) ?_
    exact z_iret X hP hS hr hlocks h dX7_wish_38
  · have h := zif_f h c2
    refine lv_iload_n hx hb dX7_wish_12 rfl (lv_at hl 2 rfl) ?_
    refine lv_i2l hx hb dX7_wish_13 rfl ?_
    refine lv_lconst (v := 0) hx hb dX7_wish_14 (by decide) ?_
    refine lv_ldc2 (own := RX7) (index := 205) (v := 9999) hx hb hown (hts _ (by decide +kernel)) dX7_wish_15 ?_
    obtain ⟨u3, s3, e3, h⟩ := zb_some h
    refine z_calli hS (z_runS (As := [.long (x2).toInt64, .long (0 : Int64), .long (9999 : Int64)]) (rest := []) X hG hA hE hP hS (kX7_isIn (l := l) (D := D) (a := a) (cI := cI) (cJ := cJ) (cC := cC) e3 _) (va_cwS 3 hts gX7_wish_X7_isIn rfl rfl rfl (by decide +kernel) ⟨Nat.le_of_ble_eq_true rfl, Nat.le_of_ble_eq_true rfl⟩) rfl hl.1 rfl (Nat.le_of_ble_eq_true rfl) dX7_wish_18) (fun H locs hP hS => ?_)
    refine lv_if_eq (tgt := 36) hx hb dX7_wish_21 (by decide) (fun c4 => ?_) (fun c4 => ?_)
    · have h := zif_t h c4
      refine lv_bipush (v := -2) hx hb dX7_wish_36 (by decide) ?_
      exact z_iret X hP hS hr hlocks h dX7_wish_38
    · have h := zif_f h c4
      refine lv_iload_n hx hb dX7_wish_24 rfl (lv_at hl 3 rfl) ?_
      refine lv_i2l hx hb dX7_wish_25 rfl ?_
      refine lv_lconst (v := 0) hx hb dX7_wish_26 (by decide) ?_
      refine lv_ldc2 (own := RX7) (index := 205) (v := 9999) hx hb hown (hts _ (by decide +kernel)) dX7_wish_27 ?_
      obtain ⟨u5, s5, e5, h⟩ := zb_some h
      refine z_calli hS (z_runS (As := [.long (x3).toInt64, .long (0 : Int64), .long (9999 : Int64)]) (rest := []) X hG hA hE hP hS (kX7_isIn (l := l) (D := D) (a := a) (cI := cI) (cJ := cJ) (cC := cC) e5 _) (va_cwS 3 hts gX7_wish_X7_isIn rfl rfl rfl (by decide +kernel) ⟨Nat.le_of_ble_eq_true rfl, Nat.le_of_ble_eq_true rfl⟩) rfl hl.1 rfl (Nat.le_of_ble_eq_true rfl) dX7_wish_30) (fun H locs hP hS => ?_)
      refine lv_if_ne (tgt := 39) hx hb dX7_wish_33 (by decide) (fun c6 => ?_) (fun c6 => ?_)
      · have h := zif_f h c6
        refine lv_aload_n hx hb dX7_wish_39 rfl (lv_at hl 0 rfl) ?_
        refine z_get (C := RX7) (T := TX7) (N := 26) X inX7 hP 0 (by decide) (zcM_0 _ _ _ _ _ _) rfl 0 (by decide) rfl (by decide +kernel) rfl dX7_wish_40 ?_
        refine lv_sipush (v := 130) hx hb dX7_wish_43 (by decide) ?_
        refine lv_iload_n hx hb dX7_wish_46 rfl (lv_at hl 1 rfl) ?_
        obtain ⟨g7, h⟩ := zg_some h
        refine z_iast X hA hP hS 1 0 (by decide) (zcM_1 _ _ _ _) rfl g7 dX7_wish_47 (fun H locs hP hS => ?_)
        refine lv_aload_n hx hb dX7_wish_48 rfl (lv_at hl 0 rfl) ?_
        refine z_get (C := RX7) (T := TX7) (N := 26) X inX7 hP 0 (by decide) (zcM_0 _ _ _ _ _ _) rfl 0 (by decide) rfl (by decide +kernel) rfl dX7_wish_49 ?_
        refine lv_sipush (v := 131) hx hb dX7_wish_52 (by decide) ?_
        refine lv_iload_n hx hb dX7_wish_55 rfl (lv_at hl 2 rfl) ?_
        obtain ⟨g8, h⟩ := zg_some h
        refine z_iast X hA hP hS 1 0 (by decide) (zcM_1 _ _ _ _) rfl g8 dX7_wish_56 (fun H locs hP hS => ?_)
        refine lv_aload_n hx hb dX7_wish_57 rfl (lv_at hl 0 rfl) ?_
        refine z_get (C := RX7) (T := TX7) (N := 26) X inX7 hP 0 (by decide) (zcM_0 _ _ _ _ _ _) rfl 0 (by decide) rfl (by decide +kernel) rfl dX7_wish_58 ?_
        refine lv_sipush (v := 132) hx hb dX7_wish_61 (by decide) ?_
        refine lv_iload_n hx hb dX7_wish_64 rfl (lv_at hl 3 rfl) ?_
        obtain ⟨g9, h⟩ := zg_some h
        refine z_iast X hA hP hS 1 0 (by decide) (zcM_1 _ _ _ _) rfl g9 dX7_wish_65 (fun H locs hP hS => ?_)
        refine lv_iconst (v := 1) hx hb dX7_wish_66 (by decide) ?_
        exact z_iret X hP hS hr hlocks h dX7_wish_67
      · have h := zif_t h c6
        refine lv_bipush (v := -2) hx hb dX7_wish_36 (by decide) ?_
        exact z_iret X hP hS hr hlocks h dX7_wish_38
abbrev rmX7_next : Room := { frames := 0, cells := 0, slots := 0, locals := 0 }
set_option maxHeartbeats 4000000 in
set_option maxRecDepth 100000 in
theorem kX7_next {l : Launch} {D : va_G} {a : Nat → Nat} {cI cJ cC : ClassId} {x1 : Int32} {s τ : ZS} {r : Int32} (h : fX7_next x1 s = some (r, τ)) : zMi (zcM a cI cJ cC) 17 a D [(cI, .int), (cJ, .long), (cC, .char)] zEM l yX7_next wsX7_next rmX7_next [.ref (a 0), .int x1] s r τ := by
  refine z_start (cc := cX7_next) (maxL := 5) (ret := (some .boolean)) RX7 rfl (by decide) rfl (Nat.le_of_ble_eq_true rfl) ?_
  intro p e st m args below meth c ls H locs X hr hlocks hA hE hP hS hl
  obtain ⟨hx, hb, hml, hown, hts, -⟩ := id X
  have hG := zEM_good
  have inX7 : ∀ w ∈ u_ws RX7 TX7 26, w ∈ wsX7_next := by decide +kernel
  have w49 : ∀  (n : Nat) (x1 : Int32) (x3 : Int32) (x4 : Int32) (s : ZS) (H : Heap) (locs : List Loc) (ls : Array Slot), fX7_next_49n  n (x1, x3, x4, s) = some (r, τ) → va_P D vwCl (zW (zcM a cI cJ cC) 17 a s) H → va_S (zF 17 a st.heap.size) st.heap H locs → lv_has ls 5 [(0, .ref (a 0)), (1, .int x1), (3, .int x3), (4, .int x4)] → W p l e rmX7_next st m args below meth c H locs 0 0 (MQ below (va_Qi (fun (r' : Int32) (τ' : ZS) => r' = r ∧ τ' = τ) (zPost (zcM a cI cJ cC) 17 a D [(cI, .int), (cJ, .long), (cC, .char)]) (zF 17 a st.heap.size)) args st 0 0 (zF 17 a st.heap.size)) (F0 m 49 ls []) := by
    intro  n
    induction n with
    | zero => intro x1 x3 x4 s H locs ls h; exact zloop_0 h
    | succ n ih =>
      intro x1 x3 x4 s H locs ls h hP hS hl
      have h : fX7_next_49b  (fun x1 x3 x4 s => fX7_next_49n  n (x1, x3, x4, s)) x1 x3 x4 s = some (r, τ) := h
      refine lv_iload hx hb dX7_next_49 (lv_at hl 3 rfl) ?_
      refine lv_iload_n hx hb dX7_next_51 rfl (lv_at hl 1 rfl) ?_
      refine lv_icmp_ge (tgt := 69) hx hb dX7_next_52 (by decide) (fun c1 => ?_) (fun c1 => ?_)
      · have h := zif_t h c1
        refine lv_iconst (v := 1) hx hb dX7_next_69 (by decide) ?_
        exact z_zret X hP hS hr hlocks (by decide) h dX7_next_70
      · have h := zif_f h c1
        refine lv_aload_n hx hb dX7_next_55 rfl (lv_at hl 0 rfl) ?_
        refine z_get (C := RX7) (T := TX7) (N := 26) X inX7 hP 0 (by decide) (zcM_0 _ _ _ _ _ _) rfl 17 (by decide) rfl (by decide +kernel) rfl dX7_next_56 ?_
        refine lv_iload hx hb dX7_next_59 (lv_at hl 3 rfl) ?_
        refine lv_iload_n hx hb dX7_next_61 rfl (lv_at hl 2 rfl) ?_
        obtain ⟨g2, h⟩ := zg_some h
        refine z_iast X hA hP hS 12 0 (by decide) (zcM_12 _ _ _ _) rfl g2 dX7_next_62 (fun H locs hP hS => ?_)
        refine lv_iinc (v := (x4 + (1 : Int32))) (lv' := [(4, .int (x4 + (1 : Int32))), (0, .ref (a 0)), (1, .int x1), (3, .int x3)]) hx hb dX7_next_63 hl (k := 3) rfl rfl (by decide) rfl (fun ls hl => ?_)
        refine lv_goto (tgt := 49) hx hb dX7_next_66 (by decide) ?_
        exact ih (x1) (x3) ((x4 + (1 : Int32))) ((zI s 12 (x4).toNatClampNeg x3)) _ _ _ h hP hS (lv_sub hl [1, 2, 3, 0] rfl)
  have w31 : ∀  (x1 : Int32) (x2 : Int32) (s : ZS) (H : Heap) (locs : List Loc) (ls : Array Slot), fX7_next_31  x1 x2 s = some (r, τ) → va_P D vwCl (zW (zcM a cI cJ cC) 17 a s) H → va_S (zF 17 a st.heap.size) st.heap H locs → lv_has ls 5 [(0, .ref (a 0)), (1, .int x1), (2, .int x2)] → W p l e rmX7_next st m args below meth c H locs 0 0 (MQ below (va_Qi (fun (r' : Int32) (τ' : ZS) => r' = r ∧ τ' = τ) (zPost (zcM a cI cJ cC) 17 a D [(cI, .int), (cJ, .long), (cC, .char)]) (zF 17 a st.heap.size)) args st 0 0 (zF 17 a st.heap.size)) (F0 m 31 ls []) := by
    intro  x1 x2 s H locs ls h hP hS hl
    refine lv_iload_n hx hb dX7_next_31 rfl (lv_at hl 2 rfl) ?_
    refine lv_if_ge (tgt := 37) hx hb dX7_next_32 (by decide) (fun c1 => ?_) (fun c1 => ?_)
    · have h := zif_t h c1
      refine lv_aload_n hx hb dX7_next_37 rfl (lv_at hl 0 rfl) ?_
      refine z_get (C := RX7) (T := TX7) (N := 26) X inX7 hP 0 (by decide) (zcM_0 _ _ _ _ _ _) rfl 17 (by decide) rfl (by decide +kernel) rfl dX7_next_38 ?_
      refine lv_iload_n hx hb dX7_next_41 rfl (lv_at hl 2 rfl) ?_
      obtain ⟨g2, h⟩ := zg_some h
      refine z_iald X hP 12 0 (by decide) (zcM_12 _ _ _ _ _ _) rfl g2 dX7_next_42 ?_
      refine lv_iconst (v := 1) hx hb dX7_next_43 (by decide) ?_
      refine lv_iadd hx hb dX7_next_44 ?_
      refine lv_istore_n (lv' := [(3, .int (((s).1 12 (x2).toNatClampNeg) + (1 : Int32))), (0, .ref (a 0)), (1, .int x1), (2, .int x2)]) hx hb dX7_next_45 rfl hl (by decide) rfl (fun ls hl => ?_)
      refine lv_iload_n hx hb dX7_next_46 rfl (lv_at hl 3 rfl) ?_
      refine lv_istore (lv' := [(4, .int x2), (3, .int (((s).1 12 (x2).toNatClampNeg) + (1 : Int32))), (0, .ref (a 0)), (1, .int x1), (2, .int x2)]) hx hb dX7_next_47 hl (by decide) rfl (fun ls hl => ?_)
      exact w49  zN (x1) ((((s).1 12 (x2).toNatClampNeg) + (1 : Int32))) (x2) (s) _ _ _ h hP hS (lv_sub hl [2, 3, 1, 0] rfl)
    · have h := zif_f h c1
      refine lv_iconst (v := 0) hx hb dX7_next_35 (by decide) ?_
      exact z_zret X hP hS hr hlocks (by decide) h dX7_next_36
  have w4 : ∀  (n : Nat) (x1 : Int32) (x2 : Int32) (s : ZS) (H : Heap) (locs : List Loc) (ls : Array Slot), fX7_next_4n  n (x1, x2, s) = some (r, τ) → va_P D vwCl (zW (zcM a cI cJ cC) 17 a s) H → va_S (zF 17 a st.heap.size) st.heap H locs → lv_has ls 5 [(0, .ref (a 0)), (1, .int x1), (2, .int x2)] → W p l e rmX7_next st m args below meth c H locs 0 0 (MQ below (va_Qi (fun (r' : Int32) (τ' : ZS) => r' = r ∧ τ' = τ) (zPost (zcM a cI cJ cC) 17 a D [(cI, .int), (cJ, .long), (cC, .char)]) (zF 17 a st.heap.size)) args st 0 0 (zF 17 a st.heap.size)) (F0 m 4 ls []) := by
    intro  n
    induction n with
    | zero => intro x1 x2 s H locs ls h; exact zloop_0 h
    | succ n ih =>
      intro x1 x2 s H locs ls h hP hS hl
      have h : fX7_next_4b  (fun x1 x2 s => fX7_next_4n  n (x1, x2, s)) x1 x2 s = some (r, τ) := h
      refine lv_iload_n hx hb dX7_next_4 rfl (lv_at hl 2 rfl) ?_
      refine lv_if_lt (tgt := 31) hx hb dX7_next_5 (by decide) (fun c1 => ?_) (fun c1 => ?_)
      · have h := zif_t h c1
        exact w31   (x1) (x2) (s) _ _ _ h hP hS (lv_sub hl [0, 1, 2] rfl)
      · have h := zif_f h c1
        refine lv_aload_n hx hb dX7_next_8 rfl (lv_at hl 0 rfl) ?_
        refine z_get (C := RX7) (T := TX7) (N := 26) X inX7 hP 0 (by decide) (zcM_0 _ _ _ _ _ _) rfl 17 (by decide) rfl (by decide +kernel) rfl dX7_next_9 ?_
        refine lv_iload_n hx hb dX7_next_12 rfl (lv_at hl 2 rfl) ?_
        obtain ⟨g2, h⟩ := zg_some h
        refine z_iald X hP 12 0 (by decide) (zcM_12 _ _ _ _ _ _) rfl g2 dX7_next_13 ?_
        refine lv_aload_n hx hb dX7_next_14 rfl (lv_at hl 0 rfl) ?_
        refine z_get (C := RX7) (T := TX7) (N := 26) X inX7 hP 0 (by decide) (zcM_0 _ _ _ _ _ _) rfl 0 (by decide) rfl (by decide +kernel) rfl dX7_next_15 ?_
        refine lv_iconst (v := 0) hx hb dX7_next_18 (by decide) ?_
        obtain ⟨g3, h⟩ := zg_some h
        refine z_iald X hP 1 0 (by decide) (zcM_1 _ _ _ _ _ _) rfl g3 dX7_next_19 ?_
        refine lv_iconst (v := 1) hx hb dX7_next_20 (by decide) ?_
        refine lv_isub hx hb dX7_next_21 ?_
        refine lv_icmp_ne (tgt := 31) hx hb dX7_next_22 (by decide) (fun c4 => ?_) (fun c4 => ?_)
        · have h := zif_f h c4
          exact w31   (x1) (x2) (s) _ _ _ h hP hS (lv_sub hl [0, 1, 2] rfl)
        · have h := zif_t h c4
          refine lv_iinc (v := (x2 + (-1 : Int32))) (lv' := [(2, .int (x2 + (-1 : Int32))), (0, .ref (a 0)), (1, .int x1)]) hx hb dX7_next_25 hl (k := 2) rfl rfl (by decide) rfl (fun ls hl => ?_)
          refine lv_goto (tgt := 4) hx hb dX7_next_28 (by decide) ?_
          exact ih (x1) ((x2 + (-1 : Int32))) (s) _ _ _ h hP hS (lv_sub hl [1, 2, 0] rfl)
  have hl : lv_has ls 5 [(0, .ref (a 0)), (1, .int x1)] := hl
  refine lv_iload_n hx hb dX7_next_0 rfl (lv_at hl 1 rfl) ?_
  refine lv_iconst (v := 1) hx hb dX7_next_1 (by decide) ?_
  refine lv_isub hx hb dX7_next_2 ?_
  refine lv_istore_n (lv' := [(2, .int (x1 - (1 : Int32))), (0, .ref (a 0)), (1, .int x1)]) hx hb dX7_next_3 rfl hl (by decide) rfl (fun ls hl => ?_)
  exact w4  zN (x1) ((x1 - (1 : Int32))) (s) _ _ _ h hP hS (lv_sub hl [1, 2, 0] rfl)
abbrev rmX7_apart : Room := { frames := 4, cells := 0, slots := 0, locals := 90 }
set_option maxHeartbeats 4000000 in
set_option maxRecDepth 100000 in
theorem kX7_apart {l : Launch} {D : va_G} {a : Nat → Nat} {cI cJ cC : ClassId} {x1 : Int32} {x2 : Int32} {s τ : ZS} {r : Int32} (h : fX7_apart x1 x2 s = some (r, τ)) : zMi (zcM a cI cJ cC) 17 a D [(cI, .int), (cJ, .long), (cC, .char)] zEM l yX7_apart wsX7_apart rmX7_apart [.ref (a 0), .int x1, .int x2] s r τ := by
  refine z_start (cc := cX7_apart) (maxL := 4) (ret := (some .int)) RX7 rfl (by decide) rfl (Nat.le_of_ble_eq_true rfl) ?_
  intro p e st m args below meth c ls H locs X hr hlocks hA hE hP hS hl
  obtain ⟨hx, hb, hml, hown, hts, -⟩ := id X
  have hG := zEM_good
  have inX7 : ∀ w ∈ u_ws RX7 TX7 26, w ∈ wsX7_apart := by decide +kernel
  have w6 : ∀  (n : Nat) (x1 : Int32) (x2 : Int32) (x3 : Int32) (s : ZS) (H : Heap) (locs : List Loc) (ls : Array Slot), fX7_apart_6n  n (x1, x2, x3, s) = some (r, τ) → va_P D vwCl (zW (zcM a cI cJ cC) 17 a s) H → va_S (zF 17 a st.heap.size) st.heap H locs → lv_has ls 4 [(0, .ref (a 0)), (1, .int x1), (2, .int x2), (3, .int x3)] → W p l e rmX7_apart st m args below meth c H locs 0 0 (MQ below (va_Qi (fun (r' : Int32) (τ' : ZS) => r' = r ∧ τ' = τ) (zPost (zcM a cI cJ cC) 17 a D [(cI, .int), (cJ, .long), (cC, .char)]) (zF 17 a st.heap.size)) args st 0 0 (zF 17 a st.heap.size)) (F0 m 6 ls []) := by
    intro  n
    induction n with
    | zero => intro x1 x2 x3 s H locs ls h; exact zloop_0 h
    | succ n ih =>
      intro x1 x2 x3 s H locs ls h hP hS hl
      have h : fX7_apart_6b  (fun x1 x2 x3 s => fX7_apart_6n  n (x1, x2, x3, s)) x1 x2 x3 s = some (r, τ) := h
      refine lv_iload_n hx hb dX7_apart_6 rfl (lv_at hl 3 rfl) ?_
      refine lv_iload_n hx hb dX7_apart_7 rfl (lv_at hl 1 rfl) ?_
      refine lv_icmp_ge (tgt := 27) hx hb dX7_apart_8 (by decide) (fun c1 => ?_) (fun c1 => ?_)
      · have h := zif_t h c1
        refine lv_aload_n hx hb dX7_apart_27 rfl (lv_at hl 0 rfl) ?_
        refine lv_iload_n hx hb dX7_apart_28 rfl (lv_at hl 2 rfl) ?_
        obtain ⟨u2, s2, e2, h⟩ := zb_some h
        refine z_callv hS (z_runV (As := [.int x2]) (rest := []) X hG hA hE hP hS 0 (kX7_findShades (l := l) (D := D) (a := a) (cI := cI) (cJ := cJ) (cC := cC) e2 _) (cwV 1 hts gX7_apart_X7_findShades rfl rfl rfl (by decide +kernel) ⟨Nat.le_of_ble_eq_true rfl, Nat.le_of_ble_eq_true rfl⟩) (by decide) (zcM_0 _ _ _ _ _ _) rfl rfl rfl hl.1 rfl (Nat.le_of_ble_eq_true rfl) dX7_apart_29) (fun H locs hP hS => ?_)
        refine lv_aload_n hx hb dX7_apart_32 rfl (lv_at hl 0 rfl) ?_
        refine lv_aload_n hx hb dX7_apart_33 rfl (lv_at hl 0 rfl) ?_
        refine z_get (C := RX7) (T := TX7) (N := 26) X inX7 hP 0 (by decide) (zcM_0 _ _ _ _ _ _) rfl 5 (by decide) rfl (by decide +kernel) rfl dX7_apart_34 ?_
        refine lv_iconst (v := 0) hx hb dX7_apart_37 (by decide) ?_
        obtain ⟨g3, h⟩ := zg_some h
        refine z_iald X hP 4 0 (by decide) (zcM_4 _ _ _ _ _ _) rfl g3 dX7_apart_38 ?_
        refine lv_aload_n hx hb dX7_apart_39 rfl (lv_at hl 0 rfl) ?_
        refine z_get (C := RX7) (T := TX7) (N := 26) X inX7 hP 0 (by decide) (zcM_0 _ _ _ _ _ _) rfl 0 (by decide) rfl (by decide +kernel) rfl dX7_apart_40 ?_
        refine lv_sipush (v := 130) hx hb dX7_apart_43 (by decide) ?_
        obtain ⟨g4, h⟩ := zg_some h
        refine z_iald X hP 1 0 (by decide) (zcM_1 _ _ _ _ _ _) rfl g4 dX7_apart_46 ?_
        obtain ⟨u5, s5, e5, h⟩ := zb_some h
        refine z_calli hS (z_runV (As := [.int ((s2).1 4 ((0 : Int32)).toNatClampNeg), .int ((s2).1 1 ((130 : Int32)).toNatClampNeg)]) (rest := []) X hG hA hE hP hS 0 (kX7_apartFrom (l := l) (D := D) (a := a) (cI := cI) (cJ := cJ) (cC := cC) e5 _) (cwV 2 hts gX7_apart_X7_apartFrom rfl rfl rfl (by decide +kernel) ⟨Nat.le_of_ble_eq_true rfl, Nat.le_of_ble_eq_true rfl⟩) (by decide) (zcM_0 _ _ _ _ _ _) rfl rfl rfl hl.1 rfl (Nat.le_of_ble_eq_true rfl) dX7_apart_47) (fun H locs hP hS => ?_)
        refine lv_aload_n hx hb dX7_apart_50 rfl (lv_at hl 0 rfl) ?_
        refine lv_aload_n hx hb dX7_apart_51 rfl (lv_at hl 0 rfl) ?_
        refine z_get (C := RX7) (T := TX7) (N := 26) X inX7 hP 0 (by decide) (zcM_0 _ _ _ _ _ _) rfl 5 (by decide) rfl (by decide +kernel) rfl dX7_apart_52 ?_
        refine lv_iconst (v := 1) hx hb dX7_apart_55 (by decide) ?_
        obtain ⟨g6, h⟩ := zg_some h
        refine z_iald X hP 4 0 (by decide) (zcM_4 _ _ _ _ _ _) rfl g6 dX7_apart_56 ?_
        refine lv_aload_n hx hb dX7_apart_57 rfl (lv_at hl 0 rfl) ?_
        refine z_get (C := RX7) (T := TX7) (N := 26) X inX7 hP 0 (by decide) (zcM_0 _ _ _ _ _ _) rfl 0 (by decide) rfl (by decide +kernel) rfl dX7_apart_58 ?_
        refine lv_sipush (v := 131) hx hb dX7_apart_61 (by decide) ?_
        obtain ⟨g7, h⟩ := zg_some h
        refine z_iald X hP 1 0 (by decide) (zcM_1 _ _ _ _ _ _) rfl g7 dX7_apart_64 ?_
        obtain ⟨u8, s8, e8, h⟩ := zb_some h
        refine z_calli hS (z_runV (As := [.int ((s5).1 4 ((1 : Int32)).toNatClampNeg), .int ((s5).1 1 ((131 : Int32)).toNatClampNeg)]) (rest := [.int u5]) X hG hA hE hP hS 0 (kX7_apartFrom (l := l) (D := D) (a := a) (cI := cI) (cJ := cJ) (cC := cC) e8 _) (cwV 2 hts gX7_apart_X7_apartFrom rfl rfl rfl (by decide +kernel) ⟨Nat.le_of_ble_eq_true rfl, Nat.le_of_ble_eq_true rfl⟩) (by decide) (zcM_0 _ _ _ _ _ _) rfl rfl rfl hl.1 rfl (Nat.le_of_ble_eq_true rfl) dX7_apart_65) (fun H locs hP hS => ?_)
        refine lv_iadd hx hb dX7_apart_68 ?_
        refine lv_aload_n hx hb dX7_apart_69 rfl (lv_at hl 0 rfl) ?_
        refine lv_aload_n hx hb dX7_apart_70 rfl (lv_at hl 0 rfl) ?_
        refine z_get (C := RX7) (T := TX7) (N := 26) X inX7 hP 0 (by decide) (zcM_0 _ _ _ _ _ _) rfl 5 (by decide) rfl (by decide +kernel) rfl dX7_apart_71 ?_
        refine lv_iconst (v := 2) hx hb dX7_apart_74 (by decide) ?_
        obtain ⟨g9, h⟩ := zg_some h
        refine z_iald X hP 4 0 (by decide) (zcM_4 _ _ _ _ _ _) rfl g9 dX7_apart_75 ?_
        refine lv_aload_n hx hb dX7_apart_76 rfl (lv_at hl 0 rfl) ?_
        refine z_get (C := RX7) (T := TX7) (N := 26) X inX7 hP 0 (by decide) (zcM_0 _ _ _ _ _ _) rfl 0 (by decide) rfl (by decide +kernel) rfl dX7_apart_77 ?_
        refine lv_sipush (v := 132) hx hb dX7_apart_80 (by decide) ?_
        obtain ⟨g10, h⟩ := zg_some h
        refine z_iald X hP 1 0 (by decide) (zcM_1 _ _ _ _ _ _) rfl g10 dX7_apart_83 ?_
        obtain ⟨u11, s11, e11, h⟩ := zb_some h
        refine z_calli hS (z_runV (As := [.int ((s8).1 4 ((2 : Int32)).toNatClampNeg), .int ((s8).1 1 ((132 : Int32)).toNatClampNeg)]) (rest := [.int (u5 + u8)]) X hG hA hE hP hS 0 (kX7_apartFrom (l := l) (D := D) (a := a) (cI := cI) (cJ := cJ) (cC := cC) e11 _) (cwV 2 hts gX7_apart_X7_apartFrom rfl rfl rfl (by decide +kernel) ⟨Nat.le_of_ble_eq_true rfl, Nat.le_of_ble_eq_true rfl⟩) (by decide) (zcM_0 _ _ _ _ _ _) rfl rfl rfl hl.1 rfl (Nat.le_of_ble_eq_true rfl) dX7_apart_84) (fun H locs hP hS => ?_)
        refine lv_iadd hx hb dX7_apart_87 ?_
        exact z_iret X hP hS hr hlocks h dX7_apart_88
      · have h := zif_f h c1
        refine lv_aload_n hx hb dX7_apart_11 rfl (lv_at hl 0 rfl) ?_
        refine lv_aload_n hx hb dX7_apart_12 rfl (lv_at hl 0 rfl) ?_
        refine z_get (C := RX7) (T := TX7) (N := 26) X inX7 hP 0 (by decide) (zcM_0 _ _ _ _ _ _) rfl 17 (by decide) rfl (by decide +kernel) rfl dX7_apart_13 ?_
        refine lv_iload_n hx hb dX7_apart_16 rfl (lv_at hl 3 rfl) ?_
        obtain ⟨g12, h⟩ := zg_some h
        refine z_iald X hP 12 0 (by decide) (zcM_12 _ _ _ _ _ _) rfl g12 dX7_apart_17 ?_
        obtain ⟨u13, s13, e13, h⟩ := zb_some h
        refine z_callv hS (z_runV (As := [.int ((s).1 12 (x3).toNatClampNeg)]) (rest := []) X hG hA hE hP hS 0 (kX7_lays (l := l) (D := D) (a := a) (cI := cI) (cJ := cJ) (cC := cC) e13 _) (cwV 1 hts gX7_apart_X7_lays rfl rfl rfl (by decide +kernel) ⟨Nat.le_of_ble_eq_true rfl, Nat.le_of_ble_eq_true rfl⟩) (by decide) (zcM_0 _ _ _ _ _ _) rfl rfl rfl hl.1 rfl (Nat.le_of_ble_eq_true rfl) dX7_apart_18) (fun H locs hP hS => ?_)
        refine lv_iinc (v := (x3 + (1 : Int32))) (lv' := [(3, .int (x3 + (1 : Int32))), (0, .ref (a 0)), (1, .int x1), (2, .int x2)]) hx hb dX7_apart_21 hl (k := 3) rfl rfl (by decide) rfl (fun ls hl => ?_)
        refine lv_goto (tgt := 6) hx hb dX7_apart_24 (by decide) ?_
        exact ih (x1) (x2) ((x3 + (1 : Int32))) (s13) _ _ _ h hP hS (lv_sub hl [1, 2, 3, 0] rfl)
  have hl : lv_has ls 4 [(0, .ref (a 0)), (1, .int x1), (2, .int x2)] := hl
  refine lv_aload_n hx hb dX7_apart_0 rfl (lv_at hl 0 rfl) ?_
  obtain ⟨u1, s1, e1, h⟩ := zb_some h
  refine z_callv hS (z_runV (As := []) (rest := []) X hG hA hE hP hS 0 (kX7_begins (l := l) (D := D) (a := a) (cI := cI) (cJ := cJ) (cC := cC) e1 _) (cwV 0 hts gX7_apart_X7_begins rfl rfl rfl (by decide +kernel) ⟨Nat.le_of_ble_eq_true rfl, Nat.le_of_ble_eq_true rfl⟩) (by decide) (zcM_0 _ _ _ _ _ _) rfl rfl rfl hl.1 rfl (Nat.le_of_ble_eq_true rfl) dX7_apart_1) (fun H locs hP hS => ?_)
  refine lv_iconst (v := 0) hx hb dX7_apart_4 (by decide) ?_
  refine lv_istore_n (lv' := [(3, .int (0 : Int32)), (0, .ref (a 0)), (1, .int x1), (2, .int x2)]) hx hb dX7_apart_5 rfl hl (by decide) rfl (fun ls hl => ?_)
  exact w6  zN (x1) (x2) ((0 : Int32)) (s1) _ _ _ h hP hS (lv_sub hl [1, 2, 3, 0] rfl)
abbrev rmX7_findBest : Room := { frames := 5, cells := 0, slots := 0, locals := 113 }
set_option maxHeartbeats 4000000 in
set_option maxRecDepth 100000 in
theorem kX7_findBest {l : Launch} {D : va_G} {a : Nat → Nat} {cI cJ cC : ClassId} {x1 : Int32} {x2 : Int32} {s τ : ZS} {r : Unit} (h : fX7_findBest x1 x2 s = some (r, τ)) : zMv (zcM a cI cJ cC) 17 a D [(cI, .int), (cJ, .long), (cC, .char)] zEM l yX7_findBest wsX7_findBest rmX7_findBest [.ref (a 0), .int x1, .int x2] s r τ := by
  refine z_start (cc := cX7_findBest) (maxL := 7) (ret := none) RX7 rfl (by decide) rfl (Nat.le_of_ble_eq_true rfl) ?_
  intro p e st m args below meth c ls H locs X hr hlocks hA hE hP hS hl
  obtain ⟨hx, hb, hml, hown, hts, -⟩ := id X
  have hG := zEM_good
  have inX7 : ∀ w ∈ u_ws RX7 TX7 26, w ∈ wsX7_findBest := by decide +kernel
  have w157 : ∀ (k56 : Int32 → Int32 → Int32 → Int32 → ZS → Option (Unit × ZS)) (hk56 : ∀ (x1 : Int32) (x2 : Int32) (x3 : Int32) (x4 : Int32) (s : ZS) (H : Heap) (locs : List Loc) (ls : Array Slot), k56 x1 x2 x3 x4 s = some (r, τ) → va_P D vwCl (zW (zcM a cI cJ cC) 17 a s) H → va_S (zF 17 a st.heap.size) st.heap H locs → lv_has ls 7 [(0, .ref (a 0)), (1, .int x1), (2, .int x2), (3, .int x3), (4, .int x4)] → W p l e rmX7_findBest st m args below meth c H locs 0 0 (MQ below (va_Qv (fun (τ' : ZS) => τ' = τ) (zPost (zcM a cI cJ cC) 17 a D [(cI, .int), (cJ, .long), (cC, .char)]) (zF 17 a st.heap.size)) args st 0 0 (zF 17 a st.heap.size)) (F0 m 56 ls [])) (x1 : Int32) (x2 : Int32) (x3 : Int32) (t1 : Int32) (t2 : Int32) (s : ZS) (H : Heap) (locs : List Loc) (ls : Array Slot), fX7_findBest_157 k56 x1 x2 x3 t1 t2 s = some (r, τ) → va_P D vwCl (zW (zcM a cI cJ cC) 17 a s) H → va_S (zF 17 a st.heap.size) st.heap H locs → lv_has ls 7 [(0, .ref (a 0)), (1, .int x1), (2, .int x2), (3, .int x3)] → W p l e rmX7_findBest st m args below meth c H locs 0 0 (MQ below (va_Qv (fun (τ' : ZS) => τ' = τ) (zPost (zcM a cI cJ cC) 17 a D [(cI, .int), (cJ, .long), (cC, .char)]) (zF 17 a st.heap.size)) args st 0 0 (zF 17 a st.heap.size)) (F0 m 157 ls [.int t2, .int t1, .ref (a 0)]) := by
    intro k56 hk56 x1 x2 x3 t1 t2 s H locs ls h hP hS hl
    refine lv_iadd hx hb dX7_findBest_157 ?_
    refine z_put (ty := .int) (x := (t1 + t2)) (C := RX7) (T := TX7) (N := 26) X inX7 tyX7 tyX7_ok nmX7 hA hP hS 0 (by decide) (zcM_0 _ _ _ _ _ _) rfl 21 (by decide) rfl (by decide +kernel) rfl (by decide +kernel) rfl rfl (Nat.le_of_ble_eq_true rfl) rfl dX7_findBest_158 (fun H locs hP hS => ?_)
    refine lv_aload_n hx hb dX7_findBest_161 rfl (lv_at hl 0 rfl) ?_
    refine lv_iload_n hx hb dX7_findBest_162 rfl (lv_at hl 3 rfl) ?_
    obtain ⟨u1, s1, e1, h⟩ := zb_some h
    refine z_calli hS (z_runV (As := [.int x3]) (rest := []) X hG hA hE hP hS 0 (kX7_next (l := l) (D := D) (a := a) (cI := cI) (cJ := cJ) (cC := cC) e1 _) (cwV 1 hts gX7_findBest_X7_next rfl rfl rfl (by decide +kernel) ⟨Nat.le_of_ble_eq_true rfl, Nat.le_of_ble_eq_true rfl⟩) (by decide) (zcM_0 _ _ _ _ _ _) rfl rfl rfl hl.1 rfl (Nat.le_of_ble_eq_true rfl) dX7_findBest_163) (fun H locs hP hS => ?_)
    refine lv_istore (lv' := [(4, .int u1), (0, .ref (a 0)), (1, .int x1), (2, .int x2), (3, .int x3)]) hx hb dX7_findBest_166 hl (by decide) rfl (fun ls hl => ?_)
    refine lv_goto (tgt := 56) hx hb dX7_findBest_168 (by decide) ?_
    exact hk56 (x1) (x2) (x3) (u1) (s1) _ _ _ h hP hS (lv_sub hl [1, 2, 3, 4, 0] rfl)
  have w156 : ∀ (k157 : Int32 → Int32 → Int32 → Int32 → Int32 → ZS → Option (Unit × ZS)) (hk157 : ∀ (x1 : Int32) (x2 : Int32) (x3 : Int32) (t1 : Int32) (t2 : Int32) (s : ZS) (H : Heap) (locs : List Loc) (ls : Array Slot), k157 x1 x2 x3 t1 t2 s = some (r, τ) → va_P D vwCl (zW (zcM a cI cJ cC) 17 a s) H → va_S (zF 17 a st.heap.size) st.heap H locs → lv_has ls 7 [(0, .ref (a 0)), (1, .int x1), (2, .int x2), (3, .int x3)] → W p l e rmX7_findBest st m args below meth c H locs 0 0 (MQ below (va_Qv (fun (τ' : ZS) => τ' = τ) (zPost (zcM a cI cJ cC) 17 a D [(cI, .int), (cJ, .long), (cC, .char)]) (zF 17 a st.heap.size)) args st 0 0 (zF 17 a st.heap.size)) (F0 m 157 ls [.int t2, .int t1, .ref (a 0)])) (x1 : Int32) (x2 : Int32) (x3 : Int32) (t1 : Int32) (s : ZS) (H : Heap) (locs : List Loc) (ls : Array Slot), fX7_findBest_156 k157 x1 x2 x3 t1 s = some (r, τ) → va_P D vwCl (zW (zcM a cI cJ cC) 17 a s) H → va_S (zF 17 a st.heap.size) st.heap H locs → lv_has ls 7 [(0, .ref (a 0)), (1, .int x1), (2, .int x2), (3, .int x3)] → W p l e rmX7_findBest st m args below meth c H locs 0 0 (MQ below (va_Qv (fun (τ' : ZS) => τ' = τ) (zPost (zcM a cI cJ cC) 17 a D [(cI, .int), (cJ, .long), (cC, .char)]) (zF 17 a st.heap.size)) args st 0 0 (zF 17 a st.heap.size)) (F0 m 156 ls [.int t1, .ref (a 0)]) := by
    intro k157 hk157 x1 x2 x3 t1 s H locs ls h hP hS hl
    refine lv_iconst (v := 0) hx hb dX7_findBest_156 (by decide) ?_
    exact hk157 (x1) (x2) (x3) (t1) ((0 : Int32)) (s) _ _ _ h hP hS (lv_sub hl [0, 1, 2, 3] rfl)
  have w130 : ∀ (k56 : Int32 → Int32 → Int32 → Int32 → ZS → Option (Unit × ZS)) (hk56 : ∀ (x1 : Int32) (x2 : Int32) (x3 : Int32) (x4 : Int32) (s : ZS) (H : Heap) (locs : List Loc) (ls : Array Slot), k56 x1 x2 x3 x4 s = some (r, τ) → va_P D vwCl (zW (zcM a cI cJ cC) 17 a s) H → va_S (zF 17 a st.heap.size) st.heap H locs → lv_has ls 7 [(0, .ref (a 0)), (1, .int x1), (2, .int x2), (3, .int x3), (4, .int x4)] → W p l e rmX7_findBest st m args below meth c H locs 0 0 (MQ below (va_Qv (fun (τ' : ZS) => τ' = τ) (zPost (zcM a cI cJ cC) 17 a D [(cI, .int), (cJ, .long), (cC, .char)]) (zF 17 a st.heap.size)) args st 0 0 (zF 17 a st.heap.size)) (F0 m 56 ls [])) (x1 : Int32) (x2 : Int32) (x3 : Int32) (x5 : Int32) (s : ZS) (H : Heap) (locs : List Loc) (ls : Array Slot), fX7_findBest_130 k56 x1 x2 x3 x5 s = some (r, τ) → va_P D vwCl (zW (zcM a cI cJ cC) 17 a s) H → va_S (zF 17 a st.heap.size) st.heap H locs → lv_has ls 7 [(0, .ref (a 0)), (1, .int x1), (2, .int x2), (3, .int x3), (5, .int x5)] → W p l e rmX7_findBest st m args below meth c H locs 0 0 (MQ below (va_Qv (fun (τ' : ZS) => τ' = τ) (zPost (zcM a cI cJ cC) 17 a D [(cI, .int), (cJ, .long), (cC, .char)]) (zF 17 a st.heap.size)) args st 0 0 (zF 17 a st.heap.size)) (F0 m 130 ls []) := by
    intro k56 hk56 x1 x2 x3 x5 s H locs ls h hP hS hl
    refine lv_aload_n hx hb dX7_findBest_130 rfl (lv_at hl 0 rfl) ?_
    refine lv_dup hx hb dX7_findBest_131 rfl ?_
    refine z_get (C := RX7) (T := TX7) (N := 26) X inX7 hP 0 (by decide) (zcM_0 _ _ _ _ _ _) rfl 21 (by decide) rfl (by decide +kernel) rfl dX7_findBest_132 ?_
    refine lv_iload hx hb dX7_findBest_135 (lv_at hl 4 rfl) ?_
    refine lv_aload_n hx hb dX7_findBest_137 rfl (lv_at hl 0 rfl) ?_
    refine z_get (C := RX7) (T := TX7) (N := 26) X inX7 hP 0 (by decide) (zcM_0 _ _ _ _ _ _) rfl 20 (by decide) rfl (by decide +kernel) rfl dX7_findBest_138 ?_
    refine lv_icmp_ne (tgt := 156) hx hb dX7_findBest_141 (by decide) (fun c1 => ?_) (fun c1 => ?_)
    · have h := zif_f h c1
      exact w156 (fX7_findBest_157 k56) (fun x1 x2 x3 t1 t2 s H locs ls h hP hS hl => w157 k56 hk56  x1 x2 x3 t1 t2 s H locs ls h hP hS hl)  (x1) (x2) (x3) (((s).1 0 21)) (s) _ _ _ h hP hS (lv_sub hl [0, 1, 2, 3] rfl)
    · have h := zif_t h c1
      refine lv_iload_n hx hb dX7_findBest_144 rfl (lv_at hl 3 rfl) ?_
      refine lv_aload_n hx hb dX7_findBest_145 rfl (lv_at hl 0 rfl) ?_
      refine z_get (C := RX7) (T := TX7) (N := 26) X inX7 hP 0 (by decide) (zcM_0 _ _ _ _ _ _) rfl 19 (by decide) rfl (by decide +kernel) rfl dX7_findBest_146 ?_
      refine lv_icmp_ne (tgt := 156) hx hb dX7_findBest_149 (by decide) (fun c2 => ?_) (fun c2 => ?_)
      · have h := zif_f h c2
        exact w156 (fX7_findBest_157 k56) (fun x1 x2 x3 t1 t2 s H locs ls h hP hS hl => w157 k56 hk56  x1 x2 x3 t1 t2 s H locs ls h hP hS hl)  (x1) (x2) (x3) (((s).1 0 21)) (s) _ _ _ h hP hS (lv_sub hl [0, 1, 2, 3] rfl)
      · have h := zif_t h c2
        refine lv_iconst (v := 1) hx hb dX7_findBest_152 (by decide) ?_
        refine lv_goto (tgt := 157) hx hb dX7_findBest_153 (by decide) ?_
        exact w157 k56 hk56  (x1) (x2) (x3) (((s).1 0 21)) ((1 : Int32)) (s) _ _ _ h hP hS (lv_sub hl [0, 1, 2, 3] rfl)
  have w104 : ∀ (k130 : Int32 → Int32 → Int32 → Int32 → ZS → Option (Unit × ZS)) (hk130 : ∀ (x1 : Int32) (x2 : Int32) (x3 : Int32) (x5 : Int32) (s : ZS) (H : Heap) (locs : List Loc) (ls : Array Slot), k130 x1 x2 x3 x5 s = some (r, τ) → va_P D vwCl (zW (zcM a cI cJ cC) 17 a s) H → va_S (zF 17 a st.heap.size) st.heap H locs → lv_has ls 7 [(0, .ref (a 0)), (1, .int x1), (2, .int x2), (3, .int x3), (5, .int x5)] → W p l e rmX7_findBest st m args below meth c H locs 0 0 (MQ below (va_Qv (fun (τ' : ZS) => τ' = τ) (zPost (zcM a cI cJ cC) 17 a D [(cI, .int), (cJ, .long), (cC, .char)]) (zF 17 a st.heap.size)) args st 0 0 (zF 17 a st.heap.size)) (F0 m 130 ls [])) (n : Nat) (x1 : Int32) (x2 : Int32) (x3 : Int32) (x5 : Int32) (x6 : Int32) (s : ZS) (H : Heap) (locs : List Loc) (ls : Array Slot), fX7_findBest_104n k130 n (x1, x2, x3, x5, x6, s) = some (r, τ) → va_P D vwCl (zW (zcM a cI cJ cC) 17 a s) H → va_S (zF 17 a st.heap.size) st.heap H locs → lv_has ls 7 [(0, .ref (a 0)), (1, .int x1), (2, .int x2), (3, .int x3), (5, .int x5), (6, .int x6)] → W p l e rmX7_findBest st m args below meth c H locs 0 0 (MQ below (va_Qv (fun (τ' : ZS) => τ' = τ) (zPost (zcM a cI cJ cC) 17 a D [(cI, .int), (cJ, .long), (cC, .char)]) (zF 17 a st.heap.size)) args st 0 0 (zF 17 a st.heap.size)) (F0 m 104 ls []) := by
    intro k130 hk130 n
    induction n with
    | zero => intro x1 x2 x3 x5 x6 s H locs ls h; exact zloop_0 h
    | succ n ih =>
      intro x1 x2 x3 x5 x6 s H locs ls h hP hS hl
      have h : fX7_findBest_104b k130 (fun x1 x2 x3 x5 x6 s => fX7_findBest_104n k130 n (x1, x2, x3, x5, x6, s)) x1 x2 x3 x5 x6 s = some (r, τ) := h
      refine lv_iload hx hb dX7_findBest_104 (lv_at hl 5 rfl) ?_
      refine lv_iload_n hx hb dX7_findBest_106 rfl (lv_at hl 3 rfl) ?_
      refine lv_icmp_ge (tgt := 130) hx hb dX7_findBest_107 (by decide) (fun c1 => ?_) (fun c1 => ?_)
      · have h := zif_t h c1
        exact hk130 (x1) (x2) (x3) (x5) (s) _ _ _ h hP hS (lv_sub hl [0, 1, 2, 3, 4] rfl)
      · have h := zif_f h c1
        refine lv_aload_n hx hb dX7_findBest_110 rfl (lv_at hl 0 rfl) ?_
        refine z_get (C := RX7) (T := TX7) (N := 26) X inX7 hP 0 (by decide) (zcM_0 _ _ _ _ _ _) rfl 18 (by decide) rfl (by decide +kernel) rfl dX7_findBest_111 ?_
        refine lv_iload hx hb dX7_findBest_114 (lv_at hl 5 rfl) ?_
        refine lv_aload_n hx hb dX7_findBest_116 rfl (lv_at hl 0 rfl) ?_
        refine z_get (C := RX7) (T := TX7) (N := 26) X inX7 hP 0 (by decide) (zcM_0 _ _ _ _ _ _) rfl 17 (by decide) rfl (by decide +kernel) rfl dX7_findBest_117 ?_
        refine lv_iload hx hb dX7_findBest_120 (lv_at hl 5 rfl) ?_
        obtain ⟨g2, h⟩ := zg_some h
        refine z_iald X hP 12 0 (by decide) (zcM_12 _ _ _ _ _ _) rfl g2 dX7_findBest_122 ?_
        obtain ⟨g3, h⟩ := zg_some h
        refine z_iast X hA hP hS 13 0 (by decide) (zcM_13 _ _ _ _) rfl g3 dX7_findBest_123 (fun H locs hP hS => ?_)
        refine lv_iinc (v := (x6 + (1 : Int32))) (lv' := [(6, .int (x6 + (1 : Int32))), (0, .ref (a 0)), (1, .int x1), (2, .int x2), (3, .int x3), (5, .int x5)]) hx hb dX7_findBest_124 hl (k := 5) rfl rfl (by decide) rfl (fun ls hl => ?_)
        refine lv_goto (tgt := 104) hx hb dX7_findBest_127 (by decide) ?_
        exact ih (x1) (x2) (x3) (x5) ((x6 + (1 : Int32))) ((zI s 13 (x6).toNatClampNeg ((s).1 12 (x6).toNatClampNeg))) _ _ _ h hP hS (lv_sub hl [1, 2, 3, 4, 5, 0] rfl)
  have w85 : ∀ (k130 : Int32 → Int32 → Int32 → Int32 → ZS → Option (Unit × ZS)) (hk130 : ∀ (x1 : Int32) (x2 : Int32) (x3 : Int32) (x5 : Int32) (s : ZS) (H : Heap) (locs : List Loc) (ls : Array Slot), k130 x1 x2 x3 x5 s = some (r, τ) → va_P D vwCl (zW (zcM a cI cJ cC) 17 a s) H → va_S (zF 17 a st.heap.size) st.heap H locs → lv_has ls 7 [(0, .ref (a 0)), (1, .int x1), (2, .int x2), (3, .int x3), (5, .int x5)] → W p l e rmX7_findBest st m args below meth c H locs 0 0 (MQ below (va_Qv (fun (τ' : ZS) => τ' = τ) (zPost (zcM a cI cJ cC) 17 a D [(cI, .int), (cJ, .long), (cC, .char)]) (zF 17 a st.heap.size)) args st 0 0 (zF 17 a st.heap.size)) (F0 m 130 ls [])) (x1 : Int32) (x2 : Int32) (x3 : Int32) (x5 : Int32) (s : ZS) (H : Heap) (locs : List Loc) (ls : Array Slot), fX7_findBest_85 k130 x1 x2 x3 x5 s = some (r, τ) → va_P D vwCl (zW (zcM a cI cJ cC) 17 a s) H → va_S (zF 17 a st.heap.size) st.heap H locs → lv_has ls 7 [(0, .ref (a 0)), (1, .int x1), (2, .int x2), (3, .int x3), (5, .int x5)] → W p l e rmX7_findBest st m args below meth c H locs 0 0 (MQ below (va_Qv (fun (τ' : ZS) => τ' = τ) (zPost (zcM a cI cJ cC) 17 a D [(cI, .int), (cJ, .long), (cC, .char)]) (zF 17 a st.heap.size)) args st 0 0 (zF 17 a st.heap.size)) (F0 m 85 ls []) := by
    intro k130 hk130 x1 x2 x3 x5 s H locs ls h hP hS hl
    refine lv_aload_n hx hb dX7_findBest_85 rfl (lv_at hl 0 rfl) ?_
    refine lv_iload_n hx hb dX7_findBest_86 rfl (lv_at hl 3 rfl) ?_
    refine z_put (ty := .int) (x := x3) (C := RX7) (T := TX7) (N := 26) X inX7 tyX7 tyX7_ok nmX7 hA hP hS 0 (by decide) (zcM_0 _ _ _ _ _ _) rfl 19 (by decide) rfl (by decide +kernel) rfl (by decide +kernel) rfl rfl (Nat.le_of_ble_eq_true rfl) rfl dX7_findBest_87 (fun H locs hP hS => ?_)
    refine lv_aload_n hx hb dX7_findBest_90 rfl (lv_at hl 0 rfl) ?_
    refine lv_iload hx hb dX7_findBest_91 (lv_at hl 4 rfl) ?_
    refine z_put (ty := .int) (x := x5) (C := RX7) (T := TX7) (N := 26) X inX7 tyX7 tyX7_ok nmX7 hA hP hS 0 (by decide) (zcM_0 _ _ _ _ _ _) rfl 20 (by decide) rfl (by decide +kernel) rfl (by decide +kernel) rfl rfl (Nat.le_of_ble_eq_true rfl) rfl dX7_findBest_93 (fun H locs hP hS => ?_)
    refine lv_aload_n hx hb dX7_findBest_96 rfl (lv_at hl 0 rfl) ?_
    refine lv_iconst (v := 0) hx hb dX7_findBest_97 (by decide) ?_
    refine z_put (ty := .int) (x := (0 : Int32)) (C := RX7) (T := TX7) (N := 26) X inX7 tyX7 tyX7_ok nmX7 hA hP hS 0 (by decide) (zcM_0 _ _ _ _ _ _) rfl 21 (by decide) rfl (by decide +kernel) rfl (by decide +kernel) rfl rfl (Nat.le_of_ble_eq_true rfl) rfl dX7_findBest_98 (fun H locs hP hS => ?_)
    refine lv_iconst (v := 0) hx hb dX7_findBest_101 (by decide) ?_
    refine lv_istore (lv' := [(6, .int (0 : Int32)), (0, .ref (a 0)), (1, .int x1), (2, .int x2), (3, .int x3), (5, .int x5)]) hx hb dX7_findBest_102 hl (by decide) rfl (fun ls hl => ?_)
    exact w104 k130 hk130 zN (x1) (x2) (x3) (x5) ((0 : Int32)) ((zI (zI (zI s 0 19 x3) 0 20 x5) 0 21 (0 : Int32))) _ _ _ h hP hS (lv_sub hl [1, 2, 3, 4, 5, 0] rfl)
  have w56 : ∀ (k12 : Int32 → Int32 → Int32 → ZS → Option (Unit × ZS)) (hk12 : ∀ (x1 : Int32) (x2 : Int32) (x3 : Int32) (s : ZS) (H : Heap) (locs : List Loc) (ls : Array Slot), k12 x1 x2 x3 s = some (r, τ) → va_P D vwCl (zW (zcM a cI cJ cC) 17 a s) H → va_S (zF 17 a st.heap.size) st.heap H locs → lv_has ls 7 [(0, .ref (a 0)), (1, .int x1), (2, .int x2), (3, .int x3)] → W p l e rmX7_findBest st m args below meth c H locs 0 0 (MQ below (va_Qv (fun (τ' : ZS) => τ' = τ) (zPost (zcM a cI cJ cC) 17 a D [(cI, .int), (cJ, .long), (cC, .char)]) (zF 17 a st.heap.size)) args st 0 0 (zF 17 a st.heap.size)) (F0 m 12 ls [])) (n : Nat) (x1 : Int32) (x2 : Int32) (x3 : Int32) (x4 : Int32) (s : ZS) (H : Heap) (locs : List Loc) (ls : Array Slot), fX7_findBest_56n k12 n (x1, x2, x3, x4, s) = some (r, τ) → va_P D vwCl (zW (zcM a cI cJ cC) 17 a s) H → va_S (zF 17 a st.heap.size) st.heap H locs → lv_has ls 7 [(0, .ref (a 0)), (1, .int x1), (2, .int x2), (3, .int x3), (4, .int x4)] → W p l e rmX7_findBest st m args below meth c H locs 0 0 (MQ below (va_Qv (fun (τ' : ZS) => τ' = τ) (zPost (zcM a cI cJ cC) 17 a D [(cI, .int), (cJ, .long), (cC, .char)]) (zF 17 a st.heap.size)) args st 0 0 (zF 17 a st.heap.size)) (F0 m 56 ls []) := by
    intro k12 hk12 n
    induction n with
    | zero => intro x1 x2 x3 x4 s H locs ls h; exact zloop_0 h
    | succ n ih =>
      intro x1 x2 x3 x4 s H locs ls h hP hS hl
      have h : fX7_findBest_56b k12 (fun x1 x2 x3 x4 s => fX7_findBest_56n k12 n (x1, x2, x3, x4, s)) x1 x2 x3 x4 s = some (r, τ) := h
      refine lv_iload hx hb dX7_findBest_56 (lv_at hl 4 rfl) ?_
      refine lv_if_eq (tgt := 171) hx hb dX7_findBest_58 (by decide) (fun c1 => ?_) (fun c1 => ?_)
      · have h := zif_t h c1
        refine lv_iinc (v := (x3 + (1 : Int32))) (lv' := [(3, .int (x3 + (1 : Int32))), (0, .ref (a 0)), (1, .int x1), (2, .int x2), (4, .int x4)]) hx hb dX7_findBest_171 hl (k := 3) rfl rfl (by decide) rfl (fun ls hl => ?_)
        refine lv_goto (tgt := 12) hx hb dX7_findBest_174 (by decide) ?_
        exact hk12 (x1) (x2) ((x3 + (1 : Int32))) (s) _ _ _ h hP hS (lv_sub hl [1, 2, 3, 0] rfl)
      · have h := zif_f h c1
        refine lv_aload_n hx hb dX7_findBest_61 rfl (lv_at hl 0 rfl) ?_
        refine lv_iload_n hx hb dX7_findBest_62 rfl (lv_at hl 3 rfl) ?_
        refine lv_iload_n hx hb dX7_findBest_63 rfl (lv_at hl 2 rfl) ?_
        obtain ⟨u2, s2, e2, h⟩ := zb_some h
        refine z_calli hS (z_runV (As := [.int x3, .int x2]) (rest := []) X hG hA hE hP hS 0 (kX7_apart (l := l) (D := D) (a := a) (cI := cI) (cJ := cJ) (cC := cC) e2 _) (cwV 2 hts gX7_findBest_X7_apart rfl rfl rfl (by decide +kernel) ⟨Nat.le_of_ble_eq_true rfl, Nat.le_of_ble_eq_true rfl⟩) (by decide) (zcM_0 _ _ _ _ _ _) rfl rfl rfl hl.1 rfl (Nat.le_of_ble_eq_true rfl) dX7_findBest_64) (fun H locs hP hS => ?_)
        refine lv_istore (lv' := [(5, .int u2), (0, .ref (a 0)), (1, .int x1), (2, .int x2), (3, .int x3), (4, .int x4)]) hx hb dX7_findBest_67 hl (by decide) rfl (fun ls hl => ?_)
        refine lv_aload_n hx hb dX7_findBest_69 rfl (lv_at hl 1 rfl) ?_
        refine z_get (C := RX7) (T := TX7) (N := 26) X inX7 hP 0 (by decide) (zcM_0 _ _ _ _ _ _) rfl 19 (by decide) rfl (by decide +kernel) rfl dX7_findBest_70 ?_
        refine lv_if_lt (tgt := 85) hx hb dX7_findBest_73 (by decide) (fun c3 => ?_) (fun c3 => ?_)
        · have h := zif_t h c3
          exact w85 (fX7_findBest_130 (fun x1 x2 x3 x4 s => fX7_findBest_56n k12 n (x1, x2, x3, x4, s))) (fun x1 x2 x3 x5 s H locs ls h hP hS hl => w130 (fun x1 x2 x3 x4 s => fX7_findBest_56n k12 n (x1, x2, x3, x4, s)) (fun x1 x2 x3 x4 s H locs ls h hP hS hl => ih x1 x2 x3 x4 s H locs ls h hP hS hl)  x1 x2 x3 x5 s H locs ls h hP hS hl)  (x1) (x2) (x3) (u2) (s2) _ _ _ h hP hS (lv_sub hl [1, 2, 3, 4, 0] rfl)
        · have h := zif_f h c3
          refine lv_iload hx hb dX7_findBest_76 (lv_at hl 0 rfl) ?_
          refine lv_aload_n hx hb dX7_findBest_78 rfl (lv_at hl 1 rfl) ?_
          refine z_get (C := RX7) (T := TX7) (N := 26) X inX7 hP 0 (by decide) (zcM_0 _ _ _ _ _ _) rfl 20 (by decide) rfl (by decide +kernel) rfl dX7_findBest_79 ?_
          refine lv_icmp_ge (tgt := 130) hx hb dX7_findBest_82 (by decide) (fun c4 => ?_) (fun c4 => ?_)
          · have h := zif_t h c4
            exact w130 (fun x1 x2 x3 x4 s => fX7_findBest_56n k12 n (x1, x2, x3, x4, s)) (fun x1 x2 x3 x4 s H locs ls h hP hS hl => ih x1 x2 x3 x4 s H locs ls h hP hS hl)  (x1) (x2) (x3) (u2) (s2) _ _ _ h hP hS (lv_sub hl [1, 2, 3, 4, 0] rfl)
          · have h := zif_f h c4
            exact w85 (fX7_findBest_130 (fun x1 x2 x3 x4 s => fX7_findBest_56n k12 n (x1, x2, x3, x4, s))) (fun x1 x2 x3 x5 s H locs ls h hP hS hl => w130 (fun x1 x2 x3 x4 s => fX7_findBest_56n k12 n (x1, x2, x3, x4, s)) (fun x1 x2 x3 x4 s H locs ls h hP hS hl => ih x1 x2 x3 x4 s H locs ls h hP hS hl)  x1 x2 x3 x5 s H locs ls h hP hS hl)  (x1) (x2) (x3) (u2) (s2) _ _ _ h hP hS (lv_sub hl [1, 2, 3, 4, 0] rfl)
  have w33 : ∀ (k12 : Int32 → Int32 → Int32 → ZS → Option (Unit × ZS)) (hk12 : ∀ (x1 : Int32) (x2 : Int32) (x3 : Int32) (s : ZS) (H : Heap) (locs : List Loc) (ls : Array Slot), k12 x1 x2 x3 s = some (r, τ) → va_P D vwCl (zW (zcM a cI cJ cC) 17 a s) H → va_S (zF 17 a st.heap.size) st.heap H locs → lv_has ls 7 [(0, .ref (a 0)), (1, .int x1), (2, .int x2), (3, .int x3)] → W p l e rmX7_findBest st m args below meth c H locs 0 0 (MQ below (va_Qv (fun (τ' : ZS) => τ' = τ) (zPost (zcM a cI cJ cC) 17 a D [(cI, .int), (cJ, .long), (cC, .char)]) (zF 17 a st.heap.size)) args st 0 0 (zF 17 a st.heap.size)) (F0 m 12 ls [])) (n : Nat) (x1 : Int32) (x2 : Int32) (x3 : Int32) (x4 : Int32) (s : ZS) (H : Heap) (locs : List Loc) (ls : Array Slot), fX7_findBest_33n k12 n (x1, x2, x3, x4, s) = some (r, τ) → va_P D vwCl (zW (zcM a cI cJ cC) 17 a s) H → va_S (zF 17 a st.heap.size) st.heap H locs → lv_has ls 7 [(0, .ref (a 0)), (1, .int x1), (2, .int x2), (3, .int x3), (4, .int x4)] → W p l e rmX7_findBest st m args below meth c H locs 0 0 (MQ below (va_Qv (fun (τ' : ZS) => τ' = τ) (zPost (zcM a cI cJ cC) 17 a D [(cI, .int), (cJ, .long), (cC, .char)]) (zF 17 a st.heap.size)) args st 0 0 (zF 17 a st.heap.size)) (F0 m 33 ls []) := by
    intro k12 hk12 n
    induction n with
    | zero => intro x1 x2 x3 x4 s H locs ls h; exact zloop_0 h
    | succ n ih =>
      intro x1 x2 x3 x4 s H locs ls h hP hS hl
      have h : fX7_findBest_33b k12 (fun x1 x2 x3 x4 s => fX7_findBest_33n k12 n (x1, x2, x3, x4, s)) x1 x2 x3 x4 s = some (r, τ) := h
      refine lv_iload hx hb dX7_findBest_33 (lv_at hl 4 rfl) ?_
      refine lv_iload_n hx hb dX7_findBest_35 rfl (lv_at hl 3 rfl) ?_
      refine lv_icmp_ge (tgt := 53) hx hb dX7_findBest_36 (by decide) (fun c1 => ?_) (fun c1 => ?_)
      · have h := zif_t h c1
        refine lv_iconst (v := 1) hx hb dX7_findBest_53 (by decide) ?_
        refine lv_istore (lv' := [(4, .int (1 : Int32)), (0, .ref (a 0)), (1, .int x1), (2, .int x2), (3, .int x3)]) hx hb dX7_findBest_54 hl (by decide) rfl (fun ls hl => ?_)
        exact w56 k12 hk12 zN (x1) (x2) (x3) ((1 : Int32)) (s) _ _ _ h hP hS (lv_sub hl [1, 2, 3, 4, 0] rfl)
      · have h := zif_f h c1
        refine lv_aload_n hx hb dX7_findBest_39 rfl (lv_at hl 0 rfl) ?_
        refine z_get (C := RX7) (T := TX7) (N := 26) X inX7 hP 0 (by decide) (zcM_0 _ _ _ _ _ _) rfl 17 (by decide) rfl (by decide +kernel) rfl dX7_findBest_40 ?_
        refine lv_iload hx hb dX7_findBest_43 (lv_at hl 4 rfl) ?_
        refine lv_iconst (v := 0) hx hb dX7_findBest_45 (by decide) ?_
        obtain ⟨g2, h⟩ := zg_some h
        refine z_iast X hA hP hS 12 0 (by decide) (zcM_12 _ _ _ _) rfl g2 dX7_findBest_46 (fun H locs hP hS => ?_)
        refine lv_iinc (v := (x4 + (1 : Int32))) (lv' := [(4, .int (x4 + (1 : Int32))), (0, .ref (a 0)), (1, .int x1), (2, .int x2), (3, .int x3)]) hx hb dX7_findBest_47 hl (k := 4) rfl rfl (by decide) rfl (fun ls hl => ?_)
        refine lv_goto (tgt := 33) hx hb dX7_findBest_50 (by decide) ?_
        exact ih (x1) (x2) (x3) ((x4 + (1 : Int32))) ((zI s 12 (x4).toNatClampNeg (0 : Int32))) _ _ _ h hP hS (lv_sub hl [1, 2, 3, 4, 0] rfl)
  have w30 : ∀ (k12 : Int32 → Int32 → Int32 → ZS → Option (Unit × ZS)) (hk12 : ∀ (x1 : Int32) (x2 : Int32) (x3 : Int32) (s : ZS) (H : Heap) (locs : List Loc) (ls : Array Slot), k12 x1 x2 x3 s = some (r, τ) → va_P D vwCl (zW (zcM a cI cJ cC) 17 a s) H → va_S (zF 17 a st.heap.size) st.heap H locs → lv_has ls 7 [(0, .ref (a 0)), (1, .int x1), (2, .int x2), (3, .int x3)] → W p l e rmX7_findBest st m args below meth c H locs 0 0 (MQ below (va_Qv (fun (τ' : ZS) => τ' = τ) (zPost (zcM a cI cJ cC) 17 a D [(cI, .int), (cJ, .long), (cC, .char)]) (zF 17 a st.heap.size)) args st 0 0 (zF 17 a st.heap.size)) (F0 m 12 ls [])) (x1 : Int32) (x2 : Int32) (x3 : Int32) (s : ZS) (H : Heap) (locs : List Loc) (ls : Array Slot), fX7_findBest_30 k12 x1 x2 x3 s = some (r, τ) → va_P D vwCl (zW (zcM a cI cJ cC) 17 a s) H → va_S (zF 17 a st.heap.size) st.heap H locs → lv_has ls 7 [(0, .ref (a 0)), (1, .int x1), (2, .int x2), (3, .int x3)] → W p l e rmX7_findBest st m args below meth c H locs 0 0 (MQ below (va_Qv (fun (τ' : ZS) => τ' = τ) (zPost (zcM a cI cJ cC) 17 a D [(cI, .int), (cJ, .long), (cC, .char)]) (zF 17 a st.heap.size)) args st 0 0 (zF 17 a st.heap.size)) (F0 m 30 ls []) := by
    intro k12 hk12 x1 x2 x3 s H locs ls h hP hS hl
    refine lv_iconst (v := 0) hx hb dX7_findBest_30 (by decide) ?_
    refine lv_istore (lv' := [(4, .int (0 : Int32)), (0, .ref (a 0)), (1, .int x1), (2, .int x2), (3, .int x3)]) hx hb dX7_findBest_31 hl (by decide) rfl (fun ls hl => ?_)
    exact w33 k12 hk12 zN (x1) (x2) (x3) ((0 : Int32)) (s) _ _ _ h hP hS (lv_sub hl [1, 2, 3, 4, 0] rfl)
  have w12 : ∀  (n : Nat) (x1 : Int32) (x2 : Int32) (x3 : Int32) (s : ZS) (H : Heap) (locs : List Loc) (ls : Array Slot), fX7_findBest_12n  n (x1, x2, x3, s) = some (r, τ) → va_P D vwCl (zW (zcM a cI cJ cC) 17 a s) H → va_S (zF 17 a st.heap.size) st.heap H locs → lv_has ls 7 [(0, .ref (a 0)), (1, .int x1), (2, .int x2), (3, .int x3)] → W p l e rmX7_findBest st m args below meth c H locs 0 0 (MQ below (va_Qv (fun (τ' : ZS) => τ' = τ) (zPost (zcM a cI cJ cC) 17 a D [(cI, .int), (cJ, .long), (cC, .char)]) (zF 17 a st.heap.size)) args st 0 0 (zF 17 a st.heap.size)) (F0 m 12 ls []) := by
    intro  n
    induction n with
    | zero => intro x1 x2 x3 s H locs ls h; exact zloop_0 h
    | succ n ih =>
      intro x1 x2 x3 s H locs ls h hP hS hl
      have h : fX7_findBest_12b  (fun x1 x2 x3 s => fX7_findBest_12n  n (x1, x2, x3, s)) x1 x2 x3 s = some (r, τ) := h
      refine lv_iload_n hx hb dX7_findBest_12 rfl (lv_at hl 3 rfl) ?_
      refine lv_iload_n hx hb dX7_findBest_13 rfl (lv_at hl 1 rfl) ?_
      refine lv_icmp_gt (tgt := 177) hx hb dX7_findBest_14 (by decide) (fun c1 => ?_) (fun c1 => ?_)
      · have h := zif_t h c1
        exact z_vret X hP hS hr hlocks h dX7_findBest_177
      · have h := zif_f h c1
        refine lv_iload_n hx hb dX7_findBest_17 rfl (lv_at hl 3 rfl) ?_
        refine lv_if_eq (tgt := 30) hx hb dX7_findBest_18 (by decide) (fun c2 => ?_) (fun c2 => ?_)
        · have h := zif_t h c2
          exact w30 (fun x1 x2 x3 s => fX7_findBest_12n  n (x1, x2, x3, s)) (fun x1 x2 x3 s H locs ls h hP hS hl => ih x1 x2 x3 s H locs ls h hP hS hl)  (x1) (x2) (x3) (s) _ _ _ h hP hS (lv_sub hl [0, 1, 2, 3] rfl)
        · have h := zif_f h c2
          refine lv_aload_n hx hb dX7_findBest_21 rfl (lv_at hl 0 rfl) ?_
          refine z_get (C := RX7) (T := TX7) (N := 26) X inX7 hP 0 (by decide) (zcM_0 _ _ _ _ _ _) rfl 0 (by decide) rfl (by decide +kernel) rfl dX7_findBest_22 ?_
          refine lv_iconst (v := 0) hx hb dX7_findBest_25 (by decide) ?_
          obtain ⟨g3, h⟩ := zg_some h
          refine z_iald X hP 1 0 (by decide) (zcM_1 _ _ _ _ _ _) rfl g3 dX7_findBest_26 ?_
          refine lv_if_le (tgt := 177) hx hb dX7_findBest_27 (by decide) (fun c4 => ?_) (fun c4 => ?_)
          · have h := zif_t h c4
            exact z_vret X hP hS hr hlocks h dX7_findBest_177
          · have h := zif_f h c4
            exact w30 (fun x1 x2 x3 s => fX7_findBest_12n  n (x1, x2, x3, s)) (fun x1 x2 x3 s H locs ls h hP hS hl => ih x1 x2 x3 s H locs ls h hP hS hl)  (x1) (x2) (x3) (s) _ _ _ h hP hS (lv_sub hl [0, 1, 2, 3] rfl)
  have hl : lv_has ls 7 [(0, .ref (a 0)), (1, .int x1), (2, .int x2)] := hl
  refine lv_aload_n hx hb dX7_findBest_0 rfl (lv_at hl 0 rfl) ?_
  refine lv_iconst (v := -1) hx hb dX7_findBest_1 (by decide) ?_
  refine z_put (ty := .int) (x := (-1 : Int32)) (C := RX7) (T := TX7) (N := 26) X inX7 tyX7 tyX7_ok nmX7 hA hP hS 0 (by decide) (zcM_0 _ _ _ _ _ _) rfl 19 (by decide) rfl (by decide +kernel) rfl (by decide +kernel) rfl rfl (Nat.le_of_ble_eq_true rfl) rfl dX7_findBest_2 (fun H locs hP hS => ?_)
  refine lv_aload_n hx hb dX7_findBest_5 rfl (lv_at hl 0 rfl) ?_
  refine lv_iconst (v := 0) hx hb dX7_findBest_6 (by decide) ?_
  refine z_put (ty := .int) (x := (0 : Int32)) (C := RX7) (T := TX7) (N := 26) X inX7 tyX7 tyX7_ok nmX7 hA hP hS 0 (by decide) (zcM_0 _ _ _ _ _ _) rfl 21 (by decide) rfl (by decide +kernel) rfl (by decide +kernel) rfl rfl (Nat.le_of_ble_eq_true rfl) rfl dX7_findBest_7 (fun H locs hP hS => ?_)
  refine lv_iconst (v := 0) hx hb dX7_findBest_10 (by decide) ?_
  refine lv_istore_n (lv' := [(3, .int (0 : Int32)), (0, .ref (a 0)), (1, .int x1), (2, .int x2)]) hx hb dX7_findBest_11 rfl hl (by decide) rfl (fun ls hl => ?_)
  exact w12  zN (x1) (x2) ((0 : Int32)) ((zI (zI s 0 19 (-1 : Int32)) 0 21 (0 : Int32))) _ _ _ h hP hS (lv_sub hl [1, 2, 3, 0] rfl)
abbrev rmX7_bestOf : Room := { frames := 0, cells := 0, slots := 0, locals := 0 }
set_option maxHeartbeats 4000000 in
set_option maxRecDepth 100000 in
theorem kX7_bestOf {l : Launch} {D : va_G} {a : Nat → Nat} {cI cJ cC : ClassId} {x1 : Int32} {s τ : ZS} {r : Int32} (h : fX7_bestOf x1 s = some (r, τ)) : zMi (zcM a cI cJ cC) 17 a D [(cI, .int), (cJ, .long), (cC, .char)] zEM l yX7_bestOf wsX7_bestOf rmX7_bestOf [.ref (a 0), .int x1] s r τ := by
  refine z_start (cc := cX7_bestOf) (maxL := 2) (ret := (some .int)) RX7 rfl (by decide) rfl (Nat.le_of_ble_eq_true rfl) ?_
  intro p e st m args below meth c ls H locs X hr hlocks hA hE hP hS hl
  obtain ⟨hx, hb, hml, hown, hts, -⟩ := id X
  have hG := zEM_good
  have inX7 : ∀ w ∈ u_ws RX7 TX7 26, w ∈ wsX7_bestOf := by decide +kernel
  have hl : lv_has ls 2 [(0, .ref (a 0)), (1, .int x1)] := hl
  refine lv_iload_n hx hb dX7_bestOf_0 rfl (lv_at hl 1 rfl) ?_
  refine lv_aload_n hx hb dX7_bestOf_1 rfl (lv_at hl 0 rfl) ?_
  refine z_get (C := RX7) (T := TX7) (N := 26) X inX7 hP 0 (by decide) (zcM_0 _ _ _ _ _ _) rfl 19 (by decide) rfl (by decide +kernel) rfl dX7_bestOf_2 ?_
  refine lv_icmp_ge (tgt := 17) hx hb dX7_bestOf_5 (by decide) (fun c1 => ?_) (fun c1 => ?_)
  · have h := zif_t h c1
    refine lv_bipush (v := -5) hx hb dX7_bestOf_17 (by decide) ?_
    exact z_iret X hP hS hr hlocks h dX7_bestOf_19
  · have h := zif_f h c1
    refine lv_aload_n hx hb dX7_bestOf_8 rfl (lv_at hl 0 rfl) ?_
    refine z_get (C := RX7) (T := TX7) (N := 26) X inX7 hP 0 (by decide) (zcM_0 _ _ _ _ _ _) rfl 18 (by decide) rfl (by decide +kernel) rfl dX7_bestOf_9 ?_
    refine lv_iload_n hx hb dX7_bestOf_12 rfl (lv_at hl 1 rfl) ?_
    obtain ⟨g2, h⟩ := zg_some h
    refine z_iald X hP 13 0 (by decide) (zcM_13 _ _ _ _ _ _) rfl g2 dX7_bestOf_13 ?_
    refine lv_goto (tgt := 19) hx hb dX7_bestOf_14 (by decide) ?_
    exact z_iret X hP hS hr hlocks h dX7_bestOf_19
abbrev rmX7_fewest : Room := { frames := 6, cells := 0, slots := 0, locals := 139 }
set_option maxHeartbeats 4000000 in
set_option maxRecDepth 100000 in
theorem kX7_fewest {l : Launch} {D : va_G} {a : Nat → Nat} {cI cJ cC : ClassId} {x1 : Int32} {x2 : Int32} {s τ : ZS} {r : Int32} (h : fX7_fewest x1 x2 s = some (r, τ)) : zMi (zcM a cI cJ cC) 17 a D [(cI, .int), (cJ, .long), (cC, .char)] zEM l yX7_fewest wsX7_fewest rmX7_fewest [.ref (a 0), .int x1, .int x2] s r τ := by
  refine z_start (cc := cX7_fewest) (maxL := 3) (ret := (some .int)) RX7 rfl (by decide) rfl (Nat.le_of_ble_eq_true rfl) ?_
  intro p e st m args below meth c ls H locs X hr hlocks hA hE hP hS hl
  obtain ⟨hx, hb, hml, hown, hts, -⟩ := id X
  have hG := zEM_good
  have inX7 : ∀ w ∈ u_ws RX7 TX7 26, w ∈ wsX7_fewest := by decide +kernel
  have w33 : ∀  (x1 : Int32) (x2 : Int32) (s : ZS) (H : Heap) (locs : List Loc) (ls : Array Slot), fX7_fewest_33  x1 x2 s = some (r, τ) → va_P D vwCl (zW (zcM a cI cJ cC) 17 a s) H → va_S (zF 17 a st.heap.size) st.heap H locs → lv_has ls 3 [(0, .ref (a 0)), (1, .int x1), (2, .int x2)] → W p l e rmX7_fewest st m args below meth c H locs 0 0 (MQ below (va_Qi (fun (r' : Int32) (τ' : ZS) => r' = r ∧ τ' = τ) (zPost (zcM a cI cJ cC) 17 a D [(cI, .int), (cJ, .long), (cC, .char)]) (zF 17 a st.heap.size)) args st 0 0 (zF 17 a st.heap.size)) (F0 m 33 ls []) := by
    intro  x1 x2 s H locs ls h hP hS hl
    refine lv_aload_n hx hb dX7_fewest_33 rfl (lv_at hl 0 rfl) ?_
    refine lv_iconst (v := 4) hx hb dX7_fewest_34 (by decide) ?_
    refine lv_iload_n hx hb dX7_fewest_35 rfl (lv_at hl 1 rfl) ?_
    obtain ⟨u1, s1, e1, h⟩ := zb_some h
    refine z_callv hS (z_runV (As := [.int (4 : Int32), .int x1]) (rest := []) X hG hA hE hP hS 0 (kX7_findBest (l := l) (D := D) (a := a) (cI := cI) (cJ := cJ) (cC := cC) e1 _) (cwV 2 hts gX7_fewest_X7_findBest rfl rfl rfl (by decide +kernel) ⟨Nat.le_of_ble_eq_true rfl, Nat.le_of_ble_eq_true rfl⟩) (by decide) (zcM_0 _ _ _ _ _ _) rfl rfl rfl hl.1 rfl (Nat.le_of_ble_eq_true rfl) dX7_fewest_36) (fun H locs hP hS => ?_)
    refine lv_aload_n hx hb dX7_fewest_39 rfl (lv_at hl 0 rfl) ?_
    refine z_get (C := RX7) (T := TX7) (N := 26) X inX7 hP 0 (by decide) (zcM_0 _ _ _ _ _ _) rfl 20 (by decide) rfl (by decide +kernel) rfl dX7_fewest_40 ?_
    refine lv_if_le (tgt := 49) hx hb dX7_fewest_43 (by decide) (fun c2 => ?_) (fun c2 => ?_)
    · have h := zif_t h c2
      refine lv_iload_n hx hb dX7_fewest_49 rfl (lv_at hl 2 rfl) ?_
      refine lv_if_ne (tgt := 60) hx hb dX7_fewest_50 (by decide) (fun c3 => ?_) (fun c3 => ?_)
      · have h := zif_f h c3
        refine lv_iload_n hx hb dX7_fewest_60 rfl (lv_at hl 2 rfl) ?_
        refine lv_iconst (v := 1) hx hb dX7_fewest_61 (by decide) ?_
        refine lv_icmp_ne (tgt := 72) hx hb dX7_fewest_62 (by decide) (fun c4 => ?_) (fun c4 => ?_)
        · have h := zif_f h c4
          refine lv_aload_n hx hb dX7_fewest_72 rfl (lv_at hl 0 rfl) ?_
          refine lv_iload_n hx hb dX7_fewest_73 rfl (lv_at hl 2 rfl) ?_
          refine lv_bipush (v := 10) hx hb dX7_fewest_74 (by decide) ?_
          refine lv_isub hx hb dX7_fewest_76 ?_
          obtain ⟨u5, s5, e5, h⟩ := zb_some h
          refine z_calli hS (z_runV (As := [.int (x2 - (10 : Int32))]) (rest := []) X hG hA hE hP hS 0 (kX7_bestOf (l := l) (D := D) (a := a) (cI := cI) (cJ := cJ) (cC := cC) e5 _) (cwV 1 hts gX7_fewest_X7_bestOf rfl rfl rfl (by decide +kernel) ⟨Nat.le_of_ble_eq_true rfl, Nat.le_of_ble_eq_true rfl⟩) (by decide) (zcM_0 _ _ _ _ _ _) rfl rfl rfl hl.1 rfl (Nat.le_of_ble_eq_true rfl) dX7_fewest_77) (fun H locs hP hS => ?_)
          exact z_iret X hP hS hr hlocks h dX7_fewest_80
        · have h := zif_t h c4
          refine lv_aload_n hx hb dX7_fewest_65 rfl (lv_at hl 0 rfl) ?_
          refine z_get (C := RX7) (T := TX7) (N := 26) X inX7 hP 0 (by decide) (zcM_0 _ _ _ _ _ _) rfl 21 (by decide) rfl (by decide +kernel) rfl dX7_fewest_66 ?_
          refine lv_goto (tgt := 80) hx hb dX7_fewest_69 (by decide) ?_
          exact z_iret X hP hS hr hlocks h dX7_fewest_80
      · have h := zif_t h c3
        refine lv_aload_n hx hb dX7_fewest_53 rfl (lv_at hl 0 rfl) ?_
        refine z_get (C := RX7) (T := TX7) (N := 26) X inX7 hP 0 (by decide) (zcM_0 _ _ _ _ _ _) rfl 19 (by decide) rfl (by decide +kernel) rfl dX7_fewest_54 ?_
        refine lv_goto (tgt := 80) hx hb dX7_fewest_57 (by decide) ?_
        exact z_iret X hP hS hr hlocks h dX7_fewest_80
    · have h := zif_f h c2
      refine lv_bipush (v := -5) hx hb dX7_fewest_46 (by decide) ?_
      exact z_iret X hP hS hr hlocks h dX7_fewest_48
  have hl : lv_has ls 3 [(0, .ref (a 0)), (1, .int x1), (2, .int x2)] := hl
  refine lv_iload_n hx hb dX7_fewest_0 rfl (lv_at hl 1 rfl) ?_
  obtain ⟨u1, s1, e1, h⟩ := zb_some h
  refine z_calli hS (z_runS (As := [.int x1]) (rest := []) X hG hA hE hP hS (kX7_isLamp (l := l) (D := D) (a := a) (cI := cI) (cJ := cJ) (cC := cC) e1 _) (va_cwS 1 hts gX7_fewest_X7_isLamp rfl rfl rfl (by decide +kernel) ⟨Nat.le_of_ble_eq_true rfl, Nat.le_of_ble_eq_true rfl⟩) rfl hl.1 rfl (Nat.le_of_ble_eq_true rfl) dX7_fewest_1) (fun H locs hP hS => ?_)
  refine lv_if_eq (tgt := 31) hx hb dX7_fewest_4 (by decide) (fun c2 => ?_) (fun c2 => ?_)
  · have h := zif_t h c2
    refine lv_iconst (v := -1) hx hb dX7_fewest_31 (by decide) ?_
    exact z_iret X hP hS hr hlocks h dX7_fewest_32
  · have h := zif_f h c2
    refine lv_iload_n hx hb dX7_fewest_7 rfl (lv_at hl 2 rfl) ?_
    refine lv_i2l hx hb dX7_fewest_8 rfl ?_
    refine lv_lconst (v := 0) hx hb dX7_fewest_9 (by decide) ?_
    refine lv_lconst (v := 1) hx hb dX7_fewest_10 (by decide) ?_
    obtain ⟨u3, s3, e3, h⟩ := zb_some h
    refine z_calli hS (z_runS (As := [.long (x2).toInt64, .long (0 : Int64), .long (1 : Int64)]) (rest := []) X hG hA hE hP hS (kX7_isIn (l := l) (D := D) (a := a) (cI := cI) (cJ := cJ) (cC := cC) e3 _) (va_cwS 3 hts gX7_fewest_X7_isIn rfl rfl rfl (by decide +kernel) ⟨Nat.le_of_ble_eq_true rfl, Nat.le_of_ble_eq_true rfl⟩) rfl hl.1 rfl (Nat.le_of_ble_eq_true rfl) dX7_fewest_11) (fun H locs hP hS => ?_)
    refine lv_if_ne (tgt := 33) hx hb dX7_fewest_14 (by decide) (fun c4 => ?_) (fun c4 => ?_)
    · have h := zif_f h c4
      exact w33   (x1) (x2) (s3) _ _ _ h hP hS (lv_sub hl [0, 1, 2] rfl)
    · have h := zif_t h c4
      refine lv_iload_n hx hb dX7_fewest_17 rfl (lv_at hl 2 rfl) ?_
      refine lv_i2l hx hb dX7_fewest_18 rfl ?_
      refine lv_ldc2 (own := RX7) (index := 106) (v := 10) hx hb hown (hts _ (by decide +kernel)) dX7_fewest_19 ?_
      refine lv_ldc2 (own := RX7) (index := 228) (v := 13) hx hb hown (hts _ (by decide +kernel)) dX7_fewest_22 ?_
      obtain ⟨u5, s5, e5, h⟩ := zb_some h
      refine z_calli hS (z_runS (As := [.long (x2).toInt64, .long (10 : Int64), .long (13 : Int64)]) (rest := []) X hG hA hE hP hS (kX7_isIn (l := l) (D := D) (a := a) (cI := cI) (cJ := cJ) (cC := cC) e5 _) (va_cwS 3 hts gX7_fewest_X7_isIn rfl rfl rfl (by decide +kernel) ⟨Nat.le_of_ble_eq_true rfl, Nat.le_of_ble_eq_true rfl⟩) rfl hl.1 rfl (Nat.le_of_ble_eq_true rfl) dX7_fewest_25) (fun H locs hP hS => ?_)
      refine lv_if_ne (tgt := 33) hx hb dX7_fewest_28 (by decide) (fun c6 => ?_) (fun c6 => ?_)
      · have h := zif_f h c6
        exact w33   (x1) (x2) (s5) _ _ _ h hP hS (lv_sub hl [0, 1, 2] rfl)
      · have h := zif_t h c6
        refine lv_iconst (v := -1) hx hb dX7_fewest_31 (by decide) ?_
        exact z_iret X hP hS hr hlocks h dX7_fewest_32
abbrev rmX7_nearest : Room := { frames := 6, cells := 0, slots := 0, locals := 139 }
set_option maxHeartbeats 4000000 in
set_option maxRecDepth 100000 in
theorem kX7_nearest {l : Launch} {D : va_G} {a : Nat → Nat} {cI cJ cC : ClassId} {x1 : Int32} {x2 : Int32} {s τ : ZS} {r : Int32} (h : fX7_nearest x1 x2 s = some (r, τ)) : zMi (zcM a cI cJ cC) 17 a D [(cI, .int), (cJ, .long), (cC, .char)] zEM l yX7_nearest wsX7_nearest rmX7_nearest [.ref (a 0), .int x1, .int x2] s r τ := by
  refine z_start (cc := cX7_nearest) (maxL := 3) (ret := (some .int)) RX7 rfl (by decide) rfl (Nat.le_of_ble_eq_true rfl) ?_
  intro p e st m args below meth c ls H locs X hr hlocks hA hE hP hS hl
  obtain ⟨hx, hb, hml, hown, hts, -⟩ := id X
  have hG := zEM_good
  have inX7 : ∀ w ∈ u_ws RX7 TX7 26, w ∈ wsX7_nearest := by decide +kernel
  have w33 : ∀  (x1 : Int32) (x2 : Int32) (s : ZS) (H : Heap) (locs : List Loc) (ls : Array Slot), fX7_nearest_33  x1 x2 s = some (r, τ) → va_P D vwCl (zW (zcM a cI cJ cC) 17 a s) H → va_S (zF 17 a st.heap.size) st.heap H locs → lv_has ls 3 [(0, .ref (a 0)), (1, .int x1), (2, .int x2)] → W p l e rmX7_nearest st m args below meth c H locs 0 0 (MQ below (va_Qi (fun (r' : Int32) (τ' : ZS) => r' = r ∧ τ' = τ) (zPost (zcM a cI cJ cC) 17 a D [(cI, .int), (cJ, .long), (cC, .char)]) (zF 17 a st.heap.size)) args st 0 0 (zF 17 a st.heap.size)) (F0 m 33 ls []) := by
    intro  x1 x2 s H locs ls h hP hS hl
    refine lv_aload_n hx hb dX7_nearest_33 rfl (lv_at hl 0 rfl) ?_
    refine lv_iconst (v := 3) hx hb dX7_nearest_34 (by decide) ?_
    refine lv_iload_n hx hb dX7_nearest_35 rfl (lv_at hl 1 rfl) ?_
    obtain ⟨u1, s1, e1, h⟩ := zb_some h
    refine z_callv hS (z_runV (As := [.int (3 : Int32), .int x1]) (rest := []) X hG hA hE hP hS 0 (kX7_findBest (l := l) (D := D) (a := a) (cI := cI) (cJ := cJ) (cC := cC) e1 _) (cwV 2 hts gX7_nearest_X7_findBest rfl rfl rfl (by decide +kernel) ⟨Nat.le_of_ble_eq_true rfl, Nat.le_of_ble_eq_true rfl⟩) (by decide) (zcM_0 _ _ _ _ _ _) rfl rfl rfl hl.1 rfl (Nat.le_of_ble_eq_true rfl) dX7_nearest_36) (fun H locs hP hS => ?_)
    refine lv_iload_n hx hb dX7_nearest_39 rfl (lv_at hl 2 rfl) ?_
    refine lv_if_ne (tgt := 50) hx hb dX7_nearest_40 (by decide) (fun c2 => ?_) (fun c2 => ?_)
    · have h := zif_f h c2
      refine lv_iload_n hx hb dX7_nearest_50 rfl (lv_at hl 2 rfl) ?_
      refine lv_iconst (v := 1) hx hb dX7_nearest_51 (by decide) ?_
      refine lv_icmp_ne (tgt := 62) hx hb dX7_nearest_52 (by decide) (fun c3 => ?_) (fun c3 => ?_)
      · have h := zif_f h c3
        refine lv_aload_n hx hb dX7_nearest_62 rfl (lv_at hl 0 rfl) ?_
        refine lv_iload_n hx hb dX7_nearest_63 rfl (lv_at hl 2 rfl) ?_
        refine lv_bipush (v := 10) hx hb dX7_nearest_64 (by decide) ?_
        refine lv_isub hx hb dX7_nearest_66 ?_
        obtain ⟨u4, s4, e4, h⟩ := zb_some h
        refine z_calli hS (z_runV (As := [.int (x2 - (10 : Int32))]) (rest := []) X hG hA hE hP hS 0 (kX7_bestOf (l := l) (D := D) (a := a) (cI := cI) (cJ := cJ) (cC := cC) e4 _) (cwV 1 hts gX7_nearest_X7_bestOf rfl rfl rfl (by decide +kernel) ⟨Nat.le_of_ble_eq_true rfl, Nat.le_of_ble_eq_true rfl⟩) (by decide) (zcM_0 _ _ _ _ _ _) rfl rfl rfl hl.1 rfl (Nat.le_of_ble_eq_true rfl) dX7_nearest_67) (fun H locs hP hS => ?_)
        exact z_iret X hP hS hr hlocks h dX7_nearest_70
      · have h := zif_t h c3
        refine lv_aload_n hx hb dX7_nearest_55 rfl (lv_at hl 0 rfl) ?_
        refine z_get (C := RX7) (T := TX7) (N := 26) X inX7 hP 0 (by decide) (zcM_0 _ _ _ _ _ _) rfl 20 (by decide) rfl (by decide +kernel) rfl dX7_nearest_56 ?_
        refine lv_goto (tgt := 70) hx hb dX7_nearest_59 (by decide) ?_
        exact z_iret X hP hS hr hlocks h dX7_nearest_70
    · have h := zif_t h c2
      refine lv_aload_n hx hb dX7_nearest_43 rfl (lv_at hl 0 rfl) ?_
      refine z_get (C := RX7) (T := TX7) (N := 26) X inX7 hP 0 (by decide) (zcM_0 _ _ _ _ _ _) rfl 19 (by decide) rfl (by decide +kernel) rfl dX7_nearest_44 ?_
      refine lv_goto (tgt := 70) hx hb dX7_nearest_47 (by decide) ?_
      exact z_iret X hP hS hr hlocks h dX7_nearest_70
  have hl : lv_has ls 3 [(0, .ref (a 0)), (1, .int x1), (2, .int x2)] := hl
  refine lv_iload_n hx hb dX7_nearest_0 rfl (lv_at hl 1 rfl) ?_
  obtain ⟨u1, s1, e1, h⟩ := zb_some h
  refine z_calli hS (z_runS (As := [.int x1]) (rest := []) X hG hA hE hP hS (kX7_isLamp (l := l) (D := D) (a := a) (cI := cI) (cJ := cJ) (cC := cC) e1 _) (va_cwS 1 hts gX7_nearest_X7_isLamp rfl rfl rfl (by decide +kernel) ⟨Nat.le_of_ble_eq_true rfl, Nat.le_of_ble_eq_true rfl⟩) rfl hl.1 rfl (Nat.le_of_ble_eq_true rfl) dX7_nearest_1) (fun H locs hP hS => ?_)
  refine lv_if_eq (tgt := 31) hx hb dX7_nearest_4 (by decide) (fun c2 => ?_) (fun c2 => ?_)
  · have h := zif_t h c2
    refine lv_iconst (v := -1) hx hb dX7_nearest_31 (by decide) ?_
    exact z_iret X hP hS hr hlocks h dX7_nearest_32
  · have h := zif_f h c2
    refine lv_iload_n hx hb dX7_nearest_7 rfl (lv_at hl 2 rfl) ?_
    refine lv_i2l hx hb dX7_nearest_8 rfl ?_
    refine lv_lconst (v := 0) hx hb dX7_nearest_9 (by decide) ?_
    refine lv_lconst (v := 1) hx hb dX7_nearest_10 (by decide) ?_
    obtain ⟨u3, s3, e3, h⟩ := zb_some h
    refine z_calli hS (z_runS (As := [.long (x2).toInt64, .long (0 : Int64), .long (1 : Int64)]) (rest := []) X hG hA hE hP hS (kX7_isIn (l := l) (D := D) (a := a) (cI := cI) (cJ := cJ) (cC := cC) e3 _) (va_cwS 3 hts gX7_nearest_X7_isIn rfl rfl rfl (by decide +kernel) ⟨Nat.le_of_ble_eq_true rfl, Nat.le_of_ble_eq_true rfl⟩) rfl hl.1 rfl (Nat.le_of_ble_eq_true rfl) dX7_nearest_11) (fun H locs hP hS => ?_)
    refine lv_if_ne (tgt := 33) hx hb dX7_nearest_14 (by decide) (fun c4 => ?_) (fun c4 => ?_)
    · have h := zif_f h c4
      exact w33   (x1) (x2) (s3) _ _ _ h hP hS (lv_sub hl [0, 1, 2] rfl)
    · have h := zif_t h c4
      refine lv_iload_n hx hb dX7_nearest_17 rfl (lv_at hl 2 rfl) ?_
      refine lv_i2l hx hb dX7_nearest_18 rfl ?_
      refine lv_ldc2 (own := RX7) (index := 106) (v := 10) hx hb hown (hts _ (by decide +kernel)) dX7_nearest_19 ?_
      refine lv_ldc2 (own := RX7) (index := 236) (v := 12) hx hb hown (hts _ (by decide +kernel)) dX7_nearest_22 ?_
      obtain ⟨u5, s5, e5, h⟩ := zb_some h
      refine z_calli hS (z_runS (As := [.long (x2).toInt64, .long (10 : Int64), .long (12 : Int64)]) (rest := []) X hG hA hE hP hS (kX7_isIn (l := l) (D := D) (a := a) (cI := cI) (cJ := cJ) (cC := cC) e5 _) (va_cwS 3 hts gX7_nearest_X7_isIn rfl rfl rfl (by decide +kernel) ⟨Nat.le_of_ble_eq_true rfl, Nat.le_of_ble_eq_true rfl⟩) rfl hl.1 rfl (Nat.le_of_ble_eq_true rfl) dX7_nearest_25) (fun H locs hP hS => ?_)
      refine lv_if_ne (tgt := 33) hx hb dX7_nearest_28 (by decide) (fun c6 => ?_) (fun c6 => ?_)
      · have h := zif_f h c6
        exact w33   (x1) (x2) (s5) _ _ _ h hP hS (lv_sub hl [0, 1, 2] rfl)
      · have h := zif_t h c6
        refine lv_iconst (v := -1) hx hb dX7_nearest_31 (by decide) ?_
        exact z_iret X hP hS hr hlocks h dX7_nearest_32
abbrev rmX7_missed : Room := { frames := 5, cells := 0, slots := 0, locals := 112 }
set_option maxHeartbeats 4000000 in
set_option maxRecDepth 100000 in
theorem kX7_missed {l : Launch} {D : va_G} {a : Nat → Nat} {cI cJ cC : ClassId} {x1 : Int32} {x2 : Int32} {x3 : Int32} {s τ : ZS} {r : Int32} (h : fX7_missed x1 x2 x3 s = some (r, τ)) : zMi (zcM a cI cJ cC) 17 a D [(cI, .int), (cJ, .long), (cC, .char)] zEM l yX7_missed wsX7_missed rmX7_missed [.ref (a 0), .int x1, .int x2, .int x3] s r τ := by
  refine z_start (cc := cX7_missed) (maxL := 8) (ret := (some .int)) RX7 rfl (by decide) rfl (Nat.le_of_ble_eq_true rfl) ?_
  intro p e st m args below meth c ls H locs X hr hlocks hA hE hP hS hl
  obtain ⟨hx, hb, hml, hown, hts, -⟩ := id X
  have hG := zEM_good
  have inX7 : ∀ w ∈ u_ws RX7 TX7 26, w ∈ wsX7_missed := by decide +kernel
  have w149 : ∀ (k23 : Int32 → Int32 → Int32 → Int32 → Int32 → Int32 → ZS → Option (Int32 × ZS)) (hk23 : ∀ (x1 : Int32) (x2 : Int32) (x3 : Int32) (x4 : Int32) (x5 : Int32) (x6 : Int32) (s : ZS) (H : Heap) (locs : List Loc) (ls : Array Slot), k23 x1 x2 x3 x4 x5 x6 s = some (r, τ) → va_P D vwCl (zW (zcM a cI cJ cC) 17 a s) H → va_S (zF 17 a st.heap.size) st.heap H locs → lv_has ls 8 [(0, .ref (a 0)), (1, .int x1), (2, .int x2), (3, .int x3), (4, .int x4), (5, .int x5), (6, .int x6)] → W p l e rmX7_missed st m args below meth c H locs 0 0 (MQ below (va_Qi (fun (r' : Int32) (τ' : ZS) => r' = r ∧ τ' = τ) (zPost (zcM a cI cJ cC) 17 a D [(cI, .int), (cJ, .long), (cC, .char)]) (zF 17 a st.heap.size)) args st 0 0 (zF 17 a st.heap.size)) (F0 m 23 ls [])) (x1 : Int32) (x2 : Int32) (x3 : Int32) (x4 : Int32) (x5 : Int32) (x6 : Int32) (s : ZS) (H : Heap) (locs : List Loc) (ls : Array Slot), fX7_missed_149 k23 x1 x2 x3 x4 x5 x6 s = some (r, τ) → va_P D vwCl (zW (zcM a cI cJ cC) 17 a s) H → va_S (zF 17 a st.heap.size) st.heap H locs → lv_has ls 8 [(0, .ref (a 0)), (1, .int x1), (2, .int x2), (3, .int x3), (4, .int x4), (5, .int x5), (6, .int x6)] → W p l e rmX7_missed st m args below meth c H locs 0 0 (MQ below (va_Qi (fun (r' : Int32) (τ' : ZS) => r' = r ∧ τ' = τ) (zPost (zcM a cI cJ cC) 17 a D [(cI, .int), (cJ, .long), (cC, .char)]) (zF 17 a st.heap.size)) args st 0 0 (zF 17 a st.heap.size)) (F0 m 149 ls []) := by
    intro k23 hk23 x1 x2 x3 x4 x5 x6 s H locs ls h hP hS hl
    refine lv_iinc (v := (x6 + (1 : Int32))) (lv' := [(6, .int (x6 + (1 : Int32))), (0, .ref (a 0)), (1, .int x1), (2, .int x2), (3, .int x3), (4, .int x4), (5, .int x5)]) hx hb dX7_missed_149 hl (k := 6) rfl rfl (by decide) rfl (fun ls hl => ?_)
    refine lv_goto (tgt := 23) hx hb dX7_missed_152 (by decide) ?_
    exact hk23 (x1) (x2) (x3) (x4) (x5) ((x6 + (1 : Int32))) (s) _ _ _ h hP hS (lv_sub hl [1, 2, 3, 4, 5, 6, 0] rfl)
  have w68 : ∀ (k40 : Int32 → Int32 → Int32 → Int32 → Int32 → Int32 → Int32 → ZS → Option (Int32 × ZS)) (hk40 : ∀ (x1 : Int32) (x2 : Int32) (x3 : Int32) (x4 : Int32) (x5 : Int32) (x6 : Int32) (x7 : Int32) (s : ZS) (H : Heap) (locs : List Loc) (ls : Array Slot), k40 x1 x2 x3 x4 x5 x6 x7 s = some (r, τ) → va_P D vwCl (zW (zcM a cI cJ cC) 17 a s) H → va_S (zF 17 a st.heap.size) st.heap H locs → lv_has ls 8 [(0, .ref (a 0)), (1, .int x1), (2, .int x2), (3, .int x3), (4, .int x4), (5, .int x5), (6, .int x6), (7, .int x7)] → W p l e rmX7_missed st m args below meth c H locs 0 0 (MQ below (va_Qi (fun (r' : Int32) (τ' : ZS) => r' = r ∧ τ' = τ) (zPost (zcM a cI cJ cC) 17 a D [(cI, .int), (cJ, .long), (cC, .char)]) (zF 17 a st.heap.size)) args st 0 0 (zF 17 a st.heap.size)) (F0 m 40 ls [])) (x1 : Int32) (x2 : Int32) (x3 : Int32) (x4 : Int32) (x5 : Int32) (x6 : Int32) (x7 : Int32) (s : ZS) (H : Heap) (locs : List Loc) (ls : Array Slot), fX7_missed_68 k40 x1 x2 x3 x4 x5 x6 x7 s = some (r, τ) → va_P D vwCl (zW (zcM a cI cJ cC) 17 a s) H → va_S (zF 17 a st.heap.size) st.heap H locs → lv_has ls 8 [(0, .ref (a 0)), (1, .int x1), (2, .int x2), (3, .int x3), (4, .int x4), (5, .int x5), (6, .int x6), (7, .int x7)] → W p l e rmX7_missed st m args below meth c H locs 0 0 (MQ below (va_Qi (fun (r' : Int32) (τ' : ZS) => r' = r ∧ τ' = τ) (zPost (zcM a cI cJ cC) 17 a D [(cI, .int), (cJ, .long), (cC, .char)]) (zF 17 a st.heap.size)) args st 0 0 (zF 17 a st.heap.size)) (F0 m 68 ls []) := by
    intro k40 hk40 x1 x2 x3 x4 x5 x6 x7 s H locs ls h hP hS hl
    refine lv_iinc (v := (x7 + (1 : Int32))) (lv' := [(7, .int (x7 + (1 : Int32))), (0, .ref (a 0)), (1, .int x1), (2, .int x2), (3, .int x3), (4, .int x4), (5, .int x5), (6, .int x6)]) hx hb dX7_missed_68 hl (k := 7) rfl rfl (by decide) rfl (fun ls hl => ?_)
    refine lv_goto (tgt := 40) hx hb dX7_missed_71 (by decide) ?_
    exact hk40 (x1) (x2) (x3) (x4) (x5) (x6) ((x7 + (1 : Int32))) (s) _ _ _ h hP hS (lv_sub hl [1, 2, 3, 4, 5, 6, 7, 0] rfl)
  have w40 : ∀ (k23 : Int32 → Int32 → Int32 → Int32 → Int32 → Int32 → ZS → Option (Int32 × ZS)) (hk23 : ∀ (x1 : Int32) (x2 : Int32) (x3 : Int32) (x4 : Int32) (x5 : Int32) (x6 : Int32) (s : ZS) (H : Heap) (locs : List Loc) (ls : Array Slot), k23 x1 x2 x3 x4 x5 x6 s = some (r, τ) → va_P D vwCl (zW (zcM a cI cJ cC) 17 a s) H → va_S (zF 17 a st.heap.size) st.heap H locs → lv_has ls 8 [(0, .ref (a 0)), (1, .int x1), (2, .int x2), (3, .int x3), (4, .int x4), (5, .int x5), (6, .int x6)] → W p l e rmX7_missed st m args below meth c H locs 0 0 (MQ below (va_Qi (fun (r' : Int32) (τ' : ZS) => r' = r ∧ τ' = τ) (zPost (zcM a cI cJ cC) 17 a D [(cI, .int), (cJ, .long), (cC, .char)]) (zF 17 a st.heap.size)) args st 0 0 (zF 17 a st.heap.size)) (F0 m 23 ls [])) (n : Nat) (x1 : Int32) (x2 : Int32) (x3 : Int32) (x4 : Int32) (x5 : Int32) (x6 : Int32) (x7 : Int32) (s : ZS) (H : Heap) (locs : List Loc) (ls : Array Slot), fX7_missed_40n k23 n (x1, x2, x3, x4, x5, x6, x7, s) = some (r, τ) → va_P D vwCl (zW (zcM a cI cJ cC) 17 a s) H → va_S (zF 17 a st.heap.size) st.heap H locs → lv_has ls 8 [(0, .ref (a 0)), (1, .int x1), (2, .int x2), (3, .int x3), (4, .int x4), (5, .int x5), (6, .int x6), (7, .int x7)] → W p l e rmX7_missed st m args below meth c H locs 0 0 (MQ below (va_Qi (fun (r' : Int32) (τ' : ZS) => r' = r ∧ τ' = τ) (zPost (zcM a cI cJ cC) 17 a D [(cI, .int), (cJ, .long), (cC, .char)]) (zF 17 a st.heap.size)) args st 0 0 (zF 17 a st.heap.size)) (F0 m 40 ls []) := by
    intro k23 hk23 n
    induction n with
    | zero => intro x1 x2 x3 x4 x5 x6 x7 s H locs ls h; exact zloop_0 h
    | succ n ih =>
      intro x1 x2 x3 x4 x5 x6 x7 s H locs ls h hP hS hl
      have h : fX7_missed_40b k23 (fun x1 x2 x3 x4 x5 x6 x7 s => fX7_missed_40n k23 n (x1, x2, x3, x4, x5, x6, x7, s)) x1 x2 x3 x4 x5 x6 x7 s = some (r, τ) := h
      refine lv_iload hx hb dX7_missed_40 (lv_at hl 7 rfl) ?_
      refine lv_aload_n hx hb dX7_missed_42 rfl (lv_at hl 0 rfl) ?_
      refine lv_iload_n hx hb dX7_missed_43 rfl (lv_at hl 1 rfl) ?_
      obtain ⟨u1, s1, e1, h⟩ := zb_some h
      refine z_calli hS (z_runV (As := [.int x1]) (rest := [.int x7]) X hG hA hE hP hS 0 (kX7_size (l := l) (D := D) (a := a) (cI := cI) (cJ := cJ) (cC := cC) e1 _) (cwV 1 hts gX7_missed_X7_size rfl rfl rfl (by decide +kernel) ⟨Nat.le_of_ble_eq_true rfl, Nat.le_of_ble_eq_true rfl⟩) (by decide) (zcM_0 _ _ _ _ _ _) rfl rfl rfl hl.1 rfl (Nat.le_of_ble_eq_true rfl) dX7_missed_44) (fun H locs hP hS => ?_)
      refine lv_icmp_ge (tgt := 74) hx hb dX7_missed_47 (by decide) (fun c2 => ?_) (fun c2 => ?_)
      · have h := zif_t h c2
        refine lv_aload_n hx hb dX7_missed_74 rfl (lv_at hl 0 rfl) ?_
        refine lv_iload_n hx hb dX7_missed_75 rfl (lv_at hl 2 rfl) ?_
        obtain ⟨u3, s3, e3, h⟩ := zb_some h
        refine z_callv hS (z_runV (As := [.int x2]) (rest := []) X hG hA hE hP hS 0 (kX7_findShades (l := l) (D := D) (a := a) (cI := cI) (cJ := cJ) (cC := cC) e3 _) (cwV 1 hts gX7_missed_X7_findShades rfl rfl rfl (by decide +kernel) ⟨Nat.le_of_ble_eq_true rfl, Nat.le_of_ble_eq_true rfl⟩) (by decide) (zcM_0 _ _ _ _ _ _) rfl rfl rfl hl.1 rfl (Nat.le_of_ble_eq_true rfl) dX7_missed_76) (fun H locs hP hS => ?_)
        refine lv_aload_n hx hb dX7_missed_79 rfl (lv_at hl 0 rfl) ?_
        refine lv_aload_n hx hb dX7_missed_80 rfl (lv_at hl 0 rfl) ?_
        refine z_get (C := RX7) (T := TX7) (N := 26) X inX7 hP 0 (by decide) (zcM_0 _ _ _ _ _ _) rfl 5 (by decide) rfl (by decide +kernel) rfl dX7_missed_81 ?_
        refine lv_iconst (v := 0) hx hb dX7_missed_84 (by decide) ?_
        obtain ⟨g4, h⟩ := zg_some h
        refine z_iald X hP 4 0 (by decide) (zcM_4 _ _ _ _ _ _) rfl g4 dX7_missed_85 ?_
        refine lv_aload_n hx hb dX7_missed_86 rfl (lv_at hl 0 rfl) ?_
        refine z_get (C := RX7) (T := TX7) (N := 26) X inX7 hP 0 (by decide) (zcM_0 _ _ _ _ _ _) rfl 6 (by decide) rfl (by decide +kernel) rfl dX7_missed_87 ?_
        refine lv_iconst (v := 0) hx hb dX7_missed_90 (by decide) ?_
        obtain ⟨g5, h⟩ := zg_some h
        refine z_iald X hP 5 0 (by decide) (zcM_5 _ _ _ _ _ _) rfl g5 dX7_missed_91 ?_
        obtain ⟨u6, s6, e6, h⟩ := zb_some h
        refine z_calli hS (z_runV (As := [.int ((s3).1 4 ((0 : Int32)).toNatClampNeg), .int ((s3).1 5 ((0 : Int32)).toNatClampNeg)]) (rest := []) X hG hA hE hP hS 0 (kX7_apartFrom (l := l) (D := D) (a := a) (cI := cI) (cJ := cJ) (cC := cC) e6 _) (cwV 2 hts gX7_missed_X7_apartFrom rfl rfl rfl (by decide +kernel) ⟨Nat.le_of_ble_eq_true rfl, Nat.le_of_ble_eq_true rfl⟩) (by decide) (zcM_0 _ _ _ _ _ _) rfl rfl rfl hl.1 rfl (Nat.le_of_ble_eq_true rfl) dX7_missed_92) (fun H locs hP hS => ?_)
        refine lv_aload_n hx hb dX7_missed_95 rfl (lv_at hl 0 rfl) ?_
        refine lv_aload_n hx hb dX7_missed_96 rfl (lv_at hl 0 rfl) ?_
        refine z_get (C := RX7) (T := TX7) (N := 26) X inX7 hP 0 (by decide) (zcM_0 _ _ _ _ _ _) rfl 5 (by decide) rfl (by decide +kernel) rfl dX7_missed_97 ?_
        refine lv_iconst (v := 1) hx hb dX7_missed_100 (by decide) ?_
        obtain ⟨g7, h⟩ := zg_some h
        refine z_iald X hP 4 0 (by decide) (zcM_4 _ _ _ _ _ _) rfl g7 dX7_missed_101 ?_
        refine lv_aload_n hx hb dX7_missed_102 rfl (lv_at hl 0 rfl) ?_
        refine z_get (C := RX7) (T := TX7) (N := 26) X inX7 hP 0 (by decide) (zcM_0 _ _ _ _ _ _) rfl 6 (by decide) rfl (by decide +kernel) rfl dX7_missed_103 ?_
        refine lv_iconst (v := 1) hx hb dX7_missed_106 (by decide) ?_
        obtain ⟨g8, h⟩ := zg_some h
        refine z_iald X hP 5 0 (by decide) (zcM_5 _ _ _ _ _ _) rfl g8 dX7_missed_107 ?_
        obtain ⟨u9, s9, e9, h⟩ := zb_some h
        refine z_calli hS (z_runV (As := [.int ((s6).1 4 ((1 : Int32)).toNatClampNeg), .int ((s6).1 5 ((1 : Int32)).toNatClampNeg)]) (rest := [.int u6]) X hG hA hE hP hS 0 (kX7_apartFrom (l := l) (D := D) (a := a) (cI := cI) (cJ := cJ) (cC := cC) e9 _) (cwV 2 hts gX7_missed_X7_apartFrom rfl rfl rfl (by decide +kernel) ⟨Nat.le_of_ble_eq_true rfl, Nat.le_of_ble_eq_true rfl⟩) (by decide) (zcM_0 _ _ _ _ _ _) rfl rfl rfl hl.1 rfl (Nat.le_of_ble_eq_true rfl) dX7_missed_108) (fun H locs hP hS => ?_)
        refine lv_iadd hx hb dX7_missed_111 ?_
        refine lv_aload_n hx hb dX7_missed_112 rfl (lv_at hl 0 rfl) ?_
        refine lv_aload_n hx hb dX7_missed_113 rfl (lv_at hl 0 rfl) ?_
        refine z_get (C := RX7) (T := TX7) (N := 26) X inX7 hP 0 (by decide) (zcM_0 _ _ _ _ _ _) rfl 5 (by decide) rfl (by decide +kernel) rfl dX7_missed_114 ?_
        refine lv_iconst (v := 2) hx hb dX7_missed_117 (by decide) ?_
        obtain ⟨g10, h⟩ := zg_some h
        refine z_iald X hP 4 0 (by decide) (zcM_4 _ _ _ _ _ _) rfl g10 dX7_missed_118 ?_
        refine lv_aload_n hx hb dX7_missed_119 rfl (lv_at hl 0 rfl) ?_
        refine z_get (C := RX7) (T := TX7) (N := 26) X inX7 hP 0 (by decide) (zcM_0 _ _ _ _ _ _) rfl 6 (by decide) rfl (by decide +kernel) rfl dX7_missed_120 ?_
        refine lv_iconst (v := 2) hx hb dX7_missed_123 (by decide) ?_
        obtain ⟨g11, h⟩ := zg_some h
        refine z_iald X hP 5 0 (by decide) (zcM_5 _ _ _ _ _ _) rfl g11 dX7_missed_124 ?_
        obtain ⟨u12, s12, e12, h⟩ := zb_some h
        refine z_calli hS (z_runV (As := [.int ((s9).1 4 ((2 : Int32)).toNatClampNeg), .int ((s9).1 5 ((2 : Int32)).toNatClampNeg)]) (rest := [.int (u6 + u9)]) X hG hA hE hP hS 0 (kX7_apartFrom (l := l) (D := D) (a := a) (cI := cI) (cJ := cJ) (cC := cC) e12 _) (cwV 2 hts gX7_missed_X7_apartFrom rfl rfl rfl (by decide +kernel) ⟨Nat.le_of_ble_eq_true rfl, Nat.le_of_ble_eq_true rfl⟩) (by decide) (zcM_0 _ _ _ _ _ _) rfl rfl rfl hl.1 rfl (Nat.le_of_ble_eq_true rfl) dX7_missed_125) (fun H locs hP hS => ?_)
        refine lv_iadd hx hb dX7_missed_128 ?_
        refine lv_istore (lv' := [(7, .int ((u6 + u9) + u12)), (0, .ref (a 0)), (1, .int x1), (2, .int x2), (3, .int x3), (4, .int x4), (5, .int x5), (6, .int x6)]) hx hb dX7_missed_129 hl (by decide) rfl (fun ls hl => ?_)
        refine lv_iload hx hb dX7_missed_131 (lv_at hl 0 rfl) ?_
        refine lv_iload hx hb dX7_missed_133 (lv_at hl 6 rfl) ?_
        refine lv_icmp_gt (tgt := 141) hx hb dX7_missed_135 (by decide) (fun c13 => ?_) (fun c13 => ?_)
        · have h := zif_t h c13
          refine lv_iload hx hb dX7_missed_141 (lv_at hl 0 rfl) ?_
          refine lv_istore (lv' := [(5, .int ((u6 + u9) + u12)), (7, .int ((u6 + u9) + u12)), (0, .ref (a 0)), (1, .int x1), (2, .int x2), (3, .int x3), (4, .int x4), (6, .int x6)]) hx hb dX7_missed_143 hl (by decide) rfl (fun ls hl => ?_)
          refine lv_iload hx hb dX7_missed_145 (lv_at hl 7 rfl) ?_
          refine lv_istore (lv' := [(4, .int x6), (5, .int ((u6 + u9) + u12)), (7, .int ((u6 + u9) + u12)), (0, .ref (a 0)), (1, .int x1), (2, .int x2), (3, .int x3), (6, .int x6)]) hx hb dX7_missed_147 hl (by decide) rfl (fun ls hl => ?_)
          exact w149 k23 hk23  (x1) (x2) (x3) (x6) (((u6 + u9) + u12)) (x6) (s12) _ _ _ h hP hS (lv_sub hl [3, 4, 5, 6, 0, 1, 7] rfl)
        · have h := zif_f h c13
          refine lv_goto (tgt := 149) hx hb dX7_missed_138 (by decide) ?_
          exact w149 k23 hk23  (x1) (x2) (x3) (x4) (x5) (x6) (s12) _ _ _ h hP hS (lv_sub hl [1, 2, 3, 4, 5, 6, 7] rfl)
      · have h := zif_f h c2
        refine lv_iload hx hb dX7_missed_50 (lv_at hl 7 rfl) ?_
        refine lv_iload hx hb dX7_missed_52 (lv_at hl 6 rfl) ?_
        refine lv_icmp_eq (tgt := 68) hx hb dX7_missed_54 (by decide) (fun c14 => ?_) (fun c14 => ?_)
        · have h := zif_t h c14
          exact w68 (fun x1 x2 x3 x4 x5 x6 x7 s => fX7_missed_40n k23 n (x1, x2, x3, x4, x5, x6, x7, s)) (fun x1 x2 x3 x4 x5 x6 x7 s H locs ls h hP hS hl => ih x1 x2 x3 x4 x5 x6 x7 s H locs ls h hP hS hl)  (x1) (x2) (x3) (x4) (x5) (x6) (x7) (s1) _ _ _ h hP hS (lv_sub hl [0, 1, 2, 3, 4, 5, 6, 7] rfl)
        · have h := zif_f h c14
          refine lv_aload_n hx hb dX7_missed_57 rfl (lv_at hl 0 rfl) ?_
          refine lv_aload_n hx hb dX7_missed_58 rfl (lv_at hl 0 rfl) ?_
          refine lv_iload_n hx hb dX7_missed_59 rfl (lv_at hl 1 rfl) ?_
          refine lv_iload hx hb dX7_missed_60 (lv_at hl 7 rfl) ?_
          obtain ⟨u15, s15, e15, h⟩ := zb_some h
          refine z_calli hS (z_runV (As := [.int x1, .int x7]) (rest := [.ref (a 0)]) X hG hA hE hP hS 0 (kX7_laid (l := l) (D := D) (a := a) (cI := cI) (cJ := cJ) (cC := cC) e15 _) (cwV 2 hts gX7_missed_X7_laid rfl rfl rfl (by decide +kernel) ⟨Nat.le_of_ble_eq_true rfl, Nat.le_of_ble_eq_true rfl⟩) (by decide) (zcM_0 _ _ _ _ _ _) rfl rfl rfl hl.1 rfl (Nat.le_of_ble_eq_true rfl) dX7_missed_62) (fun H locs hP hS => ?_)
          obtain ⟨u16, s16, e16, h⟩ := zb_some h
          refine z_callv hS (z_runV (As := [.int u15]) (rest := []) X hG hA hE hP hS 0 (kX7_lays (l := l) (D := D) (a := a) (cI := cI) (cJ := cJ) (cC := cC) e16 _) (cwV 1 hts gX7_missed_X7_lays rfl rfl rfl (by decide +kernel) ⟨Nat.le_of_ble_eq_true rfl, Nat.le_of_ble_eq_true rfl⟩) (by decide) (zcM_0 _ _ _ _ _ _) rfl rfl rfl hl.1 rfl (Nat.le_of_ble_eq_true rfl) dX7_missed_65) (fun H locs hP hS => ?_)
          exact w68 (fun x1 x2 x3 x4 x5 x6 x7 s => fX7_missed_40n k23 n (x1, x2, x3, x4, x5, x6, x7, s)) (fun x1 x2 x3 x4 x5 x6 x7 s H locs ls h hP hS hl => ih x1 x2 x3 x4 x5 x6 x7 s H locs ls h hP hS hl)  (x1) (x2) (x3) (x4) (x5) (x6) (x7) (s16) _ _ _ h hP hS (lv_sub hl [0, 1, 2, 3, 4, 5, 6, 7] rfl)
  have w23 : ∀  (n : Nat) (x1 : Int32) (x2 : Int32) (x3 : Int32) (x4 : Int32) (x5 : Int32) (x6 : Int32) (s : ZS) (H : Heap) (locs : List Loc) (ls : Array Slot), fX7_missed_23n  n (x1, x2, x3, x4, x5, x6, s) = some (r, τ) → va_P D vwCl (zW (zcM a cI cJ cC) 17 a s) H → va_S (zF 17 a st.heap.size) st.heap H locs → lv_has ls 8 [(0, .ref (a 0)), (1, .int x1), (2, .int x2), (3, .int x3), (4, .int x4), (5, .int x5), (6, .int x6)] → W p l e rmX7_missed st m args below meth c H locs 0 0 (MQ below (va_Qi (fun (r' : Int32) (τ' : ZS) => r' = r ∧ τ' = τ) (zPost (zcM a cI cJ cC) 17 a D [(cI, .int), (cJ, .long), (cC, .char)]) (zF 17 a st.heap.size)) args st 0 0 (zF 17 a st.heap.size)) (F0 m 23 ls []) := by
    intro  n
    induction n with
    | zero => intro x1 x2 x3 x4 x5 x6 s H locs ls h; exact zloop_0 h
    | succ n ih =>
      intro x1 x2 x3 x4 x5 x6 s H locs ls h hP hS hl
      have h : fX7_missed_23b  (fun x1 x2 x3 x4 x5 x6 s => fX7_missed_23n  n (x1, x2, x3, x4, x5, x6, s)) x1 x2 x3 x4 x5 x6 s = some (r, τ) := h
      refine lv_iload hx hb dX7_missed_23 (lv_at hl 6 rfl) ?_
      refine lv_aload_n hx hb dX7_missed_25 rfl (lv_at hl 0 rfl) ?_
      refine lv_iload_n hx hb dX7_missed_26 rfl (lv_at hl 1 rfl) ?_
      obtain ⟨u1, s1, e1, h⟩ := zb_some h
      refine z_calli hS (z_runV (As := [.int x1]) (rest := [.int x6]) X hG hA hE hP hS 0 (kX7_size (l := l) (D := D) (a := a) (cI := cI) (cJ := cJ) (cC := cC) e1 _) (cwV 1 hts gX7_missed_X7_size rfl rfl rfl (by decide +kernel) ⟨Nat.le_of_ble_eq_true rfl, Nat.le_of_ble_eq_true rfl⟩) (by decide) (zcM_0 _ _ _ _ _ _) rfl rfl rfl hl.1 rfl (Nat.le_of_ble_eq_true rfl) dX7_missed_27) (fun H locs hP hS => ?_)
      refine lv_icmp_ge (tgt := 155) hx hb dX7_missed_30 (by decide) (fun c2 => ?_) (fun c2 => ?_)
      · have h := zif_t h c2
        refine lv_iload_n hx hb dX7_missed_155 rfl (lv_at hl 3 rfl) ?_
        refine lv_if_eq (tgt := 164) hx hb dX7_missed_156 (by decide) (fun c3 => ?_) (fun c3 => ?_)
        · have h := zif_t h c3
          refine lv_iload hx hb dX7_missed_164 (lv_at hl 5 rfl) ?_
          exact z_iret X hP hS hr hlocks h dX7_missed_166
        · have h := zif_f h c3
          refine lv_iload hx hb dX7_missed_159 (lv_at hl 4 rfl) ?_
          refine lv_goto (tgt := 166) hx hb dX7_missed_161 (by decide) ?_
          exact z_iret X hP hS hr hlocks h dX7_missed_166
      · have h := zif_f h c2
        refine lv_aload_n hx hb dX7_missed_33 rfl (lv_at hl 0 rfl) ?_
        obtain ⟨u4, s4, e4, h⟩ := zb_some h
        refine z_callv hS (z_runV (As := []) (rest := []) X hG hA hE hP hS 0 (kX7_begins (l := l) (D := D) (a := a) (cI := cI) (cJ := cJ) (cC := cC) e4 _) (cwV 0 hts gX7_missed_X7_begins rfl rfl rfl (by decide +kernel) ⟨Nat.le_of_ble_eq_true rfl, Nat.le_of_ble_eq_true rfl⟩) (by decide) (zcM_0 _ _ _ _ _ _) rfl rfl rfl hl.1 rfl (Nat.le_of_ble_eq_true rfl) dX7_missed_34) (fun H locs hP hS => ?_)
        refine lv_iconst (v := 0) hx hb dX7_missed_37 (by decide) ?_
        refine lv_istore (lv' := [(7, .int (0 : Int32)), (0, .ref (a 0)), (1, .int x1), (2, .int x2), (3, .int x3), (4, .int x4), (5, .int x5), (6, .int x6)]) hx hb dX7_missed_38 hl (by decide) rfl (fun ls hl => ?_)
        exact w40 (fun x1 x2 x3 x4 x5 x6 s => fX7_missed_23n  n (x1, x2, x3, x4, x5, x6, s)) (fun x1 x2 x3 x4 x5 x6 s H locs ls h hP hS hl => ih x1 x2 x3 x4 x5 x6 s H locs ls h hP hS hl) zN (x1) (x2) (x3) (x4) (x5) (x6) ((0 : Int32)) (s4) _ _ _ h hP hS (lv_sub hl [1, 2, 3, 4, 5, 6, 7, 0] rfl)
  have hl : lv_has ls 8 [(0, .ref (a 0)), (1, .int x1), (2, .int x2), (3, .int x3)] := hl
  refine lv_aload_n hx hb dX7_missed_0 rfl (lv_at hl 0 rfl) ?_
  refine lv_iload_n hx hb dX7_missed_1 rfl (lv_at hl 1 rfl) ?_
  obtain ⟨u1, s1, e1, h⟩ := zb_some h
  refine z_callv hS (z_runV (As := [.int x1]) (rest := []) X hG hA hE hP hS 0 (kX7_shines (l := l) (D := D) (a := a) (cI := cI) (cJ := cJ) (cC := cC) e1 _) (cwV 1 hts gX7_missed_X7_shines rfl rfl rfl (by decide +kernel) ⟨Nat.le_of_ble_eq_true rfl, Nat.le_of_ble_eq_true rfl⟩) (by decide) (zcM_0 _ _ _ _ _ _) rfl rfl rfl hl.1 rfl (Nat.le_of_ble_eq_true rfl) dX7_missed_2) (fun H locs hP hS => ?_)
  refine lv_aload_n hx hb dX7_missed_5 rfl (lv_at hl 0 rfl) ?_
  refine lv_iload_n hx hb dX7_missed_6 rfl (lv_at hl 2 rfl) ?_
  obtain ⟨u2, s2, e2, h⟩ := zb_some h
  refine z_callv hS (z_runV (As := [.int x2]) (rest := []) X hG hA hE hP hS 0 (kX7_findShades (l := l) (D := D) (a := a) (cI := cI) (cJ := cJ) (cC := cC) e2 _) (cwV 1 hts gX7_missed_X7_findShades rfl rfl rfl (by decide +kernel) ⟨Nat.le_of_ble_eq_true rfl, Nat.le_of_ble_eq_true rfl⟩) (by decide) (zcM_0 _ _ _ _ _ _) rfl rfl rfl hl.1 rfl (Nat.le_of_ble_eq_true rfl) dX7_missed_7) (fun H locs hP hS => ?_)
  refine lv_aload_n hx hb dX7_missed_10 rfl (lv_at hl 0 rfl) ?_
  obtain ⟨u3, s3, e3, h⟩ := zb_some h
  refine z_callv hS (z_runV (As := []) (rest := []) X hG hA hE hP hS 0 (kX7_keepShades (l := l) (D := D) (a := a) (cI := cI) (cJ := cJ) (cC := cC) e3 _) (cwV 0 hts gX7_missed_X7_keepShades rfl rfl rfl (by decide +kernel) ⟨Nat.le_of_ble_eq_true rfl, Nat.le_of_ble_eq_true rfl⟩) (by decide) (zcM_0 _ _ _ _ _ _) rfl rfl rfl hl.1 rfl (Nat.le_of_ble_eq_true rfl) dX7_missed_11) (fun H locs hP hS => ?_)
  refine lv_iconst (v := 0) hx hb dX7_missed_14 (by decide) ?_
  refine lv_istore (lv' := [(4, .int (0 : Int32)), (0, .ref (a 0)), (1, .int x1), (2, .int x2), (3, .int x3)]) hx hb dX7_missed_15 hl (by decide) rfl (fun ls hl => ?_)
  refine lv_iconst (v := -1) hx hb dX7_missed_17 (by decide) ?_
  refine lv_istore (lv' := [(5, .int (-1 : Int32)), (4, .int (0 : Int32)), (0, .ref (a 0)), (1, .int x1), (2, .int x2), (3, .int x3)]) hx hb dX7_missed_18 hl (by decide) rfl (fun ls hl => ?_)
  refine lv_iconst (v := 0) hx hb dX7_missed_20 (by decide) ?_
  refine lv_istore (lv' := [(6, .int (0 : Int32)), (5, .int (-1 : Int32)), (4, .int (0 : Int32)), (0, .ref (a 0)), (1, .int x1), (2, .int x2), (3, .int x3)]) hx hb dX7_missed_21 hl (by decide) rfl (fun ls hl => ?_)
  exact w23  zN (x1) (x2) (x3) ((0 : Int32)) ((-1 : Int32)) ((0 : Int32)) (s3) _ _ _ h hP hS (lv_sub hl [3, 4, 5, 6, 2, 1, 0] rfl)
