abbrev rmX5_begin : Room := { frames := 0, cells := 0, slots := 0, locals := 0 }
set_option maxHeartbeats 4000000 in
set_option maxRecDepth 100000 in
theorem kX5_begin {l : Launch} {D : va_G} {a : Nat → Nat} {cI cJ cC : ClassId} {adK adV : Nat → Nat} {x1 : Int32} {s τ : ZS} {r : Int32} (h : fX5_begin x1 s = some (r, τ)) : zMi (zcC a cI cJ cC) 41 a D [(cI, .int), (cJ, .long)] (zEC adK adV) l yX5_begin wsX5_begin rmX5_begin [.ref (a 22), .int x1] s r τ := by
  refine z_start (cc := cX5_begin) (maxL := 3) (ret := (some .boolean)) RX5 rfl (by decide) rfl (Nat.le_of_ble_eq_true rfl) ?_
  intro p e st m args below meth c ls H locs X hr hlocks hA hE hP hS hl
  obtain ⟨hx, hb, hml, hown, hts, -⟩ := id X
  have hG := zEC_good adK adV
  have inX3 : ∀ w ∈ u_ws RX3 TX3 10, w ∈ wsX5_begin := by decide +kernel
  have inX5 : ∀ w ∈ u_ws RX5 TX5 8, w ∈ wsX5_begin := by decide +kernel
  have w29 : ∀  (x1 : Int32) (s : ZS) (H : Heap) (locs : List Loc) (ls : Array Slot), fX5_begin_29  x1 s = some (r, τ) → va_P D vwCl (zW (zcC a cI cJ cC) 41 a s) H → va_S (zF 41 a st.heap.size) st.heap H locs → lv_has ls 3 [(0, .ref (a 22)), (1, .int x1)] → W p l e rmX5_begin st m args below meth c H locs 0 0 (MQ below (va_Qi (fun (r' : Int32) (τ' : ZS) => r' = r ∧ τ' = τ) (zPost (zcC a cI cJ cC) 41 a D [(cI, .int), (cJ, .long)]) (zF 41 a st.heap.size)) args st 0 0 (zF 41 a st.heap.size)) (F0 m 29 ls []) := by
    intro  x1 s H locs ls h hP hS hl
    refine lv_iload_n hx hb dX5_begin_29 rfl (lv_at hl 1 rfl) ?_
    refine lv_if_eq (tgt := 43) hx hb dX5_begin_30 (by decide) (fun c1 => ?_) (fun c1 => ?_)
    · have h := zif_t h c1
      refine lv_iconst (v := 1) hx hb dX5_begin_43 (by decide) ?_
      refine lv_goto (tgt := 48) hx hb dX5_begin_44 (by decide) ?_
      exact z_zret X hP hS hr hlocks (by decide) h dX5_begin_48
    · have h := zif_f h c1
      refine lv_aload_n hx hb dX5_begin_33 rfl (lv_at hl 0 rfl) ?_
      refine z_get (C := RX5) (T := TX5) (N := 8) X inX5 hP 22 (by decide) (zcC_22 _ _ _ _ _ _) rfl 0 (by decide) rfl (by decide +kernel) rfl dX5_begin_34 ?_
      refine z_get (C := RX3) (T := TX3) (N := 10) X inX3 hP 1 (by decide) (zcC_1 _ _ _ _ _ _) rfl 0 (by decide) rfl (by decide +kernel) rfl dX5_begin_37 ?_
      refine lv_if_le (tgt := 47) hx hb dX5_begin_40 (by decide) (fun c2 => ?_) (fun c2 => ?_)
      · have h := zif_t h c2
        refine lv_iconst (v := 0) hx hb dX5_begin_47 (by decide) ?_
        exact z_zret X hP hS hr hlocks (by decide) h dX5_begin_48
      · have h := zif_f h c2
        refine lv_iconst (v := 1) hx hb dX5_begin_43 (by decide) ?_
        refine lv_goto (tgt := 48) hx hb dX5_begin_44 (by decide) ?_
        exact z_zret X hP hS hr hlocks (by decide) h dX5_begin_48
  have w2 : ∀  (n : Nat) (x1 : Int32) (x2 : Int32) (s : ZS) (H : Heap) (locs : List Loc) (ls : Array Slot), fX5_begin_2n  n (x1, x2, s) = some (r, τ) → va_P D vwCl (zW (zcC a cI cJ cC) 41 a s) H → va_S (zF 41 a st.heap.size) st.heap H locs → lv_has ls 3 [(0, .ref (a 22)), (1, .int x1), (2, .int x2)] → W p l e rmX5_begin st m args below meth c H locs 0 0 (MQ below (va_Qi (fun (r' : Int32) (τ' : ZS) => r' = r ∧ τ' = τ) (zPost (zcC a cI cJ cC) 41 a D [(cI, .int), (cJ, .long)]) (zF 41 a st.heap.size)) args st 0 0 (zF 41 a st.heap.size)) (F0 m 2 ls []) := by
    intro  n
    induction n with
    | zero => intro x1 x2 s H locs ls h; exact zloop_0 h
    | succ n ih =>
      intro x1 x2 s H locs ls h hP hS hl
      have h : fX5_begin_2b  (fun x1 x2 s => fX5_begin_2n  n (x1, x2, s)) x1 x2 s = some (r, τ) := h
      refine lv_iload_n hx hb dX5_begin_2 rfl (lv_at hl 2 rfl) ?_
      refine lv_iload_n hx hb dX5_begin_3 rfl (lv_at hl 1 rfl) ?_
      refine lv_icmp_ge (tgt := 29) hx hb dX5_begin_4 (by decide) (fun c1 => ?_) (fun c1 => ?_)
      · have h := zif_t h c1
        exact w29   (x1) (s) _ _ _ h hP hS (lv_sub hl [0, 1] rfl)
      · have h := zif_f h c1
        refine lv_iload_n hx hb dX5_begin_7 rfl (lv_at hl 2 rfl) ?_
        refine lv_aload_n hx hb dX5_begin_8 rfl (lv_at hl 0 rfl) ?_
        refine z_get (C := RX5) (T := TX5) (N := 8) X inX5 hP 22 (by decide) (zcC_22 _ _ _ _ _ _) rfl 2 (by decide) rfl (by decide +kernel) rfl dX5_begin_9 ?_
        refine z_alen (v := 4) X hP 23 0 (by decide) (zcC_23 _ _ _ _ _ _) rfl rfl dX5_begin_12 ?_
        refine lv_icmp_ge (tgt := 29) hx hb dX5_begin_13 (by decide) (fun c2 => ?_) (fun c2 => ?_)
        · have h := zif_t h c2
          exact w29   (x1) (s) _ _ _ h hP hS (lv_sub hl [0, 1] rfl)
        · have h := zif_f h c2
          refine lv_aload_n hx hb dX5_begin_16 rfl (lv_at hl 0 rfl) ?_
          refine z_get (C := RX5) (T := TX5) (N := 8) X inX5 hP 22 (by decide) (zcC_22 _ _ _ _ _ _) rfl 2 (by decide) rfl (by decide +kernel) rfl dX5_begin_17 ?_
          refine lv_iload_n hx hb dX5_begin_20 rfl (lv_at hl 2 rfl) ?_
          refine lv_iconst (v := 0) hx hb dX5_begin_21 (by decide) ?_
          obtain ⟨g3, h⟩ := zg_some h
          refine z_iast X hA hP hS 23 0 (by decide) (zcC_23 _ _ _ _) rfl g3 dX5_begin_22 (fun H locs hP hS => ?_)
          refine lv_iinc (v := (x2 + (1 : Int32))) (lv' := [(2, .int (x2 + (1 : Int32))), (0, .ref (a 22)), (1, .int x1)]) hx hb dX5_begin_23 hl (k := 2) rfl rfl (by decide) rfl (fun ls hl => ?_)
          refine lv_goto (tgt := 2) hx hb dX5_begin_26 (by decide) ?_
          exact ih (x1) ((x2 + (1 : Int32))) ((zI s 23 (x2).toNatClampNeg (0 : Int32))) _ _ _ h hP hS (lv_sub hl [1, 2, 0] rfl)
  have hl : lv_has ls 3 [(0, .ref (a 22)), (1, .int x1)] := hl
  refine lv_iconst (v := 0) hx hb dX5_begin_0 (by decide) ?_
  refine lv_istore_n (lv' := [(2, .int (0 : Int32)), (0, .ref (a 22)), (1, .int x1)]) hx hb dX5_begin_1 rfl hl (by decide) rfl (fun ls hl => ?_)
  exact w2  zN (x1) ((0 : Int32)) (s) _ _ _ h hP hS (lv_sub hl [1, 2, 0] rfl)
abbrev rmX5_seekFewest : Room := { frames := 5, cells := 0, slots := 0, locals := 114 }
set_option maxHeartbeats 4000000 in
set_option maxRecDepth 100000 in
theorem kX5_seekFewest {l : Launch} {D : va_G} {a : Nat → Nat} {cI cJ cC : ClassId} {adK adV : Nat → Nat} {x1 : Int32} {s τ : ZS} {r : Unit} (h : fX5_seekFewest x1 s = some (r, τ)) : zMv (zcC a cI cJ cC) 41 a D [(cI, .int), (cJ, .long)] (zEC adK adV) l yX5_seekFewest wsX5_seekFewest rmX5_seekFewest [.ref (a 22), .int x1] s r τ := by
  refine z_start (cc := cX5_seekFewest) (maxL := 5) (ret := none) RX5 rfl (by decide) rfl (Nat.le_of_ble_eq_true rfl) ?_
  intro p e st m args below meth c ls H locs X hr hlocks hA hE hP hS hl
  obtain ⟨hx, hb, hml, hown, hts, -⟩ := id X
  have hG := zEC_good adK adV
  have inX5 : ∀ w ∈ u_ws RX5 TX5 8, w ∈ wsX5_seekFewest := by decide +kernel
  have w95 : ∀ (k14 : Int32 → Int32 → ZS → Option (Unit × ZS)) (hk14 : ∀ (x1 : Int32) (x2 : Int32) (s : ZS) (H : Heap) (locs : List Loc) (ls : Array Slot), k14 x1 x2 s = some (r, τ) → va_P D vwCl (zW (zcC a cI cJ cC) 41 a s) H → va_S (zF 41 a st.heap.size) st.heap H locs → lv_has ls 5 [(0, .ref (a 22)), (1, .int x1), (2, .int x2)] → W p l e rmX5_seekFewest st m args below meth c H locs 0 0 (MQ below (va_Qv (fun (τ' : ZS) => τ' = τ) (zPost (zcC a cI cJ cC) 41 a D [(cI, .int), (cJ, .long)]) (zF 41 a st.heap.size)) args st 0 0 (zF 41 a st.heap.size)) (F0 m 14 ls [])) (x1 : Int32) (x2 : Int32) (s : ZS) (H : Heap) (locs : List Loc) (ls : Array Slot), fX5_seekFewest_95 k14 x1 x2 s = some (r, τ) → va_P D vwCl (zW (zcC a cI cJ cC) 41 a s) H → va_S (zF 41 a st.heap.size) st.heap H locs → lv_has ls 5 [(0, .ref (a 22)), (1, .int x1), (2, .int x2)] → W p l e rmX5_seekFewest st m args below meth c H locs 0 0 (MQ below (va_Qv (fun (τ' : ZS) => τ' = τ) (zPost (zcC a cI cJ cC) 41 a D [(cI, .int), (cJ, .long)]) (zF 41 a st.heap.size)) args st 0 0 (zF 41 a st.heap.size)) (F0 m 95 ls []) := by
    intro k14 hk14 x1 x2 s H locs ls h hP hS hl
    refine lv_iinc (v := (x2 + (1 : Int32))) (lv' := [(2, .int (x2 + (1 : Int32))), (0, .ref (a 22)), (1, .int x1)]) hx hb dX5_seekFewest_95 hl (k := 2) rfl rfl (by decide) rfl (fun ls hl => ?_)
    refine lv_goto (tgt := 14) hx hb dX5_seekFewest_98 (by decide) ?_
    exact hk14 (x1) ((x2 + (1 : Int32))) (s) _ _ _ h hP hS (lv_sub hl [1, 2, 0] rfl)
  have w83 : ∀ (k35 : Int32 → Int32 → Int32 → Int32 → ZS → Option (Unit × ZS)) (hk35 : ∀ (x1 : Int32) (x2 : Int32) (x3 : Int32) (x4 : Int32) (s : ZS) (H : Heap) (locs : List Loc) (ls : Array Slot), k35 x1 x2 x3 x4 s = some (r, τ) → va_P D vwCl (zW (zcC a cI cJ cC) 41 a s) H → va_S (zF 41 a st.heap.size) st.heap H locs → lv_has ls 5 [(0, .ref (a 22)), (1, .int x1), (2, .int x2), (3, .int x3), (4, .int x4)] → W p l e rmX5_seekFewest st m args below meth c H locs 0 0 (MQ below (va_Qv (fun (τ' : ZS) => τ' = τ) (zPost (zcC a cI cJ cC) 41 a D [(cI, .int), (cJ, .long)]) (zF 41 a st.heap.size)) args st 0 0 (zF 41 a st.heap.size)) (F0 m 35 ls [])) (x1 : Int32) (x2 : Int32) (x4 : Int32) (s : ZS) (H : Heap) (locs : List Loc) (ls : Array Slot), fX5_seekFewest_83 k35 x1 x2 x4 s = some (r, τ) → va_P D vwCl (zW (zcC a cI cJ cC) 41 a s) H → va_S (zF 41 a st.heap.size) st.heap H locs → lv_has ls 5 [(0, .ref (a 22)), (1, .int x1), (2, .int x2), (4, .int x4)] → W p l e rmX5_seekFewest st m args below meth c H locs 0 0 (MQ below (va_Qv (fun (τ' : ZS) => τ' = τ) (zPost (zcC a cI cJ cC) 41 a D [(cI, .int), (cJ, .long)]) (zF 41 a st.heap.size)) args st 0 0 (zF 41 a st.heap.size)) (F0 m 83 ls []) := by
    intro k35 hk35 x1 x2 x4 s H locs ls h hP hS hl
    refine lv_aload_n hx hb dX5_seekFewest_83 rfl (lv_at hl 0 rfl) ?_
    refine lv_iload_n hx hb dX5_seekFewest_84 rfl (lv_at hl 2 rfl) ?_
    obtain ⟨u1, s1, e1, h⟩ := zb_some h
    refine z_calli hS (z_runV (As := [.int x2]) (rest := []) X hG hA hE hP hS 22 (kX5_goOn (l := l) (D := D) (a := a) (cI := cI) (cJ := cJ) (cC := cC) (adK := adK) (adV := adV) e1 _) (cwV 1 hts gX5_seekFewest_X5_goOn rfl rfl rfl (by decide +kernel) ⟨Nat.le_of_ble_eq_true rfl, Nat.le_of_ble_eq_true rfl⟩) (by decide) (zcC_22 _ _ _ _ _ _) rfl rfl rfl hl.1 rfl (Nat.le_of_ble_eq_true rfl) dX5_seekFewest_85) (fun H locs hP hS => ?_)
    refine lv_istore_n (lv' := [(3, .int u1), (0, .ref (a 22)), (1, .int x1), (2, .int x2), (4, .int x4)]) hx hb dX5_seekFewest_88 rfl hl (by decide) rfl (fun ls hl => ?_)
    refine lv_iinc (v := (x4 + (1 : Int32))) (lv' := [(4, .int (x4 + (1 : Int32))), (3, .int u1), (0, .ref (a 22)), (1, .int x1), (2, .int x2)]) hx hb dX5_seekFewest_89 hl (k := 4) rfl rfl (by decide) rfl (fun ls hl => ?_)
    refine lv_goto (tgt := 35) hx hb dX5_seekFewest_92 (by decide) ?_
    exact hk35 (x1) (x2) (u1) ((x4 + (1 : Int32))) (s1) _ _ _ h hP hS (lv_sub hl [2, 3, 4, 1, 0] rfl)
  have w73 : ∀ (k83 : Int32 → Int32 → Int32 → ZS → Option (Unit × ZS)) (hk83 : ∀ (x1 : Int32) (x2 : Int32) (x4 : Int32) (s : ZS) (H : Heap) (locs : List Loc) (ls : Array Slot), k83 x1 x2 x4 s = some (r, τ) → va_P D vwCl (zW (zcC a cI cJ cC) 41 a s) H → va_S (zF 41 a st.heap.size) st.heap H locs → lv_has ls 5 [(0, .ref (a 22)), (1, .int x1), (2, .int x2), (4, .int x4)] → W p l e rmX5_seekFewest st m args below meth c H locs 0 0 (MQ below (va_Qv (fun (τ' : ZS) => τ' = τ) (zPost (zcC a cI cJ cC) 41 a D [(cI, .int), (cJ, .long)]) (zF 41 a st.heap.size)) args st 0 0 (zF 41 a st.heap.size)) (F0 m 83 ls [])) (x1 : Int32) (x2 : Int32) (x4 : Int32) (s : ZS) (H : Heap) (locs : List Loc) (ls : Array Slot), fX5_seekFewest_73 k83 x1 x2 x4 s = some (r, τ) → va_P D vwCl (zW (zcC a cI cJ cC) 41 a s) H → va_S (zF 41 a st.heap.size) st.heap H locs → lv_has ls 5 [(0, .ref (a 22)), (1, .int x1), (2, .int x2), (4, .int x4)] → W p l e rmX5_seekFewest st m args below meth c H locs 0 0 (MQ below (va_Qv (fun (τ' : ZS) => τ' = τ) (zPost (zcC a cI cJ cC) 41 a D [(cI, .int), (cJ, .long)]) (zF 41 a st.heap.size)) args st 0 0 (zF 41 a st.heap.size)) (F0 m 73 ls []) := by
    intro k83 hk83 x1 x2 x4 s H locs ls h hP hS hl
    refine lv_aload_n hx hb dX5_seekFewest_73 rfl (lv_at hl 0 rfl) ?_
    refine lv_dup hx hb dX5_seekFewest_74 rfl ?_
    refine z_get (C := RX5) (T := TX5) (N := 8) X inX5 hP 22 (by decide) (zcC_22 _ _ _ _ _ _) rfl 7 (by decide) rfl (by decide +kernel) rfl dX5_seekFewest_75 ?_
    refine lv_iconst (v := 1) hx hb dX5_seekFewest_78 (by decide) ?_
    refine lv_iadd hx hb dX5_seekFewest_79 ?_
    refine z_put (ty := .int) (x := (((s).1 22 7) + (1 : Int32))) (C := RX5) (T := TX5) (N := 8) X inX5 tyX5 tyX5_ok nmX5 hA hP hS 22 (by decide) (zcC_22 _ _ _ _ _ _) rfl 7 (by decide) rfl (by decide +kernel) rfl (by decide +kernel) rfl rfl (Nat.le_of_ble_eq_true rfl) rfl dX5_seekFewest_80 (fun H locs hP hS => ?_)
    exact hk83 (x1) (x2) (x4) ((zI s 22 7 (((s).1 22 7) + (1 : Int32)))) _ _ _ h hP hS (lv_sub hl [0, 1, 2, 3] rfl)
  have w35 : ∀ (k14 : Int32 → Int32 → ZS → Option (Unit × ZS)) (hk14 : ∀ (x1 : Int32) (x2 : Int32) (s : ZS) (H : Heap) (locs : List Loc) (ls : Array Slot), k14 x1 x2 s = some (r, τ) → va_P D vwCl (zW (zcC a cI cJ cC) 41 a s) H → va_S (zF 41 a st.heap.size) st.heap H locs → lv_has ls 5 [(0, .ref (a 22)), (1, .int x1), (2, .int x2)] → W p l e rmX5_seekFewest st m args below meth c H locs 0 0 (MQ below (va_Qv (fun (τ' : ZS) => τ' = τ) (zPost (zcC a cI cJ cC) 41 a D [(cI, .int), (cJ, .long)]) (zF 41 a st.heap.size)) args st 0 0 (zF 41 a st.heap.size)) (F0 m 14 ls [])) (n : Nat) (x1 : Int32) (x2 : Int32) (x3 : Int32) (x4 : Int32) (s : ZS) (H : Heap) (locs : List Loc) (ls : Array Slot), fX5_seekFewest_35n k14 n (x1, x2, x3, x4, s) = some (r, τ) → va_P D vwCl (zW (zcC a cI cJ cC) 41 a s) H → va_S (zF 41 a st.heap.size) st.heap H locs → lv_has ls 5 [(0, .ref (a 22)), (1, .int x1), (2, .int x2), (3, .int x3), (4, .int x4)] → W p l e rmX5_seekFewest st m args below meth c H locs 0 0 (MQ below (va_Qv (fun (τ' : ZS) => τ' = τ) (zPost (zcC a cI cJ cC) 41 a D [(cI, .int), (cJ, .long)]) (zF 41 a st.heap.size)) args st 0 0 (zF 41 a st.heap.size)) (F0 m 35 ls []) := by
    intro k14 hk14 n
    induction n with
    | zero => intro x1 x2 x3 x4 s H locs ls h; exact zloop_0 h
    | succ n ih =>
      intro x1 x2 x3 x4 s H locs ls h hP hS hl
      have h : fX5_seekFewest_35b k14 (fun x1 x2 x3 x4 s => fX5_seekFewest_35n k14 n (x1, x2, x3, x4, s)) x1 x2 x3 x4 s = some (r, τ) := h
      refine lv_iload hx hb dX5_seekFewest_35 (lv_at hl 4 rfl) ?_
      refine lv_sipush (v := 1000) hx hb dX5_seekFewest_37 (by decide) ?_
      refine lv_icmp_ge (tgt := 95) hx hb dX5_seekFewest_40 (by decide) (fun c1 => ?_) (fun c1 => ?_)
      · have h := zif_t h c1
        exact w95 k14 hk14  (x1) (x2) (s) _ _ _ h hP hS (lv_sub hl [0, 1, 2] rfl)
      · have h := zif_f h c1
        refine lv_iload_n hx hb dX5_seekFewest_43 rfl (lv_at hl 3 rfl) ?_
        refine lv_if_eq (tgt := 95) hx hb dX5_seekFewest_44 (by decide) (fun c2 => ?_) (fun c2 => ?_)
        · have h := zif_t h c2
          exact w95 k14 hk14  (x1) (x2) (s) _ _ _ h hP hS (lv_sub hl [0, 1, 2] rfl)
        · have h := zif_f h c2
          refine lv_aload_n hx hb dX5_seekFewest_47 rfl (lv_at hl 0 rfl) ?_
          refine lv_iload_n hx hb dX5_seekFewest_48 rfl (lv_at hl 2 rfl) ?_
          obtain ⟨u3, s3, e3, h⟩ := zb_some h
          refine z_callv hS (z_runV (As := [.int x2]) (rest := []) X hG hA hE hP hS 22 (kX5_pileTried (l := l) (D := D) (a := a) (cI := cI) (cJ := cJ) (cC := cC) (adK := adK) (adV := adV) e3 _) (cwV 1 hts gX5_seekFewest_X5_pileTried rfl rfl rfl (by decide +kernel) ⟨Nat.le_of_ble_eq_true rfl, Nat.le_of_ble_eq_true rfl⟩) (by decide) (zcC_22 _ _ _ _ _ _) rfl rfl rfl hl.1 rfl (Nat.le_of_ble_eq_true rfl) dX5_seekFewest_49) (fun H locs hP hS => ?_)
          refine lv_aload_n hx hb dX5_seekFewest_52 rfl (lv_at hl 0 rfl) ?_
          refine lv_iload_n hx hb dX5_seekFewest_53 rfl (lv_at hl 1 rfl) ?_
          obtain ⟨u4, s4, e4, h⟩ := zb_some h
          refine z_calli hS (z_runV (As := [.int x1]) (rest := []) X hG hA hE hP hS 22 (kX5_isWished (l := l) (D := D) (a := a) (cI := cI) (cJ := cJ) (cC := cC) (adK := adK) (adV := adV) e4 _) (cwV 1 hts gX5_seekFewest_X5_isWished rfl rfl rfl (by decide +kernel) ⟨Nat.le_of_ble_eq_true rfl, Nat.le_of_ble_eq_true rfl⟩) (by decide) (zcC_22 _ _ _ _ _ _) rfl rfl rfl hl.1 rfl (Nat.le_of_ble_eq_true rfl) dX5_seekFewest_54) (fun H locs hP hS => ?_)
          refine lv_if_eq (tgt := 83) hx hb dX5_seekFewest_57 (by decide) (fun c5 => ?_) (fun c5 => ?_)
          · have h := zif_t h c5
            exact w83 (fun x1 x2 x3 x4 s => fX5_seekFewest_35n k14 n (x1, x2, x3, x4, s)) (fun x1 x2 x3 x4 s H locs ls h hP hS hl => ih x1 x2 x3 x4 s H locs ls h hP hS hl)  (x1) (x2) (x4) (s4) _ _ _ h hP hS (lv_sub hl [0, 1, 2, 4] rfl)
          · have h := zif_f h c5
            refine lv_aload_n hx hb dX5_seekFewest_60 rfl (lv_at hl 0 rfl) ?_
            refine z_get (C := RX5) (T := TX5) (N := 8) X inX5 hP 22 (by decide) (zcC_22 _ _ _ _ _ _) rfl 7 (by decide) rfl (by decide +kernel) rfl dX5_seekFewest_61 ?_
            refine lv_if_ne (tgt := 73) hx hb dX5_seekFewest_64 (by decide) (fun c6 => ?_) (fun c6 => ?_)
            · have h := zif_f h c6
              exact w73 (fX5_seekFewest_83 (fun x1 x2 x3 x4 s => fX5_seekFewest_35n k14 n (x1, x2, x3, x4, s))) (fun x1 x2 x4 s H locs ls h hP hS hl => w83 (fun x1 x2 x3 x4 s => fX5_seekFewest_35n k14 n (x1, x2, x3, x4, s)) (fun x1 x2 x3 x4 s H locs ls h hP hS hl => ih x1 x2 x3 x4 s H locs ls h hP hS hl)  x1 x2 x4 s H locs ls h hP hS hl)  (x1) (x2) (x4) (s4) _ _ _ h hP hS (lv_sub hl [0, 1, 2, 4] rfl)
            · have h := zif_t h c6
              refine lv_aload_n hx hb dX5_seekFewest_67 rfl (lv_at hl 0 rfl) ?_
              refine lv_iload_n hx hb dX5_seekFewest_68 rfl (lv_at hl 2 rfl) ?_
              refine lv_iconst (v := 0) hx hb dX5_seekFewest_69 (by decide) ?_
              obtain ⟨u7, s7, e7, h⟩ := zb_some h
              refine z_callv hS (z_runV (As := [.int x2, .int (0 : Int32)]) (rest := []) X hG hA hE hP hS 22 (kX5_keep (l := l) (D := D) (a := a) (cI := cI) (cJ := cJ) (cC := cC) (adK := adK) (adV := adV) e7 _) (cwV 2 hts gX5_seekFewest_X5_keep rfl rfl rfl (by decide +kernel) ⟨Nat.le_of_ble_eq_true rfl, Nat.le_of_ble_eq_true rfl⟩) (by decide) (zcC_22 _ _ _ _ _ _) rfl rfl rfl hl.1 rfl (Nat.le_of_ble_eq_true rfl) dX5_seekFewest_70) (fun H locs hP hS => ?_)
              exact w73 (fX5_seekFewest_83 (fun x1 x2 x3 x4 s => fX5_seekFewest_35n k14 n (x1, x2, x3, x4, s))) (fun x1 x2 x4 s H locs ls h hP hS hl => w83 (fun x1 x2 x3 x4 s => fX5_seekFewest_35n k14 n (x1, x2, x3, x4, s)) (fun x1 x2 x3 x4 s H locs ls h hP hS hl => ih x1 x2 x3 x4 s H locs ls h hP hS hl)  x1 x2 x4 s H locs ls h hP hS hl)  (x1) (x2) (x4) (s7) _ _ _ h hP hS (lv_sub hl [0, 1, 2, 4] rfl)
  have w14 : ∀  (n : Nat) (x1 : Int32) (x2 : Int32) (s : ZS) (H : Heap) (locs : List Loc) (ls : Array Slot), fX5_seekFewest_14n  n (x1, x2, s) = some (r, τ) → va_P D vwCl (zW (zcC a cI cJ cC) 41 a s) H → va_S (zF 41 a st.heap.size) st.heap H locs → lv_has ls 5 [(0, .ref (a 22)), (1, .int x1), (2, .int x2)] → W p l e rmX5_seekFewest st m args below meth c H locs 0 0 (MQ below (va_Qv (fun (τ' : ZS) => τ' = τ) (zPost (zcC a cI cJ cC) 41 a D [(cI, .int), (cJ, .long)]) (zF 41 a st.heap.size)) args st 0 0 (zF 41 a st.heap.size)) (F0 m 14 ls []) := by
    intro  n
    induction n with
    | zero => intro x1 x2 s H locs ls h; exact zloop_0 h
    | succ n ih =>
      intro x1 x2 s H locs ls h hP hS hl
      have h : fX5_seekFewest_14b  (fun x1 x2 s => fX5_seekFewest_14n  n (x1, x2, s)) x1 x2 s = some (r, τ) := h
      refine lv_iload_n hx hb dX5_seekFewest_14 rfl (lv_at hl 2 rfl) ?_
      refine lv_iconst (v := 4) hx hb dX5_seekFewest_15 (by decide) ?_
      refine lv_icmp_gt (tgt := 101) hx hb dX5_seekFewest_16 (by decide) (fun c1 => ?_) (fun c1 => ?_)
      · have h := zif_t h c1
        exact z_vret X hP hS hr hlocks h dX5_seekFewest_101
      · have h := zif_f h c1
        refine lv_aload_n hx hb dX5_seekFewest_19 rfl (lv_at hl 0 rfl) ?_
        refine z_get (C := RX5) (T := TX5) (N := 8) X inX5 hP 22 (by decide) (zcC_22 _ _ _ _ _ _) rfl 7 (by decide) rfl (by decide +kernel) rfl dX5_seekFewest_20 ?_
        refine lv_if_ne (tgt := 101) hx hb dX5_seekFewest_23 (by decide) (fun c2 => ?_) (fun c2 => ?_)
        · have h := zif_f h c2
          exact z_vret X hP hS hr hlocks h dX5_seekFewest_101
        · have h := zif_t h c2
          refine lv_aload_n hx hb dX5_seekFewest_26 rfl (lv_at hl 0 rfl) ?_
          refine lv_iload_n hx hb dX5_seekFewest_27 rfl (lv_at hl 2 rfl) ?_
          obtain ⟨u3, s3, e3, h⟩ := zb_some h
          refine z_calli hS (z_runV (As := [.int x2]) (rest := []) X hG hA hE hP hS 22 (kX5_begin (l := l) (D := D) (a := a) (cI := cI) (cJ := cJ) (cC := cC) (adK := adK) (adV := adV) e3 _) (cwV 1 hts gX5_seekFewest_X5_begin rfl rfl rfl (by decide +kernel) ⟨Nat.le_of_ble_eq_true rfl, Nat.le_of_ble_eq_true rfl⟩) (by decide) (zcC_22 _ _ _ _ _ _) rfl rfl rfl hl.1 rfl (Nat.le_of_ble_eq_true rfl) dX5_seekFewest_28) (fun H locs hP hS => ?_)
          refine lv_istore_n (lv' := [(3, .int u3), (0, .ref (a 22)), (1, .int x1), (2, .int x2)]) hx hb dX5_seekFewest_31 rfl hl (by decide) rfl (fun ls hl => ?_)
          refine lv_iconst (v := 0) hx hb dX5_seekFewest_32 (by decide) ?_
          refine lv_istore (lv' := [(4, .int (0 : Int32)), (3, .int u3), (0, .ref (a 22)), (1, .int x1), (2, .int x2)]) hx hb dX5_seekFewest_33 hl (by decide) rfl (fun ls hl => ?_)
          exact w35 (fun x1 x2 s => fX5_seekFewest_14n  n (x1, x2, s)) (fun x1 x2 s H locs ls h hP hS hl => ih x1 x2 s H locs ls h hP hS hl) zN (x1) (x2) (u3) ((0 : Int32)) (s3) _ _ _ h hP hS (lv_sub hl [2, 3, 4, 1, 0] rfl)
  have hl : lv_has ls 5 [(0, .ref (a 22)), (1, .int x1)] := hl
  refine lv_aload_n hx hb dX5_seekFewest_0 rfl (lv_at hl 0 rfl) ?_
  refine z_get (C := RX5) (T := TX5) (N := 8) X inX5 hP 22 (by decide) (zcC_22 _ _ _ _ _ _) rfl 1 (by decide) rfl (by decide +kernel) rfl dX5_seekFewest_1 ?_
  obtain ⟨u1, s1, e1, h⟩ := zb_some h
  refine z_callv hS (z_runV (As := []) (rest := []) X hG hA hE hP hS 19 (kX0_lookAtSheets (l := l) (D := D) (a := a) (cI := cI) (cJ := cJ) (cC := cC) (adK := adK) (adV := adV) e1 _) (cwV 0 hts gX5_seekFewest_X0_lookAtSheets rfl rfl rfl (by decide +kernel) ⟨Nat.le_of_ble_eq_true rfl, Nat.le_of_ble_eq_true rfl⟩) (by decide) (zcC_19 _ _ _ _ _ _) rfl rfl rfl hl.1 rfl (Nat.le_of_ble_eq_true rfl) dX5_seekFewest_4) (fun H locs hP hS => ?_)
  refine lv_aload_n hx hb dX5_seekFewest_7 rfl (lv_at hl 0 rfl) ?_
  refine lv_iconst (v := 0) hx hb dX5_seekFewest_8 (by decide) ?_
  refine z_put (ty := .int) (x := (0 : Int32)) (C := RX5) (T := TX5) (N := 8) X inX5 tyX5 tyX5_ok nmX5 hA hP hS 22 (by decide) (zcC_22 _ _ _ _ _ _) rfl 7 (by decide) rfl (by decide +kernel) rfl (by decide +kernel) rfl rfl (Nat.le_of_ble_eq_true rfl) rfl dX5_seekFewest_9 (fun H locs hP hS => ?_)
  refine lv_iconst (v := 0) hx hb dX5_seekFewest_12 (by decide) ?_
  refine lv_istore_n (lv' := [(2, .int (0 : Int32)), (0, .ref (a 22)), (1, .int x1)]) hx hb dX5_seekFewest_13 rfl hl (by decide) rfl (fun ls hl => ?_)
  exact w14  zN (x1) ((0 : Int32)) ((zI s1 22 7 (0 : Int32))) _ _ _ h hP hS (lv_sub hl [1, 2, 0] rfl)
abbrev rmX5_bestSheet : Room := { frames := 1, cells := 0, slots := 0, locals := 21 }
set_option maxHeartbeats 4000000 in
set_option maxRecDepth 100000 in
theorem kX5_bestSheet {l : Launch} {D : va_G} {a : Nat → Nat} {cI cJ cC : ClassId} {adK adV : Nat → Nat} {x1 : Int32} {s τ : ZS} {r : Int32} (h : fX5_bestSheet x1 s = some (r, τ)) : zMi (zcC a cI cJ cC) 41 a D [(cI, .int), (cJ, .long)] (zEC adK adV) l yX5_bestSheet wsX5_bestSheet rmX5_bestSheet [.ref (a 22), .int x1] s r τ := by
  refine z_start (cc := cX5_bestSheet) (maxL := 2) (ret := (some .int)) RX5 rfl (by decide) rfl (Nat.le_of_ble_eq_true rfl) ?_
  intro p e st m args below meth c ls H locs X hr hlocks hA hE hP hS hl
  obtain ⟨hx, hb, hml, hown, hts, -⟩ := id X
  have hG := zEC_good adK adV
  have inX5 : ∀ w ∈ u_ws RX5 TX5 8, w ∈ wsX5_bestSheet := by decide +kernel
  have hl : lv_has ls 2 [(0, .ref (a 22)), (1, .int x1)] := hl
  refine lv_iload_n hx hb dX5_bestSheet_0 rfl (lv_at hl 1 rfl) ?_
  refine lv_aload_n hx hb dX5_bestSheet_1 rfl (lv_at hl 0 rfl) ?_
  refine z_get (C := RX5) (T := TX5) (N := 8) X inX5 hP 22 (by decide) (zcC_22 _ _ _ _ _ _) rfl 5 (by decide) rfl (by decide +kernel) rfl dX5_bestSheet_2 ?_
  refine lv_icmp_ge (tgt := 29) hx hb dX5_bestSheet_5 (by decide) (fun c1 => ?_) (fun c1 => ?_)
  · have h := zif_t h c1
    refine lv_bipush (v := -5) hx hb dX5_bestSheet_29 (by decide) ?_
    exact z_iret X hP hS hr hlocks h dX5_bestSheet_31
  · have h := zif_f h c1
    refine lv_iload_n hx hb dX5_bestSheet_8 rfl (lv_at hl 1 rfl) ?_
    refine lv_aload_n hx hb dX5_bestSheet_9 rfl (lv_at hl 0 rfl) ?_
    refine z_get (C := RX5) (T := TX5) (N := 8) X inX5 hP 22 (by decide) (zcC_22 _ _ _ _ _ _) rfl 3 (by decide) rfl (by decide +kernel) rfl dX5_bestSheet_10 ?_
    refine z_alen (v := 4) X hP 24 0 (by decide) (zcC_24 _ _ _ _ _ _) rfl rfl dX5_bestSheet_13 ?_
    obtain ⟨u2, s2, e2, h⟩ := zb_some h
    refine z_calli hS (z_runSN (As := [.int x1, .int (4 : Int32)]) (rest := []) X hG hA hE hP hS (kX6_within (l := l) (D := D) (a := a) (cI := cI) (cJ := cJ) (cC := cC) (adK := adK) (adV := adV) e2 _) (va_cnB 2 hts gX5_bestSheet_X6_within_n67 rfl rfl rfl (zE_nest hE 4 rfl) (hts (.initialized RX6) (by decide +kernel)) (by decide +kernel) ⟨Nat.le_of_ble_eq_true rfl, Nat.le_of_ble_eq_true rfl⟩) (by decide +kernel) rfl hl.1 rfl (Nat.le_of_ble_eq_true rfl) dX5_bestSheet_14) (fun H locs hP hS => ?_)
    refine lv_if_eq (tgt := 29) hx hb dX5_bestSheet_17 (by decide) (fun c3 => ?_) (fun c3 => ?_)
    · have h := zif_t h c3
      refine lv_bipush (v := -5) hx hb dX5_bestSheet_29 (by decide) ?_
      exact z_iret X hP hS hr hlocks h dX5_bestSheet_31
    · have h := zif_f h c3
      refine lv_aload_n hx hb dX5_bestSheet_20 rfl (lv_at hl 0 rfl) ?_
      refine z_get (C := RX5) (T := TX5) (N := 8) X inX5 hP 22 (by decide) (zcC_22 _ _ _ _ _ _) rfl 3 (by decide) rfl (by decide +kernel) rfl dX5_bestSheet_21 ?_
      refine lv_iload_n hx hb dX5_bestSheet_24 rfl (lv_at hl 1 rfl) ?_
      obtain ⟨g4, h⟩ := zg_some h
      refine z_iald X hP 24 0 (by decide) (zcC_24 _ _ _ _ _ _) rfl g4 dX5_bestSheet_25 ?_
      refine lv_goto (tgt := 31) hx hb dX5_bestSheet_26 (by decide) ?_
      exact z_iret X hP hS hr hlocks h dX5_bestSheet_31
abbrev rmX6_fewest : Room := { frames := 6, cells := 0, slots := 0, locals := 138 }
set_option maxHeartbeats 4000000 in
set_option maxRecDepth 100000 in
theorem kX6_fewest {l : Launch} {D : va_G} {a : Nat → Nat} {cI cJ cC : ClassId} {adK adV : Nat → Nat} {x1 : Int32} {x2 : Int32} {s τ : ZS} {r : Int32} (h : fX6_fewest x1 x2 s = some (r, τ)) : zMi (zcC a cI cJ cC) 41 a D [(cI, .int), (cJ, .long)] (zEC adK adV) l yX6_fewest wsX6_fewest rmX6_fewest [.ref (a 0), .int x1, .int x2] s r τ := by
  refine z_start (cc := cX6_fewest) (maxL := 4) (ret := (some .int)) RX6 rfl (by decide) rfl (Nat.le_of_ble_eq_true rfl) ?_
  intro p e st m args below meth c ls H locs X hr hlocks hA hE hP hS hl
  obtain ⟨hx, hb, hml, hown, hts, -⟩ := id X
  have hG := zEC_good adK adV
  have inX5 : ∀ w ∈ u_ws RX5 TX5 8, w ∈ wsX6_fewest := by decide +kernel
  have inX6 : ∀ w ∈ u_ws RX6 TX6 12, w ∈ wsX6_fewest := by decide +kernel
  have w31 : ∀  (x1 : Int32) (x2 : Int32) (s : ZS) (H : Heap) (locs : List Loc) (ls : Array Slot), fX6_fewest_31  x1 x2 s = some (r, τ) → va_P D vwCl (zW (zcC a cI cJ cC) 41 a s) H → va_S (zF 41 a st.heap.size) st.heap H locs → lv_has ls 4 [(0, .ref (a 0)), (1, .int x1), (2, .int x2)] → W p l e rmX6_fewest st m args below meth c H locs 0 0 (MQ below (va_Qi (fun (r' : Int32) (τ' : ZS) => r' = r ∧ τ' = τ) (zPost (zcC a cI cJ cC) 41 a D [(cI, .int), (cJ, .long)]) (zF 41 a st.heap.size)) args st 0 0 (zF 41 a st.heap.size)) (F0 m 31 ls []) := by
    intro  x1 x2 s H locs ls h hP hS hl
    refine lv_aload_n hx hb dX6_fewest_31 rfl (lv_at hl 0 rfl) ?_
    refine z_get (C := RX6) (T := TX6) (N := 12) X inX6 hP 0 (by decide) (zcC_0 _ _ _ _ _ _) rfl 4 (by decide) rfl (by decide +kernel) rfl dX6_fewest_32 ?_
    refine lv_iload_n hx hb dX6_fewest_35 rfl (lv_at hl 1 rfl) ?_
    obtain ⟨u1, s1, e1, h⟩ := zb_some h
    refine z_callv hS (z_runV (As := [.int x1]) (rest := []) X hG hA hE hP hS 22 (kX5_seekFewest (l := l) (D := D) (a := a) (cI := cI) (cJ := cJ) (cC := cC) (adK := adK) (adV := adV) e1 _) (cwV 1 hts gX6_fewest_X5_seekFewest rfl rfl rfl (by decide +kernel) ⟨Nat.le_of_ble_eq_true rfl, Nat.le_of_ble_eq_true rfl⟩) (by decide) (zcC_22 _ _ _ _ _ _) rfl rfl rfl hl.1 rfl (Nat.le_of_ble_eq_true rfl) dX6_fewest_36) (fun H locs hP hS => ?_)
    refine lv_aload_n hx hb dX6_fewest_39 rfl (lv_at hl 0 rfl) ?_
    refine z_get (C := RX6) (T := TX6) (N := 12) X inX6 hP 0 (by decide) (zcC_0 _ _ _ _ _ _) rfl 4 (by decide) rfl (by decide +kernel) rfl dX6_fewest_40 ?_
    refine z_get (C := RX5) (T := TX5) (N := 8) X inX5 hP 22 (by decide) (zcC_22 _ _ _ _ _ _) rfl 7 (by decide) rfl (by decide +kernel) rfl dX6_fewest_43 ?_
    refine lv_if_ne (tgt := 52) hx hb dX6_fewest_46 (by decide) (fun c2 => ?_) (fun c2 => ?_)
    · have h := zif_f h c2
      refine lv_iload_n hx hb dX6_fewest_52 rfl (lv_at hl 2 rfl) ?_
      refine lv_if_ne (tgt := 64) hx hb dX6_fewest_53 (by decide) (fun c3 => ?_) (fun c3 => ?_)
      · have h := zif_f h c3
        refine lv_iload_n hx hb dX6_fewest_64 rfl (lv_at hl 2 rfl) ?_
        refine lv_iconst (v := 1) hx hb dX6_fewest_65 (by decide) ?_
        refine lv_icmp_ne (tgt := 77) hx hb dX6_fewest_66 (by decide) (fun c4 => ?_) (fun c4 => ?_)
        · have h := zif_f h c4
          refine lv_aload_n hx hb dX6_fewest_77 rfl (lv_at hl 0 rfl) ?_
          refine z_get (C := RX6) (T := TX6) (N := 12) X inX6 hP 0 (by decide) (zcC_0 _ _ _ _ _ _) rfl 4 (by decide) rfl (by decide +kernel) rfl dX6_fewest_78 ?_
          refine lv_iload_n hx hb dX6_fewest_81 rfl (lv_at hl 2 rfl) ?_
          refine lv_bipush (v := 10) hx hb dX6_fewest_82 (by decide) ?_
          refine lv_isub hx hb dX6_fewest_84 ?_
          obtain ⟨u5, s5, e5, h⟩ := zb_some h
          refine z_calli hS (z_runV (As := [.int (x2 - (10 : Int32))]) (rest := []) X hG hA hE hP hS 22 (kX5_bestSheet (l := l) (D := D) (a := a) (cI := cI) (cJ := cJ) (cC := cC) (adK := adK) (adV := adV) e5 _) (cwV 1 hts gX6_fewest_X5_bestSheet rfl rfl rfl (by decide +kernel) ⟨Nat.le_of_ble_eq_true rfl, Nat.le_of_ble_eq_true rfl⟩) (by decide) (zcC_22 _ _ _ _ _ _) rfl rfl rfl hl.1 rfl (Nat.le_of_ble_eq_true rfl) dX6_fewest_85) (fun H locs hP hS => ?_)
          exact z_iret X hP hS hr hlocks h dX6_fewest_88
        · have h := zif_t h c4
          refine lv_aload_n hx hb dX6_fewest_69 rfl (lv_at hl 0 rfl) ?_
          refine z_get (C := RX6) (T := TX6) (N := 12) X inX6 hP 0 (by decide) (zcC_0 _ _ _ _ _ _) rfl 4 (by decide) rfl (by decide +kernel) rfl dX6_fewest_70 ?_
          refine z_get (C := RX5) (T := TX5) (N := 8) X inX5 hP 22 (by decide) (zcC_22 _ _ _ _ _ _) rfl 7 (by decide) rfl (by decide +kernel) rfl dX6_fewest_73 ?_
          exact z_iret X hP hS hr hlocks h dX6_fewest_76
      · have h := zif_t h c3
        refine lv_aload_n hx hb dX6_fewest_56 rfl (lv_at hl 0 rfl) ?_
        refine z_get (C := RX6) (T := TX6) (N := 12) X inX6 hP 0 (by decide) (zcC_0 _ _ _ _ _ _) rfl 4 (by decide) rfl (by decide +kernel) rfl dX6_fewest_57 ?_
        refine z_get (C := RX5) (T := TX5) (N := 8) X inX5 hP 22 (by decide) (zcC_22 _ _ _ _ _ _) rfl 5 (by decide) rfl (by decide +kernel) rfl dX6_fewest_60 ?_
        exact z_iret X hP hS hr hlocks h dX6_fewest_63
    · have h := zif_t h c2
      refine lv_bipush (v := -5) hx hb dX6_fewest_49 (by decide) ?_
      exact z_iret X hP hS hr hlocks h dX6_fewest_51
  have hl : lv_has ls 4 [(0, .ref (a 0)), (1, .int x1), (2, .int x2)] := hl
  refine lv_iload_n hx hb dX6_fewest_0 rfl (lv_at hl 2 rfl) ?_
  refine lv_bipush (v := 10) hx hb dX6_fewest_1 (by decide) ?_
  refine lv_isub hx hb dX6_fewest_3 ?_
  refine lv_iconst (v := 4) hx hb dX6_fewest_4 (by decide) ?_
  obtain ⟨u1, s1, e1, h⟩ := zb_some h
  refine z_calli hS (z_runS (As := [.int (x2 - (10 : Int32)), .int (4 : Int32)]) (rest := []) X hG hA hE hP hS (kX6_within (l := l) (D := D) (a := a) (cI := cI) (cJ := cJ) (cC := cC) (adK := adK) (adV := adV) e1 _) (va_cwS 2 hts gX6_fewest_X6_within rfl rfl rfl (by decide +kernel) ⟨Nat.le_of_ble_eq_true rfl, Nat.le_of_ble_eq_true rfl⟩) rfl hl.1 rfl (Nat.le_of_ble_eq_true rfl) dX6_fewest_5) (fun H locs hP hS => ?_)
  refine lv_istore_n (lv' := [(3, .int u1), (0, .ref (a 0)), (1, .int x1), (2, .int x2)]) hx hb dX6_fewest_8 rfl hl (by decide) rfl (fun ls hl => ?_)
  refine lv_iload_n hx hb dX6_fewest_9 rfl (lv_at hl 2 rfl) ?_
  refine lv_iconst (v := 3) hx hb dX6_fewest_10 (by decide) ?_
  obtain ⟨u2, s2, e2, h⟩ := zb_some h
  refine z_calli hS (z_runS (As := [.int x1, .int (3 : Int32)]) (rest := []) X hG hA hE hP hS (kX6_within (l := l) (D := D) (a := a) (cI := cI) (cJ := cJ) (cC := cC) (adK := adK) (adV := adV) e2 _) (va_cwS 2 hts gX6_fewest_X6_within rfl rfl rfl (by decide +kernel) ⟨Nat.le_of_ble_eq_true rfl, Nat.le_of_ble_eq_true rfl⟩) rfl hl.1 rfl (Nat.le_of_ble_eq_true rfl) dX6_fewest_11) (fun H locs hP hS => ?_)
  refine lv_if_eq (tgt := 29) hx hb dX6_fewest_14 (by decide) (fun c3 => ?_) (fun c3 => ?_)
  · have h := zif_t h c3
    refine lv_iconst (v := -1) hx hb dX6_fewest_29 (by decide) ?_
    exact z_iret X hP hS hr hlocks h dX6_fewest_30
  · have h := zif_f h c3
    refine lv_iload_n hx hb dX6_fewest_17 rfl (lv_at hl 3 rfl) ?_
    refine lv_iconst (v := 2) hx hb dX6_fewest_18 (by decide) ?_
    obtain ⟨u4, s4, e4, h⟩ := zb_some h
    refine z_calli hS (z_runS (As := [.int x2, .int (2 : Int32)]) (rest := []) X hG hA hE hP hS (kX6_within (l := l) (D := D) (a := a) (cI := cI) (cJ := cJ) (cC := cC) (adK := adK) (adV := adV) e4 _) (va_cwS 2 hts gX6_fewest_X6_within rfl rfl rfl (by decide +kernel) ⟨Nat.le_of_ble_eq_true rfl, Nat.le_of_ble_eq_true rfl⟩) rfl hl.1 rfl (Nat.le_of_ble_eq_true rfl) dX6_fewest_19) (fun H locs hP hS => ?_)
    refine lv_if_ne (tgt := 31) hx hb dX6_fewest_22 (by decide) (fun c5 => ?_) (fun c5 => ?_)
    · have h := zif_f h c5
      exact w31   (x1) (x2) (s4) _ _ _ h hP hS (lv_sub hl [1, 2, 3] rfl)
    · have h := zif_t h c5
      refine lv_iload_n hx hb dX6_fewest_25 rfl (lv_at hl 0 rfl) ?_
      refine lv_if_ne (tgt := 31) hx hb dX6_fewest_26 (by decide) (fun c6 => ?_) (fun c6 => ?_)
      · have h := zif_f h c6
        exact w31   (x1) (x2) (s4) _ _ _ h hP hS (lv_sub hl [1, 2, 3] rfl)
      · have h := zif_t h c6
        refine lv_iconst (v := -1) hx hb dX6_fewest_29 (by decide) ?_
        exact z_iret X hP hS hr hlocks h dX6_fewest_30
abbrev rmX0_shadesInto_19_25 : Room := { frames := 3, cells := 0, slots := 0, locals := 71 }
set_option maxHeartbeats 4000000 in
set_option maxRecDepth 100000 in
theorem kX0_shadesInto_19_25 {l : Launch} {D : va_G} {a : Nat → Nat} {cI cJ cC : ClassId} {adK adV : Nat → Nat} {x2 : Int32} {x3 : Int32} {s τ : ZS} {r : Unit} (h : fX0_shadesInto_19_25 x2 x3 s = some (r, τ)) : zMv (zcC a cI cJ cC) 41 a D [(cI, .int), (cJ, .long)] (zEC adK adV) l yX0_shadesInto wsX0_shadesInto rmX0_shadesInto_19_25 [.ref (a 19), .ref (a 25), .int x2, .int x3] s r τ := by
  refine z_start (cc := cX0_shadesInto) (maxL := 5) (ret := none) RX0 rfl (by decide) rfl (Nat.le_of_ble_eq_true rfl) ?_
  intro p e st m args below meth c ls H locs X hr hlocks hA hE hP hS hl
  obtain ⟨hx, hb, hml, hown, hts, -⟩ := id X
  have hG := zEC_good adK adV
  have w3 : ∀  (n : Nat) (x2 : Int32) (x3 : Int32) (x4 : Int32) (s : ZS) (H : Heap) (locs : List Loc) (ls : Array Slot), fX0_shadesInto_19_25_3n  n (x2, x3, x4, s) = some (r, τ) → va_P D vwCl (zW (zcC a cI cJ cC) 41 a s) H → va_S (zF 41 a st.heap.size) st.heap H locs → lv_has ls 5 [(0, .ref (a 19)), (1, .ref (a 25)), (2, .int x2), (3, .int x3), (4, .int x4)] → W p l e rmX0_shadesInto_19_25 st m args below meth c H locs 0 0 (MQ below (va_Qv (fun (τ' : ZS) => τ' = τ) (zPost (zcC a cI cJ cC) 41 a D [(cI, .int), (cJ, .long)]) (zF 41 a st.heap.size)) args st 0 0 (zF 41 a st.heap.size)) (F0 m 3 ls []) := by
    intro  n
    induction n with
    | zero => intro x2 x3 x4 s H locs ls h; exact zloop_0 h
    | succ n ih =>
      intro x2 x3 x4 s H locs ls h hP hS hl
      have h : fX0_shadesInto_19_25_3b  (fun x2 x3 x4 s => fX0_shadesInto_19_25_3n  n (x2, x3, x4, s)) x2 x3 x4 s = some (r, τ) := h
      refine lv_iload hx hb dX0_shadesInto_3 (lv_at hl 4 rfl) ?_
      refine lv_iconst (v := 3) hx hb dX0_shadesInto_5 (by decide) ?_
      refine lv_icmp_ge (tgt := 34) hx hb dX0_shadesInto_6 (by decide) (fun c1 => ?_) (fun c1 => ?_)
      · have h := zif_t h c1
        exact z_vret X hP hS hr hlocks h dX0_shadesInto_34
      · have h := zif_f h c1
        refine lv_iload hx hb dX0_shadesInto_9 (lv_at hl 4 rfl) ?_
        refine lv_aload_n hx hb dX0_shadesInto_11 rfl (lv_at hl 1 rfl) ?_
        refine z_alen (v := 3) X hP 25 0 (by decide) (zcC_25 _ _ _ _ _ _) rfl rfl dX0_shadesInto_12 ?_
        refine lv_icmp_ge (tgt := 34) hx hb dX0_shadesInto_13 (by decide) (fun c2 => ?_) (fun c2 => ?_)
        · have h := zif_t h c2
          exact z_vret X hP hS hr hlocks h dX0_shadesInto_34
        · have h := zif_f h c2
          refine lv_aload_n hx hb dX0_shadesInto_16 rfl (lv_at hl 1 rfl) ?_
          refine lv_iload hx hb dX0_shadesInto_17 (lv_at hl 4 rfl) ?_
          refine lv_aload_n hx hb dX0_shadesInto_19 rfl (lv_at hl 0 rfl) ?_
          refine lv_iload_n hx hb dX0_shadesInto_20 rfl (lv_at hl 2 rfl) ?_
          refine lv_iload_n hx hb dX0_shadesInto_21 rfl (lv_at hl 3 rfl) ?_
          refine lv_iload hx hb dX0_shadesInto_22 (lv_at hl 4 rfl) ?_
          obtain ⟨u3, s3, e3, h⟩ := zb_some h
          refine z_calli hS (z_runV (As := [.int x2, .int x3, .int x4]) (rest := [.int x4, .ref (a 25)]) X hG hA hE hP hS 19 (kX0_shadeOf (l := l) (D := D) (a := a) (cI := cI) (cJ := cJ) (cC := cC) (adK := adK) (adV := adV) e3 _) (cwV 3 hts gX0_shadesInto_X0_shadeOf rfl rfl rfl (by decide +kernel) ⟨Nat.le_of_ble_eq_true rfl, Nat.le_of_ble_eq_true rfl⟩) (by decide) (zcC_19 _ _ _ _ _ _) rfl rfl rfl hl.1 rfl (Nat.le_of_ble_eq_true rfl) dX0_shadesInto_24) (fun H locs hP hS => ?_)
          obtain ⟨g4, h⟩ := zg_some h
          refine z_iast X hA hP hS 25 0 (by decide) (zcC_25 _ _ _ _) rfl g4 dX0_shadesInto_27 (fun H locs hP hS => ?_)
          refine lv_iinc (v := (x4 + (1 : Int32))) (lv' := [(4, .int (x4 + (1 : Int32))), (0, .ref (a 19)), (1, .ref (a 25)), (2, .int x2), (3, .int x3)]) hx hb dX0_shadesInto_28 hl (k := 4) rfl rfl (by decide) rfl (fun ls hl => ?_)
          refine lv_goto (tgt := 3) hx hb dX0_shadesInto_31 (by decide) ?_
          exact ih (x2) (x3) ((x4 + (1 : Int32))) ((zI s3 25 (x4).toNatClampNeg u3)) _ _ _ h hP hS (lv_sub hl [1, 2, 3, 4, 0] rfl)
  have hl : lv_has ls 5 [(0, .ref (a 19)), (1, .ref (a 25)), (2, .int x2), (3, .int x3)] := hl
  refine lv_iconst (v := 0) hx hb dX0_shadesInto_0 (by decide) ?_
  refine lv_istore (lv' := [(4, .int (0 : Int32)), (0, .ref (a 19)), (1, .ref (a 25)), (2, .int x2), (3, .int x3)]) hx hb dX0_shadesInto_1 hl (by decide) rfl (fun ls hl => ?_)
  exact w3  zN (x2) (x3) ((0 : Int32)) (s) _ _ _ h hP hS (lv_sub hl [1, 2, 3, 4, 0] rfl)
abbrev rmX6_differing_25_9 : Room := { frames := 1, cells := 0, slots := 0, locals := 21 }
set_option maxHeartbeats 4000000 in
set_option maxRecDepth 100000 in
theorem kX6_differing_25_9 {l : Launch} {D : va_G} {a : Nat → Nat} {cI cJ cC : ClassId} {adK adV : Nat → Nat}  {s τ : ZS} {r : Int32} (h : fX6_differing_25_9  s = some (r, τ)) : zMi (zcC a cI cJ cC) 41 a D [(cI, .int), (cJ, .long)] (zEC adK adV) l yX6_differing wsX6_differing rmX6_differing_25_9 [.ref (a 25), .ref (a 9)] s r τ := by
  refine z_start (cc := cX6_differing) (maxL := 4) (ret := (some .int)) RX6 rfl (by decide) rfl (Nat.le_of_ble_eq_true rfl) ?_
  intro p e st m args below meth c ls H locs X hr hlocks hA hE hP hS hl
  obtain ⟨hx, hb, hml, hown, hts, -⟩ := id X
  have hG := zEC_good adK adV
  have w4 : ∀  (n : Nat) (x2 : Int32) (x3 : Int32) (s : ZS) (H : Heap) (locs : List Loc) (ls : Array Slot), fX6_differing_25_9_4n  n (x2, x3, s) = some (r, τ) → va_P D vwCl (zW (zcC a cI cJ cC) 41 a s) H → va_S (zF 41 a st.heap.size) st.heap H locs → lv_has ls 4 [(0, .ref (a 25)), (1, .ref (a 9)), (2, .int x2), (3, .int x3)] → W p l e rmX6_differing_25_9 st m args below meth c H locs 0 0 (MQ below (va_Qi (fun (r' : Int32) (τ' : ZS) => r' = r ∧ τ' = τ) (zPost (zcC a cI cJ cC) 41 a D [(cI, .int), (cJ, .long)]) (zF 41 a st.heap.size)) args st 0 0 (zF 41 a st.heap.size)) (F0 m 4 ls []) := by
    intro  n
    induction n with
    | zero => intro x2 x3 s H locs ls h; exact zloop_0 h
    | succ n ih =>
      intro x2 x3 s H locs ls h hP hS hl
      have h : fX6_differing_25_9_4b  (fun x2 x3 s => fX6_differing_25_9_4n  n (x2, x3, s)) x2 x3 s = some (r, τ) := h
      refine lv_iload_n hx hb dX6_differing_4 rfl (lv_at hl 3 rfl) ?_
      refine lv_aload_n hx hb dX6_differing_5 rfl (lv_at hl 0 rfl) ?_
      refine z_alen (v := 3) X hP 25 0 (by decide) (zcC_25 _ _ _ _ _ _) rfl rfl dX6_differing_6 ?_
      refine lv_icmp_ge (tgt := 35) hx hb dX6_differing_7 (by decide) (fun c1 => ?_) (fun c1 => ?_)
      · have h := zif_t h c1
        refine lv_iload_n hx hb dX6_differing_35 rfl (lv_at hl 2 rfl) ?_
        exact z_iret X hP hS hr hlocks h dX6_differing_36
      · have h := zif_f h c1
        refine lv_iload_n hx hb dX6_differing_10 rfl (lv_at hl 3 rfl) ?_
        refine lv_aload_n hx hb dX6_differing_11 rfl (lv_at hl 1 rfl) ?_
        refine z_alen (v := 3) X hP 9 0 (by decide) (zcC_9 _ _ _ _ _ _) rfl rfl dX6_differing_12 ?_
        refine lv_icmp_ge (tgt := 35) hx hb dX6_differing_13 (by decide) (fun c2 => ?_) (fun c2 => ?_)
        · have h := zif_t h c2
          refine lv_iload_n hx hb dX6_differing_35 rfl (lv_at hl 2 rfl) ?_
          exact z_iret X hP hS hr hlocks h dX6_differing_36
        · have h := zif_f h c2
          refine lv_iload_n hx hb dX6_differing_16 rfl (lv_at hl 2 rfl) ?_
          refine lv_aload_n hx hb dX6_differing_17 rfl (lv_at hl 0 rfl) ?_
          refine lv_iload_n hx hb dX6_differing_18 rfl (lv_at hl 3 rfl) ?_
          obtain ⟨g3, h⟩ := zg_some h
          refine z_iald X hP 25 0 (by decide) (zcC_25 _ _ _ _ _ _) rfl g3 dX6_differing_19 ?_
          refine lv_aload_n hx hb dX6_differing_20 rfl (lv_at hl 1 rfl) ?_
          refine lv_iload_n hx hb dX6_differing_21 rfl (lv_at hl 3 rfl) ?_
          obtain ⟨g4, h⟩ := zg_some h
          refine z_iald X hP 9 0 (by decide) (zcC_9 _ _ _ _ _ _) rfl g4 dX6_differing_22 ?_
          refine lv_isub hx hb dX6_differing_23 ?_
          refine va_mabs hx hb (hml.trans hl.1.symm) hown (hts (.methodLink RX6 300 Lib.Math.abs.name) (by decide +kernel)) (hts _ (by decide +kernel)) (hts _ (by decide +kernel)) (hts _ (by decide +kernel)) (Nat.le_of_ble_eq_true rfl) (Nat.le_of_ble_eq_true rfl) (Nat.zero_le _) (Nat.zero_le _) dX6_differing_24 ?_
          refine lv_iadd hx hb dX6_differing_27 ?_
          refine lv_istore_n (lv' := [(2, .int (x2 + (if 0 ≤ (((s).1 25 (x3).toNatClampNeg) - ((s).1 9 (x3).toNatClampNeg)) then (((s).1 25 (x3).toNatClampNeg) - ((s).1 9 (x3).toNatClampNeg)) else 0 - (((s).1 25 (x3).toNatClampNeg) - ((s).1 9 (x3).toNatClampNeg))))), (0, .ref (a 25)), (1, .ref (a 9)), (3, .int x3)]) hx hb dX6_differing_28 rfl hl (by decide) rfl (fun ls hl => ?_)
          refine lv_iinc (v := (x3 + (1 : Int32))) (lv' := [(3, .int (x3 + (1 : Int32))), (2, .int (x2 + (if 0 ≤ (((s).1 25 (x3).toNatClampNeg) - ((s).1 9 (x3).toNatClampNeg)) then (((s).1 25 (x3).toNatClampNeg) - ((s).1 9 (x3).toNatClampNeg)) else 0 - (((s).1 25 (x3).toNatClampNeg) - ((s).1 9 (x3).toNatClampNeg))))), (0, .ref (a 25)), (1, .ref (a 9))]) hx hb dX6_differing_29 hl (k := 3) rfl rfl (by decide) rfl (fun ls hl => ?_)
          refine lv_goto (tgt := 4) hx hb dX6_differing_32 (by decide) ?_
          exact ih ((x2 + (if 0 ≤ (((s).1 25 (x3).toNatClampNeg) - ((s).1 9 (x3).toNatClampNeg)) then (((s).1 25 (x3).toNatClampNeg) - ((s).1 9 (x3).toNatClampNeg)) else 0 - (((s).1 25 (x3).toNatClampNeg) - ((s).1 9 (x3).toNatClampNeg))))) ((x3 + (1 : Int32))) (s) _ _ _ h hP hS (lv_sub hl [2, 3, 1, 0] rfl)
  have hl : lv_has ls 4 [(0, .ref (a 25)), (1, .ref (a 9))] := hl
  refine lv_iconst (v := 0) hx hb dX6_differing_0 (by decide) ?_
  refine lv_istore_n (lv' := [(2, .int (0 : Int32)), (0, .ref (a 25)), (1, .ref (a 9))]) hx hb dX6_differing_1 rfl hl (by decide) rfl (fun ls hl => ?_)
  refine lv_iconst (v := 0) hx hb dX6_differing_2 (by decide) ?_
  refine lv_istore_n (lv' := [(3, .int (0 : Int32)), (2, .int (0 : Int32)), (0, .ref (a 25)), (1, .ref (a 9))]) hx hb dX6_differing_3 rfl hl (by decide) rfl (fun ls hl => ?_)
  exact w4  zN ((0 : Int32)) ((0 : Int32)) (s) _ _ _ h hP hS (lv_sub hl [2, 3, 1, 0] rfl)
abbrev rmX5_missOf : Room := { frames := 4, cells := 0, slots := 0, locals := 95 }
set_option maxHeartbeats 4000000 in
set_option maxRecDepth 100000 in
theorem kX5_missOf {l : Launch} {D : va_G} {a : Nat → Nat} {cI cJ cC : ClassId} {adK adV : Nat → Nat} {x1 : Int32} {s τ : ZS} {r : Int32} (h : fX5_missOf x1 s = some (r, τ)) : zMi (zcC a cI cJ cC) 41 a D [(cI, .int), (cJ, .long)] (zEC adK adV) l yX5_missOf wsX5_missOf rmX5_missOf [.ref (a 22), .int x1] s r τ := by
  refine z_start (cc := cX5_missOf) (maxL := 2) (ret := (some .int)) RX5 rfl (by decide) rfl (Nat.le_of_ble_eq_true rfl) ?_
  intro p e st m args below meth c ls H locs X hr hlocks hA hE hP hS hl
  obtain ⟨hx, hb, hml, hown, hts, -⟩ := id X
  have hG := zEC_good adK adV
  have inX3 : ∀ w ∈ u_ws RX3 TX3 10, w ∈ wsX5_missOf := by decide +kernel
  have inX5 : ∀ w ∈ u_ws RX5 TX5 8, w ∈ wsX5_missOf := by decide +kernel
  have hl : lv_has ls 2 [(0, .ref (a 22)), (1, .int x1)] := hl
  refine lv_aload_n hx hb dX5_missOf_0 rfl (lv_at hl 0 rfl) ?_
  refine z_get (C := RX5) (T := TX5) (N := 8) X inX5 hP 22 (by decide) (zcC_22 _ _ _ _ _ _) rfl 1 (by decide) rfl (by decide +kernel) rfl dX5_missOf_1 ?_
  refine lv_aload_n hx hb dX5_missOf_4 rfl (lv_at hl 0 rfl) ?_
  refine z_get (C := RX5) (T := TX5) (N := 8) X inX5 hP 22 (by decide) (zcC_22 _ _ _ _ _ _) rfl 4 (by decide) rfl (by decide +kernel) rfl dX5_missOf_5 ?_
  refine lv_iload_n hx hb dX5_missOf_8 rfl (lv_at hl 1 rfl) ?_
  refine lv_iconst (v := 0) hx hb dX5_missOf_9 (by decide) ?_
  obtain ⟨u1, s1, e1, h⟩ := zb_some h
  refine z_callv hS (z_runV (As := [.ref (a 25), .int x1, .int (0 : Int32)]) (rest := []) X hG hA hE hP hS 19 (kX0_shadesInto_19_25 (l := l) (D := D) (a := a) (cI := cI) (cJ := cJ) (cC := cC) (adK := adK) (adV := adV) e1 _) (cwV 3 hts gX5_missOf_X0_shadesInto rfl rfl rfl (by decide +kernel) ⟨Nat.le_of_ble_eq_true rfl, Nat.le_of_ble_eq_true rfl⟩) (by decide) (zcC_19 _ _ _ _ _ _) rfl rfl rfl hl.1 rfl (Nat.le_of_ble_eq_true rfl) dX5_missOf_10) (fun H locs hP hS => ?_)
  refine lv_aload_n hx hb dX5_missOf_13 rfl (lv_at hl 0 rfl) ?_
  refine z_get (C := RX5) (T := TX5) (N := 8) X inX5 hP 22 (by decide) (zcC_22 _ _ _ _ _ _) rfl 4 (by decide) rfl (by decide +kernel) rfl dX5_missOf_14 ?_
  refine lv_aload_n hx hb dX5_missOf_17 rfl (lv_at hl 0 rfl) ?_
  refine z_get (C := RX5) (T := TX5) (N := 8) X inX5 hP 22 (by decide) (zcC_22 _ _ _ _ _ _) rfl 0 (by decide) rfl (by decide +kernel) rfl dX5_missOf_18 ?_
  refine z_get (C := RX3) (T := TX3) (N := 10) X inX3 hP 1 (by decide) (zcC_1 _ _ _ _ _ _) rfl 9 (by decide) rfl (by decide +kernel) rfl dX5_missOf_21 ?_
  obtain ⟨u2, s2, e2, h⟩ := zb_some h
  refine z_calli hS (z_runSN (As := [.ref (a 25), .ref (a 9)]) (rest := []) X hG hA hE hP hS (kX6_differing_25_9 (l := l) (D := D) (a := a) (cI := cI) (cJ := cJ) (cC := cC) (adK := adK) (adV := adV) e2 _) (va_cnB 2 hts gX5_missOf_X6_differing_n99 rfl rfl rfl (zE_nest hE 6 rfl) (hts (.initialized RX6) (by decide +kernel)) (by decide +kernel) ⟨Nat.le_of_ble_eq_true rfl, Nat.le_of_ble_eq_true rfl⟩) (by decide +kernel) rfl hl.1 rfl (Nat.le_of_ble_eq_true rfl) dX5_missOf_24) (fun H locs hP hS => ?_)
  exact z_iret X hP hS hr hlocks h dX5_missOf_27
abbrev rmX5_seekNearest : Room := { frames := 5, cells := 0, slots := 0, locals := 116 }
set_option maxHeartbeats 4000000 in
set_option maxRecDepth 100000 in
theorem kX5_seekNearest {l : Launch} {D : va_G} {a : Nat → Nat} {cI cJ cC : ClassId} {adK adV : Nat → Nat} {x1 : Int32} {s τ : ZS} {r : Unit} (h : fX5_seekNearest x1 s = some (r, τ)) : zMv (zcC a cI cJ cC) 41 a D [(cI, .int), (cJ, .long)] (zEC adK adV) l yX5_seekNearest wsX5_seekNearest rmX5_seekNearest [.ref (a 22), .int x1] s r τ := by
  refine z_start (cc := cX5_seekNearest) (maxL := 6) (ret := none) RX5 rfl (by decide) rfl (Nat.le_of_ble_eq_true rfl) ?_
  intro p e st m args below meth c ls H locs X hr hlocks hA hE hP hS hl
  obtain ⟨hx, hb, hml, hown, hts, -⟩ := id X
  have hG := zEC_good adK adV
  have inX5 : ∀ w ∈ u_ws RX5 TX5 8, w ∈ wsX5_seekNearest := by decide +kernel
  have w81 : ∀ (k15 : Int32 → Int32 → ZS → Option (Unit × ZS)) (hk15 : ∀ (x1 : Int32) (x2 : Int32) (s : ZS) (H : Heap) (locs : List Loc) (ls : Array Slot), k15 x1 x2 s = some (r, τ) → va_P D vwCl (zW (zcC a cI cJ cC) 41 a s) H → va_S (zF 41 a st.heap.size) st.heap H locs → lv_has ls 6 [(0, .ref (a 22)), (1, .int x1), (2, .int x2)] → W p l e rmX5_seekNearest st m args below meth c H locs 0 0 (MQ below (va_Qv (fun (τ' : ZS) => τ' = τ) (zPost (zcC a cI cJ cC) 41 a D [(cI, .int), (cJ, .long)]) (zF 41 a st.heap.size)) args st 0 0 (zF 41 a st.heap.size)) (F0 m 15 ls [])) (x1 : Int32) (x2 : Int32) (s : ZS) (H : Heap) (locs : List Loc) (ls : Array Slot), fX5_seekNearest_81 k15 x1 x2 s = some (r, τ) → va_P D vwCl (zW (zcC a cI cJ cC) 41 a s) H → va_S (zF 41 a st.heap.size) st.heap H locs → lv_has ls 6 [(0, .ref (a 22)), (1, .int x1), (2, .int x2)] → W p l e rmX5_seekNearest st m args below meth c H locs 0 0 (MQ below (va_Qv (fun (τ' : ZS) => τ' = τ) (zPost (zcC a cI cJ cC) 41 a D [(cI, .int), (cJ, .long)]) (zF 41 a st.heap.size)) args st 0 0 (zF 41 a st.heap.size)) (F0 m 81 ls []) := by
    intro k15 hk15 x1 x2 s H locs ls h hP hS hl
    refine lv_iinc (v := (x2 + (1 : Int32))) (lv' := [(2, .int (x2 + (1 : Int32))), (0, .ref (a 22)), (1, .int x1)]) hx hb dX5_seekNearest_81 hl (k := 2) rfl rfl (by decide) rfl (fun ls hl => ?_)
    refine lv_goto (tgt := 15) hx hb dX5_seekNearest_84 (by decide) ?_
    exact hk15 (x1) ((x2 + (1 : Int32))) (s) _ _ _ h hP hS (lv_sub hl [1, 2, 0] rfl)
  have w69 : ∀ (k29 : Int32 → Int32 → Int32 → Int32 → ZS → Option (Unit × ZS)) (hk29 : ∀ (x1 : Int32) (x2 : Int32) (x3 : Int32) (x4 : Int32) (s : ZS) (H : Heap) (locs : List Loc) (ls : Array Slot), k29 x1 x2 x3 x4 s = some (r, τ) → va_P D vwCl (zW (zcC a cI cJ cC) 41 a s) H → va_S (zF 41 a st.heap.size) st.heap H locs → lv_has ls 6 [(0, .ref (a 22)), (1, .int x1), (2, .int x2), (3, .int x3), (4, .int x4)] → W p l e rmX5_seekNearest st m args below meth c H locs 0 0 (MQ below (va_Qv (fun (τ' : ZS) => τ' = τ) (zPost (zcC a cI cJ cC) 41 a D [(cI, .int), (cJ, .long)]) (zF 41 a st.heap.size)) args st 0 0 (zF 41 a st.heap.size)) (F0 m 29 ls [])) (x1 : Int32) (x2 : Int32) (x4 : Int32) (s : ZS) (H : Heap) (locs : List Loc) (ls : Array Slot), fX5_seekNearest_69 k29 x1 x2 x4 s = some (r, τ) → va_P D vwCl (zW (zcC a cI cJ cC) 41 a s) H → va_S (zF 41 a st.heap.size) st.heap H locs → lv_has ls 6 [(0, .ref (a 22)), (1, .int x1), (2, .int x2), (4, .int x4)] → W p l e rmX5_seekNearest st m args below meth c H locs 0 0 (MQ below (va_Qv (fun (τ' : ZS) => τ' = τ) (zPost (zcC a cI cJ cC) 41 a D [(cI, .int), (cJ, .long)]) (zF 41 a st.heap.size)) args st 0 0 (zF 41 a st.heap.size)) (F0 m 69 ls []) := by
    intro k29 hk29 x1 x2 x4 s H locs ls h hP hS hl
    refine lv_aload_n hx hb dX5_seekNearest_69 rfl (lv_at hl 0 rfl) ?_
    refine lv_iload_n hx hb dX5_seekNearest_70 rfl (lv_at hl 2 rfl) ?_
    obtain ⟨u1, s1, e1, h⟩ := zb_some h
    refine z_calli hS (z_runV (As := [.int x2]) (rest := []) X hG hA hE hP hS 22 (kX5_goOn (l := l) (D := D) (a := a) (cI := cI) (cJ := cJ) (cC := cC) (adK := adK) (adV := adV) e1 _) (cwV 1 hts gX5_seekNearest_X5_goOn rfl rfl rfl (by decide +kernel) ⟨Nat.le_of_ble_eq_true rfl, Nat.le_of_ble_eq_true rfl⟩) (by decide) (zcC_22 _ _ _ _ _ _) rfl rfl rfl hl.1 rfl (Nat.le_of_ble_eq_true rfl) dX5_seekNearest_71) (fun H locs hP hS => ?_)
    refine lv_istore_n (lv' := [(3, .int u1), (0, .ref (a 22)), (1, .int x1), (2, .int x2), (4, .int x4)]) hx hb dX5_seekNearest_74 rfl hl (by decide) rfl (fun ls hl => ?_)
    refine lv_iinc (v := (x4 + (1 : Int32))) (lv' := [(4, .int (x4 + (1 : Int32))), (3, .int u1), (0, .ref (a 22)), (1, .int x1), (2, .int x2)]) hx hb dX5_seekNearest_75 hl (k := 4) rfl rfl (by decide) rfl (fun ls hl => ?_)
    refine lv_goto (tgt := 29) hx hb dX5_seekNearest_78 (by decide) ?_
    exact hk29 (x1) (x2) (u1) ((x4 + (1 : Int32))) (s1) _ _ _ h hP hS (lv_sub hl [2, 3, 4, 1, 0] rfl)
  have w29 : ∀ (k15 : Int32 → Int32 → ZS → Option (Unit × ZS)) (hk15 : ∀ (x1 : Int32) (x2 : Int32) (s : ZS) (H : Heap) (locs : List Loc) (ls : Array Slot), k15 x1 x2 s = some (r, τ) → va_P D vwCl (zW (zcC a cI cJ cC) 41 a s) H → va_S (zF 41 a st.heap.size) st.heap H locs → lv_has ls 6 [(0, .ref (a 22)), (1, .int x1), (2, .int x2)] → W p l e rmX5_seekNearest st m args below meth c H locs 0 0 (MQ below (va_Qv (fun (τ' : ZS) => τ' = τ) (zPost (zcC a cI cJ cC) 41 a D [(cI, .int), (cJ, .long)]) (zF 41 a st.heap.size)) args st 0 0 (zF 41 a st.heap.size)) (F0 m 15 ls [])) (n : Nat) (x1 : Int32) (x2 : Int32) (x3 : Int32) (x4 : Int32) (s : ZS) (H : Heap) (locs : List Loc) (ls : Array Slot), fX5_seekNearest_29n k15 n (x1, x2, x3, x4, s) = some (r, τ) → va_P D vwCl (zW (zcC a cI cJ cC) 41 a s) H → va_S (zF 41 a st.heap.size) st.heap H locs → lv_has ls 6 [(0, .ref (a 22)), (1, .int x1), (2, .int x2), (3, .int x3), (4, .int x4)] → W p l e rmX5_seekNearest st m args below meth c H locs 0 0 (MQ below (va_Qv (fun (τ' : ZS) => τ' = τ) (zPost (zcC a cI cJ cC) 41 a D [(cI, .int), (cJ, .long)]) (zF 41 a st.heap.size)) args st 0 0 (zF 41 a st.heap.size)) (F0 m 29 ls []) := by
    intro k15 hk15 n
    induction n with
    | zero => intro x1 x2 x3 x4 s H locs ls h; exact zloop_0 h
    | succ n ih =>
      intro x1 x2 x3 x4 s H locs ls h hP hS hl
      have h : fX5_seekNearest_29b k15 (fun x1 x2 x3 x4 s => fX5_seekNearest_29n k15 n (x1, x2, x3, x4, s)) x1 x2 x3 x4 s = some (r, τ) := h
      refine lv_iload hx hb dX5_seekNearest_29 (lv_at hl 4 rfl) ?_
      refine lv_sipush (v := 1000) hx hb dX5_seekNearest_31 (by decide) ?_
      refine lv_icmp_ge (tgt := 81) hx hb dX5_seekNearest_34 (by decide) (fun c1 => ?_) (fun c1 => ?_)
      · have h := zif_t h c1
        exact w81 k15 hk15  (x1) (x2) (s) _ _ _ h hP hS (lv_sub hl [0, 1, 2] rfl)
      · have h := zif_f h c1
        refine lv_iload_n hx hb dX5_seekNearest_37 rfl (lv_at hl 3 rfl) ?_
        refine lv_if_eq (tgt := 81) hx hb dX5_seekNearest_38 (by decide) (fun c2 => ?_) (fun c2 => ?_)
        · have h := zif_t h c2
          exact w81 k15 hk15  (x1) (x2) (s) _ _ _ h hP hS (lv_sub hl [0, 1, 2] rfl)
        · have h := zif_f h c2
          refine lv_aload_n hx hb dX5_seekNearest_41 rfl (lv_at hl 0 rfl) ?_
          refine lv_iload_n hx hb dX5_seekNearest_42 rfl (lv_at hl 2 rfl) ?_
          obtain ⟨u3, s3, e3, h⟩ := zb_some h
          refine z_callv hS (z_runV (As := [.int x2]) (rest := []) X hG hA hE hP hS 22 (kX5_pileTried (l := l) (D := D) (a := a) (cI := cI) (cJ := cJ) (cC := cC) (adK := adK) (adV := adV) e3 _) (cwV 1 hts gX5_seekNearest_X5_pileTried rfl rfl rfl (by decide +kernel) ⟨Nat.le_of_ble_eq_true rfl, Nat.le_of_ble_eq_true rfl⟩) (by decide) (zcC_22 _ _ _ _ _ _) rfl rfl rfl hl.1 rfl (Nat.le_of_ble_eq_true rfl) dX5_seekNearest_43) (fun H locs hP hS => ?_)
          refine lv_aload_n hx hb dX5_seekNearest_46 rfl (lv_at hl 0 rfl) ?_
          refine lv_iload_n hx hb dX5_seekNearest_47 rfl (lv_at hl 1 rfl) ?_
          obtain ⟨u4, s4, e4, h⟩ := zb_some h
          refine z_calli hS (z_runV (As := [.int x1]) (rest := []) X hG hA hE hP hS 22 (kX5_missOf (l := l) (D := D) (a := a) (cI := cI) (cJ := cJ) (cC := cC) (adK := adK) (adV := adV) e4 _) (cwV 1 hts gX5_seekNearest_X5_missOf rfl rfl rfl (by decide +kernel) ⟨Nat.le_of_ble_eq_true rfl, Nat.le_of_ble_eq_true rfl⟩) (by decide) (zcC_22 _ _ _ _ _ _) rfl rfl rfl hl.1 rfl (Nat.le_of_ble_eq_true rfl) dX5_seekNearest_48) (fun H locs hP hS => ?_)
          refine lv_istore (lv' := [(5, .int u4), (0, .ref (a 22)), (1, .int x1), (2, .int x2), (3, .int x3), (4, .int x4)]) hx hb dX5_seekNearest_51 hl (by decide) rfl (fun ls hl => ?_)
          refine lv_iload hx hb dX5_seekNearest_53 (lv_at hl 0 rfl) ?_
          refine lv_aload_n hx hb dX5_seekNearest_55 rfl (lv_at hl 1 rfl) ?_
          refine z_get (C := RX5) (T := TX5) (N := 8) X inX5 hP 22 (by decide) (zcC_22 _ _ _ _ _ _) rfl 6 (by decide) rfl (by decide +kernel) rfl dX5_seekNearest_56 ?_
          refine lv_icmp_ge (tgt := 69) hx hb dX5_seekNearest_59 (by decide) (fun c5 => ?_) (fun c5 => ?_)
          · have h := zif_t h c5
            exact w69 (fun x1 x2 x3 x4 s => fX5_seekNearest_29n k15 n (x1, x2, x3, x4, s)) (fun x1 x2 x3 x4 s H locs ls h hP hS hl => ih x1 x2 x3 x4 s H locs ls h hP hS hl)  (x1) (x2) (x4) (s4) _ _ _ h hP hS (lv_sub hl [1, 2, 3, 5] rfl)
          · have h := zif_f h c5
            refine lv_aload_n hx hb dX5_seekNearest_62 rfl (lv_at hl 1 rfl) ?_
            refine lv_iload_n hx hb dX5_seekNearest_63 rfl (lv_at hl 3 rfl) ?_
            refine lv_iload hx hb dX5_seekNearest_64 (lv_at hl 0 rfl) ?_
            obtain ⟨u6, s6, e6, h⟩ := zb_some h
            refine z_callv hS (z_runV (As := [.int x2, .int u4]) (rest := []) X hG hA hE hP hS 22 (kX5_keep (l := l) (D := D) (a := a) (cI := cI) (cJ := cJ) (cC := cC) (adK := adK) (adV := adV) e6 _) (cwV 2 hts gX5_seekNearest_X5_keep rfl rfl rfl (by decide +kernel) ⟨Nat.le_of_ble_eq_true rfl, Nat.le_of_ble_eq_true rfl⟩) (by decide) (zcC_22 _ _ _ _ _ _) rfl rfl rfl hl.1 rfl (Nat.le_of_ble_eq_true rfl) dX5_seekNearest_66) (fun H locs hP hS => ?_)
            exact w69 (fun x1 x2 x3 x4 s => fX5_seekNearest_29n k15 n (x1, x2, x3, x4, s)) (fun x1 x2 x3 x4 s H locs ls h hP hS hl => ih x1 x2 x3 x4 s H locs ls h hP hS hl)  (x1) (x2) (x4) (s6) _ _ _ h hP hS (lv_sub hl [1, 2, 3, 5] rfl)
  have w15 : ∀  (n : Nat) (x1 : Int32) (x2 : Int32) (s : ZS) (H : Heap) (locs : List Loc) (ls : Array Slot), fX5_seekNearest_15n  n (x1, x2, s) = some (r, τ) → va_P D vwCl (zW (zcC a cI cJ cC) 41 a s) H → va_S (zF 41 a st.heap.size) st.heap H locs → lv_has ls 6 [(0, .ref (a 22)), (1, .int x1), (2, .int x2)] → W p l e rmX5_seekNearest st m args below meth c H locs 0 0 (MQ below (va_Qv (fun (τ' : ZS) => τ' = τ) (zPost (zcC a cI cJ cC) 41 a D [(cI, .int), (cJ, .long)]) (zF 41 a st.heap.size)) args st 0 0 (zF 41 a st.heap.size)) (F0 m 15 ls []) := by
    intro  n
    induction n with
    | zero => intro x1 x2 s H locs ls h; exact zloop_0 h
    | succ n ih =>
      intro x1 x2 s H locs ls h hP hS hl
      have h : fX5_seekNearest_15b  (fun x1 x2 s => fX5_seekNearest_15n  n (x1, x2, s)) x1 x2 s = some (r, τ) := h
      refine lv_iload_n hx hb dX5_seekNearest_15 rfl (lv_at hl 2 rfl) ?_
      refine lv_iconst (v := 3) hx hb dX5_seekNearest_16 (by decide) ?_
      refine lv_icmp_gt (tgt := 87) hx hb dX5_seekNearest_17 (by decide) (fun c1 => ?_) (fun c1 => ?_)
      · have h := zif_t h c1
        exact z_vret X hP hS hr hlocks h dX5_seekNearest_87
      · have h := zif_f h c1
        refine lv_aload_n hx hb dX5_seekNearest_20 rfl (lv_at hl 0 rfl) ?_
        refine lv_iload_n hx hb dX5_seekNearest_21 rfl (lv_at hl 2 rfl) ?_
        obtain ⟨u2, s2, e2, h⟩ := zb_some h
        refine z_calli hS (z_runV (As := [.int x2]) (rest := []) X hG hA hE hP hS 22 (kX5_begin (l := l) (D := D) (a := a) (cI := cI) (cJ := cJ) (cC := cC) (adK := adK) (adV := adV) e2 _) (cwV 1 hts gX5_seekNearest_X5_begin rfl rfl rfl (by decide +kernel) ⟨Nat.le_of_ble_eq_true rfl, Nat.le_of_ble_eq_true rfl⟩) (by decide) (zcC_22 _ _ _ _ _ _) rfl rfl rfl hl.1 rfl (Nat.le_of_ble_eq_true rfl) dX5_seekNearest_22) (fun H locs hP hS => ?_)
        refine lv_istore_n (lv' := [(3, .int u2), (0, .ref (a 22)), (1, .int x1), (2, .int x2)]) hx hb dX5_seekNearest_25 rfl hl (by decide) rfl (fun ls hl => ?_)
        refine lv_iconst (v := 0) hx hb dX5_seekNearest_26 (by decide) ?_
        refine lv_istore (lv' := [(4, .int (0 : Int32)), (3, .int u2), (0, .ref (a 22)), (1, .int x1), (2, .int x2)]) hx hb dX5_seekNearest_27 hl (by decide) rfl (fun ls hl => ?_)
        exact w29 (fun x1 x2 s => fX5_seekNearest_15n  n (x1, x2, s)) (fun x1 x2 s H locs ls h hP hS hl => ih x1 x2 s H locs ls h hP hS hl) zN (x1) (x2) (u2) ((0 : Int32)) (s2) _ _ _ h hP hS (lv_sub hl [2, 3, 4, 1, 0] rfl)
  have hl : lv_has ls 6 [(0, .ref (a 22)), (1, .int x1)] := hl
  refine lv_aload_n hx hb dX5_seekNearest_0 rfl (lv_at hl 0 rfl) ?_
  refine z_get (C := RX5) (T := TX5) (N := 8) X inX5 hP 22 (by decide) (zcC_22 _ _ _ _ _ _) rfl 1 (by decide) rfl (by decide +kernel) rfl dX5_seekNearest_1 ?_
  obtain ⟨u1, s1, e1, h⟩ := zb_some h
  refine z_callv hS (z_runV (As := []) (rest := []) X hG hA hE hP hS 19 (kX0_lookAtSheets (l := l) (D := D) (a := a) (cI := cI) (cJ := cJ) (cC := cC) (adK := adK) (adV := adV) e1 _) (cwV 0 hts gX5_seekNearest_X0_lookAtSheets rfl rfl rfl (by decide +kernel) ⟨Nat.le_of_ble_eq_true rfl, Nat.le_of_ble_eq_true rfl⟩) (by decide) (zcC_19 _ _ _ _ _ _) rfl rfl rfl hl.1 rfl (Nat.le_of_ble_eq_true rfl) dX5_seekNearest_4) (fun H locs hP hS => ?_)
  refine lv_aload_n hx hb dX5_seekNearest_7 rfl (lv_at hl 0 rfl) ?_
  refine lv_ldc (own := RX5) (index := 62) (v := 2147483647) hx hb hown (hts _ (by decide +kernel)) dX5_seekNearest_8 ?_
  refine z_put (ty := .int) (x := (2147483647 : Int32)) (C := RX5) (T := TX5) (N := 8) X inX5 tyX5 tyX5_ok nmX5 hA hP hS 22 (by decide) (zcC_22 _ _ _ _ _ _) rfl 6 (by decide) rfl (by decide +kernel) rfl (by decide +kernel) rfl rfl (Nat.le_of_ble_eq_true rfl) rfl dX5_seekNearest_10 (fun H locs hP hS => ?_)
  refine lv_iconst (v := 0) hx hb dX5_seekNearest_13 (by decide) ?_
  refine lv_istore_n (lv' := [(2, .int (0 : Int32)), (0, .ref (a 22)), (1, .int x1)]) hx hb dX5_seekNearest_14 rfl hl (by decide) rfl (fun ls hl => ?_)
  exact w15  zN (x1) ((0 : Int32)) ((zI s1 22 6 (2147483647 : Int32))) _ _ _ h hP hS (lv_sub hl [1, 2, 0] rfl)
abbrev rmX6_nearest : Room := { frames := 6, cells := 0, slots := 0, locals := 141 }
set_option maxHeartbeats 4000000 in
set_option maxRecDepth 100000 in
theorem kX6_nearest {l : Launch} {D : va_G} {a : Nat → Nat} {cI cJ cC : ClassId} {adK adV : Nat → Nat} {x1 : Int32} {x2 : Int32} {s τ : ZS} {r : Int32} (h : fX6_nearest x1 x2 s = some (r, τ)) : zMi (zcC a cI cJ cC) 41 a D [(cI, .int), (cJ, .long)] (zEC adK adV) l yX6_nearest wsX6_nearest rmX6_nearest [.ref (a 0), .int x1, .int x2] s r τ := by
  refine z_start (cc := cX6_nearest) (maxL := 4) (ret := (some .int)) RX6 rfl (by decide) rfl (Nat.le_of_ble_eq_true rfl) ?_
  intro p e st m args below meth c ls H locs X hr hlocks hA hE hP hS hl
  obtain ⟨hx, hb, hml, hown, hts, -⟩ := id X
  have hG := zEC_good adK adV
  have inX5 : ∀ w ∈ u_ws RX5 TX5 8, w ∈ wsX6_nearest := by decide +kernel
  have inX6 : ∀ w ∈ u_ws RX6 TX6 12, w ∈ wsX6_nearest := by decide +kernel
  have w31 : ∀  (x1 : Int32) (x2 : Int32) (s : ZS) (H : Heap) (locs : List Loc) (ls : Array Slot), fX6_nearest_31  x1 x2 s = some (r, τ) → va_P D vwCl (zW (zcC a cI cJ cC) 41 a s) H → va_S (zF 41 a st.heap.size) st.heap H locs → lv_has ls 4 [(0, .ref (a 0)), (1, .int x1), (2, .int x2)] → W p l e rmX6_nearest st m args below meth c H locs 0 0 (MQ below (va_Qi (fun (r' : Int32) (τ' : ZS) => r' = r ∧ τ' = τ) (zPost (zcC a cI cJ cC) 41 a D [(cI, .int), (cJ, .long)]) (zF 41 a st.heap.size)) args st 0 0 (zF 41 a st.heap.size)) (F0 m 31 ls []) := by
    intro  x1 x2 s H locs ls h hP hS hl
    refine lv_aload_n hx hb dX6_nearest_31 rfl (lv_at hl 0 rfl) ?_
    refine z_get (C := RX6) (T := TX6) (N := 12) X inX6 hP 0 (by decide) (zcC_0 _ _ _ _ _ _) rfl 4 (by decide) rfl (by decide +kernel) rfl dX6_nearest_32 ?_
    refine lv_iload_n hx hb dX6_nearest_35 rfl (lv_at hl 1 rfl) ?_
    obtain ⟨u1, s1, e1, h⟩ := zb_some h
    refine z_callv hS (z_runV (As := [.int x1]) (rest := []) X hG hA hE hP hS 22 (kX5_seekNearest (l := l) (D := D) (a := a) (cI := cI) (cJ := cJ) (cC := cC) (adK := adK) (adV := adV) e1 _) (cwV 1 hts gX6_nearest_X5_seekNearest rfl rfl rfl (by decide +kernel) ⟨Nat.le_of_ble_eq_true rfl, Nat.le_of_ble_eq_true rfl⟩) (by decide) (zcC_22 _ _ _ _ _ _) rfl rfl rfl hl.1 rfl (Nat.le_of_ble_eq_true rfl) dX6_nearest_36) (fun H locs hP hS => ?_)
    refine lv_iload_n hx hb dX6_nearest_39 rfl (lv_at hl 2 rfl) ?_
    refine lv_if_ne (tgt := 51) hx hb dX6_nearest_40 (by decide) (fun c2 => ?_) (fun c2 => ?_)
    · have h := zif_f h c2
      refine lv_iload_n hx hb dX6_nearest_51 rfl (lv_at hl 2 rfl) ?_
      refine lv_iconst (v := 1) hx hb dX6_nearest_52 (by decide) ?_
      refine lv_icmp_ne (tgt := 64) hx hb dX6_nearest_53 (by decide) (fun c3 => ?_) (fun c3 => ?_)
      · have h := zif_f h c3
        refine lv_aload_n hx hb dX6_nearest_64 rfl (lv_at hl 0 rfl) ?_
        refine z_get (C := RX6) (T := TX6) (N := 12) X inX6 hP 0 (by decide) (zcC_0 _ _ _ _ _ _) rfl 4 (by decide) rfl (by decide +kernel) rfl dX6_nearest_65 ?_
        refine lv_iload_n hx hb dX6_nearest_68 rfl (lv_at hl 2 rfl) ?_
        refine lv_bipush (v := 10) hx hb dX6_nearest_69 (by decide) ?_
        refine lv_isub hx hb dX6_nearest_71 ?_
        obtain ⟨u4, s4, e4, h⟩ := zb_some h
        refine z_calli hS (z_runV (As := [.int (x2 - (10 : Int32))]) (rest := []) X hG hA hE hP hS 22 (kX5_bestSheet (l := l) (D := D) (a := a) (cI := cI) (cJ := cJ) (cC := cC) (adK := adK) (adV := adV) e4 _) (cwV 1 hts gX6_nearest_X5_bestSheet rfl rfl rfl (by decide +kernel) ⟨Nat.le_of_ble_eq_true rfl, Nat.le_of_ble_eq_true rfl⟩) (by decide) (zcC_22 _ _ _ _ _ _) rfl rfl rfl hl.1 rfl (Nat.le_of_ble_eq_true rfl) dX6_nearest_72) (fun H locs hP hS => ?_)
        exact z_iret X hP hS hr hlocks h dX6_nearest_75
      · have h := zif_t h c3
        refine lv_aload_n hx hb dX6_nearest_56 rfl (lv_at hl 0 rfl) ?_
        refine z_get (C := RX6) (T := TX6) (N := 12) X inX6 hP 0 (by decide) (zcC_0 _ _ _ _ _ _) rfl 4 (by decide) rfl (by decide +kernel) rfl dX6_nearest_57 ?_
        refine z_get (C := RX5) (T := TX5) (N := 8) X inX5 hP 22 (by decide) (zcC_22 _ _ _ _ _ _) rfl 6 (by decide) rfl (by decide +kernel) rfl dX6_nearest_60 ?_
        exact z_iret X hP hS hr hlocks h dX6_nearest_63
    · have h := zif_t h c2
      refine lv_aload_n hx hb dX6_nearest_43 rfl (lv_at hl 0 rfl) ?_
      refine z_get (C := RX6) (T := TX6) (N := 12) X inX6 hP 0 (by decide) (zcC_0 _ _ _ _ _ _) rfl 4 (by decide) rfl (by decide +kernel) rfl dX6_nearest_44 ?_
      refine z_get (C := RX5) (T := TX5) (N := 8) X inX5 hP 22 (by decide) (zcC_22 _ _ _ _ _ _) rfl 5 (by decide) rfl (by decide +kernel) rfl dX6_nearest_47 ?_
      exact z_iret X hP hS hr hlocks h dX6_nearest_50
  have hl : lv_has ls 4 [(0, .ref (a 0)), (1, .int x1), (2, .int x2)] := hl
  refine lv_iload_n hx hb dX6_nearest_0 rfl (lv_at hl 2 rfl) ?_
  refine lv_bipush (v := 10) hx hb dX6_nearest_1 (by decide) ?_
  refine lv_isub hx hb dX6_nearest_3 ?_
  refine lv_iconst (v := 3) hx hb dX6_nearest_4 (by decide) ?_
  obtain ⟨u1, s1, e1, h⟩ := zb_some h
  refine z_calli hS (z_runS (As := [.int (x2 - (10 : Int32)), .int (3 : Int32)]) (rest := []) X hG hA hE hP hS (kX6_within (l := l) (D := D) (a := a) (cI := cI) (cJ := cJ) (cC := cC) (adK := adK) (adV := adV) e1 _) (va_cwS 2 hts gX6_nearest_X6_within rfl rfl rfl (by decide +kernel) ⟨Nat.le_of_ble_eq_true rfl, Nat.le_of_ble_eq_true rfl⟩) rfl hl.1 rfl (Nat.le_of_ble_eq_true rfl) dX6_nearest_5) (fun H locs hP hS => ?_)
  refine lv_istore_n (lv' := [(3, .int u1), (0, .ref (a 0)), (1, .int x1), (2, .int x2)]) hx hb dX6_nearest_8 rfl hl (by decide) rfl (fun ls hl => ?_)
  refine lv_iload_n hx hb dX6_nearest_9 rfl (lv_at hl 2 rfl) ?_
  refine lv_iconst (v := 3) hx hb dX6_nearest_10 (by decide) ?_
  obtain ⟨u2, s2, e2, h⟩ := zb_some h
  refine z_calli hS (z_runS (As := [.int x1, .int (3 : Int32)]) (rest := []) X hG hA hE hP hS (kX6_within (l := l) (D := D) (a := a) (cI := cI) (cJ := cJ) (cC := cC) (adK := adK) (adV := adV) e2 _) (va_cwS 2 hts gX6_nearest_X6_within rfl rfl rfl (by decide +kernel) ⟨Nat.le_of_ble_eq_true rfl, Nat.le_of_ble_eq_true rfl⟩) rfl hl.1 rfl (Nat.le_of_ble_eq_true rfl) dX6_nearest_11) (fun H locs hP hS => ?_)
  refine lv_if_eq (tgt := 29) hx hb dX6_nearest_14 (by decide) (fun c3 => ?_) (fun c3 => ?_)
  · have h := zif_t h c3
    refine lv_iconst (v := -1) hx hb dX6_nearest_29 (by decide) ?_
    exact z_iret X hP hS hr hlocks h dX6_nearest_30
  · have h := zif_f h c3
    refine lv_iload_n hx hb dX6_nearest_17 rfl (lv_at hl 3 rfl) ?_
    refine lv_iconst (v := 2) hx hb dX6_nearest_18 (by decide) ?_
    obtain ⟨u4, s4, e4, h⟩ := zb_some h
    refine z_calli hS (z_runS (As := [.int x2, .int (2 : Int32)]) (rest := []) X hG hA hE hP hS (kX6_within (l := l) (D := D) (a := a) (cI := cI) (cJ := cJ) (cC := cC) (adK := adK) (adV := adV) e4 _) (va_cwS 2 hts gX6_nearest_X6_within rfl rfl rfl (by decide +kernel) ⟨Nat.le_of_ble_eq_true rfl, Nat.le_of_ble_eq_true rfl⟩) rfl hl.1 rfl (Nat.le_of_ble_eq_true rfl) dX6_nearest_19) (fun H locs hP hS => ?_)
    refine lv_if_ne (tgt := 31) hx hb dX6_nearest_22 (by decide) (fun c5 => ?_) (fun c5 => ?_)
    · have h := zif_f h c5
      exact w31   (x1) (x2) (s4) _ _ _ h hP hS (lv_sub hl [1, 2, 3] rfl)
    · have h := zif_t h c5
      refine lv_iload_n hx hb dX6_nearest_25 rfl (lv_at hl 0 rfl) ?_
      refine lv_if_ne (tgt := 31) hx hb dX6_nearest_26 (by decide) (fun c6 => ?_) (fun c6 => ?_)
      · have h := zif_f h c6
        exact w31   (x1) (x2) (s4) _ _ _ h hP hS (lv_sub hl [1, 2, 3] rfl)
      · have h := zif_t h c6
        refine lv_iconst (v := -1) hx hb dX6_nearest_29 (by decide) ?_
        exact z_iret X hP hS hr hlocks h dX6_nearest_30
abbrev rmX0_shadesInto_19_38 : Room := { frames := 3, cells := 0, slots := 0, locals := 71 }
set_option maxHeartbeats 4000000 in
set_option maxRecDepth 100000 in
theorem kX0_shadesInto_19_38 {l : Launch} {D : va_G} {a : Nat → Nat} {cI cJ cC : ClassId} {adK adV : Nat → Nat} {x2 : Int32} {x3 : Int32} {s τ : ZS} {r : Unit} (h : fX0_shadesInto_19_38 x2 x3 s = some (r, τ)) : zMv (zcC a cI cJ cC) 41 a D [(cI, .int), (cJ, .long)] (zEC adK adV) l yX0_shadesInto wsX0_shadesInto rmX0_shadesInto_19_38 [.ref (a 19), .ref (a 38), .int x2, .int x3] s r τ := by
  refine z_start (cc := cX0_shadesInto) (maxL := 5) (ret := none) RX0 rfl (by decide) rfl (Nat.le_of_ble_eq_true rfl) ?_
  intro p e st m args below meth c ls H locs X hr hlocks hA hE hP hS hl
  obtain ⟨hx, hb, hml, hown, hts, -⟩ := id X
  have hG := zEC_good adK adV
  have w3 : ∀  (n : Nat) (x2 : Int32) (x3 : Int32) (x4 : Int32) (s : ZS) (H : Heap) (locs : List Loc) (ls : Array Slot), fX0_shadesInto_19_38_3n  n (x2, x3, x4, s) = some (r, τ) → va_P D vwCl (zW (zcC a cI cJ cC) 41 a s) H → va_S (zF 41 a st.heap.size) st.heap H locs → lv_has ls 5 [(0, .ref (a 19)), (1, .ref (a 38)), (2, .int x2), (3, .int x3), (4, .int x4)] → W p l e rmX0_shadesInto_19_38 st m args below meth c H locs 0 0 (MQ below (va_Qv (fun (τ' : ZS) => τ' = τ) (zPost (zcC a cI cJ cC) 41 a D [(cI, .int), (cJ, .long)]) (zF 41 a st.heap.size)) args st 0 0 (zF 41 a st.heap.size)) (F0 m 3 ls []) := by
    intro  n
    induction n with
    | zero => intro x2 x3 x4 s H locs ls h; exact zloop_0 h
    | succ n ih =>
      intro x2 x3 x4 s H locs ls h hP hS hl
      have h : fX0_shadesInto_19_38_3b  (fun x2 x3 x4 s => fX0_shadesInto_19_38_3n  n (x2, x3, x4, s)) x2 x3 x4 s = some (r, τ) := h
      refine lv_iload hx hb dX0_shadesInto_3 (lv_at hl 4 rfl) ?_
      refine lv_iconst (v := 3) hx hb dX0_shadesInto_5 (by decide) ?_
      refine lv_icmp_ge (tgt := 34) hx hb dX0_shadesInto_6 (by decide) (fun c1 => ?_) (fun c1 => ?_)
      · have h := zif_t h c1
        exact z_vret X hP hS hr hlocks h dX0_shadesInto_34
      · have h := zif_f h c1
        refine lv_iload hx hb dX0_shadesInto_9 (lv_at hl 4 rfl) ?_
        refine lv_aload_n hx hb dX0_shadesInto_11 rfl (lv_at hl 1 rfl) ?_
        refine z_alen (v := 3) X hP 38 0 (by decide) (zcC_38 _ _ _ _ _ _) rfl rfl dX0_shadesInto_12 ?_
        refine lv_icmp_ge (tgt := 34) hx hb dX0_shadesInto_13 (by decide) (fun c2 => ?_) (fun c2 => ?_)
        · have h := zif_t h c2
          exact z_vret X hP hS hr hlocks h dX0_shadesInto_34
        · have h := zif_f h c2
          refine lv_aload_n hx hb dX0_shadesInto_16 rfl (lv_at hl 1 rfl) ?_
          refine lv_iload hx hb dX0_shadesInto_17 (lv_at hl 4 rfl) ?_
          refine lv_aload_n hx hb dX0_shadesInto_19 rfl (lv_at hl 0 rfl) ?_
          refine lv_iload_n hx hb dX0_shadesInto_20 rfl (lv_at hl 2 rfl) ?_
          refine lv_iload_n hx hb dX0_shadesInto_21 rfl (lv_at hl 3 rfl) ?_
          refine lv_iload hx hb dX0_shadesInto_22 (lv_at hl 4 rfl) ?_
          obtain ⟨u3, s3, e3, h⟩ := zb_some h
          refine z_calli hS (z_runV (As := [.int x2, .int x3, .int x4]) (rest := [.int x4, .ref (a 38)]) X hG hA hE hP hS 19 (kX0_shadeOf (l := l) (D := D) (a := a) (cI := cI) (cJ := cJ) (cC := cC) (adK := adK) (adV := adV) e3 _) (cwV 3 hts gX0_shadesInto_X0_shadeOf rfl rfl rfl (by decide +kernel) ⟨Nat.le_of_ble_eq_true rfl, Nat.le_of_ble_eq_true rfl⟩) (by decide) (zcC_19 _ _ _ _ _ _) rfl rfl rfl hl.1 rfl (Nat.le_of_ble_eq_true rfl) dX0_shadesInto_24) (fun H locs hP hS => ?_)
          obtain ⟨g4, h⟩ := zg_some h
          refine z_iast X hA hP hS 38 0 (by decide) (zcC_38 _ _ _ _) rfl g4 dX0_shadesInto_27 (fun H locs hP hS => ?_)
          refine lv_iinc (v := (x4 + (1 : Int32))) (lv' := [(4, .int (x4 + (1 : Int32))), (0, .ref (a 19)), (1, .ref (a 38)), (2, .int x2), (3, .int x3)]) hx hb dX0_shadesInto_28 hl (k := 4) rfl rfl (by decide) rfl (fun ls hl => ?_)
          refine lv_goto (tgt := 3) hx hb dX0_shadesInto_31 (by decide) ?_
          exact ih (x2) (x3) ((x4 + (1 : Int32))) ((zI s3 38 (x4).toNatClampNeg u3)) _ _ _ h hP hS (lv_sub hl [1, 2, 3, 4, 0] rfl)
  have hl : lv_has ls 5 [(0, .ref (a 19)), (1, .ref (a 38)), (2, .int x2), (3, .int x3)] := hl
  refine lv_iconst (v := 0) hx hb dX0_shadesInto_0 (by decide) ?_
  refine lv_istore (lv' := [(4, .int (0 : Int32)), (0, .ref (a 19)), (1, .ref (a 38)), (2, .int x2), (3, .int x3)]) hx hb dX0_shadesInto_1 hl (by decide) rfl (fun ls hl => ?_)
  exact w3  zN (x2) (x3) ((0 : Int32)) (s) _ _ _ h hP hS (lv_sub hl [1, 2, 3, 4, 0] rfl)
abbrev rmX6_differing_37_38 : Room := { frames := 1, cells := 0, slots := 0, locals := 21 }
set_option maxHeartbeats 4000000 in
set_option maxRecDepth 100000 in
theorem kX6_differing_37_38 {l : Launch} {D : va_G} {a : Nat → Nat} {cI cJ cC : ClassId} {adK adV : Nat → Nat}  {s τ : ZS} {r : Int32} (h : fX6_differing_37_38  s = some (r, τ)) : zMi (zcC a cI cJ cC) 41 a D [(cI, .int), (cJ, .long)] (zEC adK adV) l yX6_differing wsX6_differing rmX6_differing_37_38 [.ref (a 37), .ref (a 38)] s r τ := by
  refine z_start (cc := cX6_differing) (maxL := 4) (ret := (some .int)) RX6 rfl (by decide) rfl (Nat.le_of_ble_eq_true rfl) ?_
  intro p e st m args below meth c ls H locs X hr hlocks hA hE hP hS hl
  obtain ⟨hx, hb, hml, hown, hts, -⟩ := id X
  have hG := zEC_good adK adV
  have w4 : ∀  (n : Nat) (x2 : Int32) (x3 : Int32) (s : ZS) (H : Heap) (locs : List Loc) (ls : Array Slot), fX6_differing_37_38_4n  n (x2, x3, s) = some (r, τ) → va_P D vwCl (zW (zcC a cI cJ cC) 41 a s) H → va_S (zF 41 a st.heap.size) st.heap H locs → lv_has ls 4 [(0, .ref (a 37)), (1, .ref (a 38)), (2, .int x2), (3, .int x3)] → W p l e rmX6_differing_37_38 st m args below meth c H locs 0 0 (MQ below (va_Qi (fun (r' : Int32) (τ' : ZS) => r' = r ∧ τ' = τ) (zPost (zcC a cI cJ cC) 41 a D [(cI, .int), (cJ, .long)]) (zF 41 a st.heap.size)) args st 0 0 (zF 41 a st.heap.size)) (F0 m 4 ls []) := by
    intro  n
    induction n with
    | zero => intro x2 x3 s H locs ls h; exact zloop_0 h
    | succ n ih =>
      intro x2 x3 s H locs ls h hP hS hl
      have h : fX6_differing_37_38_4b  (fun x2 x3 s => fX6_differing_37_38_4n  n (x2, x3, s)) x2 x3 s = some (r, τ) := h
      refine lv_iload_n hx hb dX6_differing_4 rfl (lv_at hl 3 rfl) ?_
      refine lv_aload_n hx hb dX6_differing_5 rfl (lv_at hl 0 rfl) ?_
      refine z_alen (v := 3) X hP 37 0 (by decide) (zcC_37 _ _ _ _ _ _) rfl rfl dX6_differing_6 ?_
      refine lv_icmp_ge (tgt := 35) hx hb dX6_differing_7 (by decide) (fun c1 => ?_) (fun c1 => ?_)
      · have h := zif_t h c1
        refine lv_iload_n hx hb dX6_differing_35 rfl (lv_at hl 2 rfl) ?_
        exact z_iret X hP hS hr hlocks h dX6_differing_36
      · have h := zif_f h c1
        refine lv_iload_n hx hb dX6_differing_10 rfl (lv_at hl 3 rfl) ?_
        refine lv_aload_n hx hb dX6_differing_11 rfl (lv_at hl 1 rfl) ?_
        refine z_alen (v := 3) X hP 38 0 (by decide) (zcC_38 _ _ _ _ _ _) rfl rfl dX6_differing_12 ?_
        refine lv_icmp_ge (tgt := 35) hx hb dX6_differing_13 (by decide) (fun c2 => ?_) (fun c2 => ?_)
        · have h := zif_t h c2
          refine lv_iload_n hx hb dX6_differing_35 rfl (lv_at hl 2 rfl) ?_
          exact z_iret X hP hS hr hlocks h dX6_differing_36
        · have h := zif_f h c2
          refine lv_iload_n hx hb dX6_differing_16 rfl (lv_at hl 2 rfl) ?_
          refine lv_aload_n hx hb dX6_differing_17 rfl (lv_at hl 0 rfl) ?_
          refine lv_iload_n hx hb dX6_differing_18 rfl (lv_at hl 3 rfl) ?_
          obtain ⟨g3, h⟩ := zg_some h
          refine z_iald X hP 37 0 (by decide) (zcC_37 _ _ _ _ _ _) rfl g3 dX6_differing_19 ?_
          refine lv_aload_n hx hb dX6_differing_20 rfl (lv_at hl 1 rfl) ?_
          refine lv_iload_n hx hb dX6_differing_21 rfl (lv_at hl 3 rfl) ?_
          obtain ⟨g4, h⟩ := zg_some h
          refine z_iald X hP 38 0 (by decide) (zcC_38 _ _ _ _ _ _) rfl g4 dX6_differing_22 ?_
          refine lv_isub hx hb dX6_differing_23 ?_
          refine va_mabs hx hb (hml.trans hl.1.symm) hown (hts (.methodLink RX6 300 Lib.Math.abs.name) (by decide +kernel)) (hts _ (by decide +kernel)) (hts _ (by decide +kernel)) (hts _ (by decide +kernel)) (Nat.le_of_ble_eq_true rfl) (Nat.le_of_ble_eq_true rfl) (Nat.zero_le _) (Nat.zero_le _) dX6_differing_24 ?_
          refine lv_iadd hx hb dX6_differing_27 ?_
          refine lv_istore_n (lv' := [(2, .int (x2 + (if 0 ≤ (((s).1 37 (x3).toNatClampNeg) - ((s).1 38 (x3).toNatClampNeg)) then (((s).1 37 (x3).toNatClampNeg) - ((s).1 38 (x3).toNatClampNeg)) else 0 - (((s).1 37 (x3).toNatClampNeg) - ((s).1 38 (x3).toNatClampNeg))))), (0, .ref (a 37)), (1, .ref (a 38)), (3, .int x3)]) hx hb dX6_differing_28 rfl hl (by decide) rfl (fun ls hl => ?_)
          refine lv_iinc (v := (x3 + (1 : Int32))) (lv' := [(3, .int (x3 + (1 : Int32))), (2, .int (x2 + (if 0 ≤ (((s).1 37 (x3).toNatClampNeg) - ((s).1 38 (x3).toNatClampNeg)) then (((s).1 37 (x3).toNatClampNeg) - ((s).1 38 (x3).toNatClampNeg)) else 0 - (((s).1 37 (x3).toNatClampNeg) - ((s).1 38 (x3).toNatClampNeg))))), (0, .ref (a 37)), (1, .ref (a 38))]) hx hb dX6_differing_29 hl (k := 3) rfl rfl (by decide) rfl (fun ls hl => ?_)
          refine lv_goto (tgt := 4) hx hb dX6_differing_32 (by decide) ?_
          exact ih ((x2 + (if 0 ≤ (((s).1 37 (x3).toNatClampNeg) - ((s).1 38 (x3).toNatClampNeg)) then (((s).1 37 (x3).toNatClampNeg) - ((s).1 38 (x3).toNatClampNeg)) else 0 - (((s).1 37 (x3).toNatClampNeg) - ((s).1 38 (x3).toNatClampNeg))))) ((x3 + (1 : Int32))) (s) _ _ _ h hP hS (lv_sub hl [2, 3, 1, 0] rfl)
  have hl : lv_has ls 4 [(0, .ref (a 37)), (1, .ref (a 38))] := hl
  refine lv_iconst (v := 0) hx hb dX6_differing_0 (by decide) ?_
  refine lv_istore_n (lv' := [(2, .int (0 : Int32)), (0, .ref (a 37)), (1, .ref (a 38))]) hx hb dX6_differing_1 rfl hl (by decide) rfl (fun ls hl => ?_)
  refine lv_iconst (v := 0) hx hb dX6_differing_2 (by decide) ?_
  refine lv_istore_n (lv' := [(3, .int (0 : Int32)), (2, .int (0 : Int32)), (0, .ref (a 37)), (1, .ref (a 38))]) hx hb dX6_differing_3 rfl hl (by decide) rfl (fun ls hl => ?_)
  exact w4  zN ((0 : Int32)) ((0 : Int32)) (s) _ _ _ h hP hS (lv_sub hl [2, 3, 1, 0] rfl)
abbrev rmX0_shadesInto_19_37 : Room := { frames := 3, cells := 0, slots := 0, locals := 71 }
set_option maxHeartbeats 4000000 in
set_option maxRecDepth 100000 in
theorem kX0_shadesInto_19_37 {l : Launch} {D : va_G} {a : Nat → Nat} {cI cJ cC : ClassId} {adK adV : Nat → Nat} {x2 : Int32} {x3 : Int32} {s τ : ZS} {r : Unit} (h : fX0_shadesInto_19_37 x2 x3 s = some (r, τ)) : zMv (zcC a cI cJ cC) 41 a D [(cI, .int), (cJ, .long)] (zEC adK adV) l yX0_shadesInto wsX0_shadesInto rmX0_shadesInto_19_37 [.ref (a 19), .ref (a 37), .int x2, .int x3] s r τ := by
  refine z_start (cc := cX0_shadesInto) (maxL := 5) (ret := none) RX0 rfl (by decide) rfl (Nat.le_of_ble_eq_true rfl) ?_
  intro p e st m args below meth c ls H locs X hr hlocks hA hE hP hS hl
  obtain ⟨hx, hb, hml, hown, hts, -⟩ := id X
  have hG := zEC_good adK adV
  have w3 : ∀  (n : Nat) (x2 : Int32) (x3 : Int32) (x4 : Int32) (s : ZS) (H : Heap) (locs : List Loc) (ls : Array Slot), fX0_shadesInto_19_37_3n  n (x2, x3, x4, s) = some (r, τ) → va_P D vwCl (zW (zcC a cI cJ cC) 41 a s) H → va_S (zF 41 a st.heap.size) st.heap H locs → lv_has ls 5 [(0, .ref (a 19)), (1, .ref (a 37)), (2, .int x2), (3, .int x3), (4, .int x4)] → W p l e rmX0_shadesInto_19_37 st m args below meth c H locs 0 0 (MQ below (va_Qv (fun (τ' : ZS) => τ' = τ) (zPost (zcC a cI cJ cC) 41 a D [(cI, .int), (cJ, .long)]) (zF 41 a st.heap.size)) args st 0 0 (zF 41 a st.heap.size)) (F0 m 3 ls []) := by
    intro  n
    induction n with
    | zero => intro x2 x3 x4 s H locs ls h; exact zloop_0 h
    | succ n ih =>
      intro x2 x3 x4 s H locs ls h hP hS hl
      have h : fX0_shadesInto_19_37_3b  (fun x2 x3 x4 s => fX0_shadesInto_19_37_3n  n (x2, x3, x4, s)) x2 x3 x4 s = some (r, τ) := h
      refine lv_iload hx hb dX0_shadesInto_3 (lv_at hl 4 rfl) ?_
      refine lv_iconst (v := 3) hx hb dX0_shadesInto_5 (by decide) ?_
      refine lv_icmp_ge (tgt := 34) hx hb dX0_shadesInto_6 (by decide) (fun c1 => ?_) (fun c1 => ?_)
      · have h := zif_t h c1
        exact z_vret X hP hS hr hlocks h dX0_shadesInto_34
      · have h := zif_f h c1
        refine lv_iload hx hb dX0_shadesInto_9 (lv_at hl 4 rfl) ?_
        refine lv_aload_n hx hb dX0_shadesInto_11 rfl (lv_at hl 1 rfl) ?_
        refine z_alen (v := 3) X hP 37 0 (by decide) (zcC_37 _ _ _ _ _ _) rfl rfl dX0_shadesInto_12 ?_
        refine lv_icmp_ge (tgt := 34) hx hb dX0_shadesInto_13 (by decide) (fun c2 => ?_) (fun c2 => ?_)
        · have h := zif_t h c2
          exact z_vret X hP hS hr hlocks h dX0_shadesInto_34
        · have h := zif_f h c2
          refine lv_aload_n hx hb dX0_shadesInto_16 rfl (lv_at hl 1 rfl) ?_
          refine lv_iload hx hb dX0_shadesInto_17 (lv_at hl 4 rfl) ?_
          refine lv_aload_n hx hb dX0_shadesInto_19 rfl (lv_at hl 0 rfl) ?_
          refine lv_iload_n hx hb dX0_shadesInto_20 rfl (lv_at hl 2 rfl) ?_
          refine lv_iload_n hx hb dX0_shadesInto_21 rfl (lv_at hl 3 rfl) ?_
          refine lv_iload hx hb dX0_shadesInto_22 (lv_at hl 4 rfl) ?_
          obtain ⟨u3, s3, e3, h⟩ := zb_some h
          refine z_calli hS (z_runV (As := [.int x2, .int x3, .int x4]) (rest := [.int x4, .ref (a 37)]) X hG hA hE hP hS 19 (kX0_shadeOf (l := l) (D := D) (a := a) (cI := cI) (cJ := cJ) (cC := cC) (adK := adK) (adV := adV) e3 _) (cwV 3 hts gX0_shadesInto_X0_shadeOf rfl rfl rfl (by decide +kernel) ⟨Nat.le_of_ble_eq_true rfl, Nat.le_of_ble_eq_true rfl⟩) (by decide) (zcC_19 _ _ _ _ _ _) rfl rfl rfl hl.1 rfl (Nat.le_of_ble_eq_true rfl) dX0_shadesInto_24) (fun H locs hP hS => ?_)
          obtain ⟨g4, h⟩ := zg_some h
          refine z_iast X hA hP hS 37 0 (by decide) (zcC_37 _ _ _ _) rfl g4 dX0_shadesInto_27 (fun H locs hP hS => ?_)
          refine lv_iinc (v := (x4 + (1 : Int32))) (lv' := [(4, .int (x4 + (1 : Int32))), (0, .ref (a 19)), (1, .ref (a 37)), (2, .int x2), (3, .int x3)]) hx hb dX0_shadesInto_28 hl (k := 4) rfl rfl (by decide) rfl (fun ls hl => ?_)
          refine lv_goto (tgt := 3) hx hb dX0_shadesInto_31 (by decide) ?_
          exact ih (x2) (x3) ((x4 + (1 : Int32))) ((zI s3 37 (x4).toNatClampNeg u3)) _ _ _ h hP hS (lv_sub hl [1, 2, 3, 4, 0] rfl)
  have hl : lv_has ls 5 [(0, .ref (a 19)), (1, .ref (a 37)), (2, .int x2), (3, .int x3)] := hl
  refine lv_iconst (v := 0) hx hb dX0_shadesInto_0 (by decide) ?_
  refine lv_istore (lv' := [(4, .int (0 : Int32)), (0, .ref (a 19)), (1, .ref (a 37)), (2, .int x2), (3, .int x3)]) hx hb dX0_shadesInto_1 hl (by decide) rfl (fun ls hl => ?_)
  exact w3  zN (x2) (x3) ((0 : Int32)) (s) _ _ _ h hP hS (lv_sub hl [1, 2, 3, 4, 0] rfl)
