abbrev rmX6_alike : Room := { frames := 6, cells := 0, slots := 0, locals := 132 }
set_option maxHeartbeats 4000000 in
set_option maxRecDepth 100000 in
theorem kX6_alike {l : Launch} {D : va_G} {a : Nat → Nat} {cI cJ cC : ClassId} {adK adV : Nat → Nat} {x1 : Int32} {x2 : Int32} {x3 : Int32} {s τ : ZS} {r : Int32} (h : fX6_alike x1 x2 x3 s = some (r, τ)) : zMi (zcC a cI cJ cC) 41 a D [(cI, .int), (cJ, .long)] (zEC adK adV) l yX6_alike wsX6_alike rmX6_alike [.ref (a 0), .int x1, .int x2, .int x3] s r τ := by
  refine z_start (cc := cX6_alike) (maxL := 4) (ret := (some .int)) RX6 rfl (by decide) rfl (Nat.le_of_ble_eq_true rfl) ?_
  intro p e st m args below meth c ls H locs X hr hlocks hA hE hP hS hl
  obtain ⟨hx, hb, hml, hown, hts, -⟩ := id X
  have hG := zEC_good adK adV
  have inX6 : ∀ w ∈ u_ws RX6 TX6 12, w ∈ wsX6_alike := by decide +kernel
  have hl : lv_has ls 4 [(0, .ref (a 0)), (1, .int x1), (2, .int x2), (3, .int x3)] := hl
  refine lv_aload_n hx hb dX6_alike_0 rfl (lv_at hl 0 rfl) ?_
  refine z_get (C := RX6) (T := TX6) (N := 12) X inX6 hP 0 (by decide) (zcC_0 _ _ _ _ _ _) rfl 0 (by decide) rfl (by decide +kernel) rfl dX6_alike_1 ?_
  refine lv_iload_n hx hb dX6_alike_4 rfl (lv_at hl 1 rfl) ?_
  obtain ⟨u1, s1, e1, h⟩ := zb_some h
  refine z_calli hS (z_runV (As := [.int x1]) (rest := []) X hG hA hE hP hS 1 (kX3_hasStack (l := l) (D := D) (a := a) (cI := cI) (cJ := cJ) (cC := cC) (adK := adK) (adV := adV) e1 _) (cwV 1 hts gX6_alike_X3_hasStack rfl rfl rfl (by decide +kernel) ⟨Nat.le_of_ble_eq_true rfl, Nat.le_of_ble_eq_true rfl⟩) (by decide) (zcC_1 _ _ _ _ _ _) rfl rfl rfl hl.1 rfl (Nat.le_of_ble_eq_true rfl) dX6_alike_5) (fun H locs hP hS => ?_)
  refine lv_if_eq (tgt := 30) hx hb dX6_alike_8 (by decide) (fun c2 => ?_) (fun c2 => ?_)
  · have h := zif_t h c2
    refine lv_iconst (v := -1) hx hb dX6_alike_30 (by decide) ?_
    exact z_iret X hP hS hr hlocks h dX6_alike_31
  · have h := zif_f h c2
    refine lv_aload_n hx hb dX6_alike_11 rfl (lv_at hl 0 rfl) ?_
    refine z_get (C := RX6) (T := TX6) (N := 12) X inX6 hP 0 (by decide) (zcC_0 _ _ _ _ _ _) rfl 0 (by decide) rfl (by decide +kernel) rfl dX6_alike_12 ?_
    refine lv_iload_n hx hb dX6_alike_15 rfl (lv_at hl 2 rfl) ?_
    obtain ⟨u3, s3, e3, h⟩ := zb_some h
    refine z_calli hS (z_runV (As := [.int x2]) (rest := []) X hG hA hE hP hS 1 (kX3_hasStack (l := l) (D := D) (a := a) (cI := cI) (cJ := cJ) (cC := cC) (adK := adK) (adV := adV) e3 _) (cwV 1 hts gX6_alike_X3_hasStack rfl rfl rfl (by decide +kernel) ⟨Nat.le_of_ble_eq_true rfl, Nat.le_of_ble_eq_true rfl⟩) (by decide) (zcC_1 _ _ _ _ _ _) rfl rfl rfl hl.1 rfl (Nat.le_of_ble_eq_true rfl) dX6_alike_16) (fun H locs hP hS => ?_)
    refine lv_if_eq (tgt := 30) hx hb dX6_alike_19 (by decide) (fun c4 => ?_) (fun c4 => ?_)
    · have h := zif_t h c4
      refine lv_iconst (v := -1) hx hb dX6_alike_30 (by decide) ?_
      exact z_iret X hP hS hr hlocks h dX6_alike_31
    · have h := zif_f h c4
      refine lv_iload_n hx hb dX6_alike_22 rfl (lv_at hl 3 rfl) ?_
      refine lv_iconst (v := 3) hx hb dX6_alike_23 (by decide) ?_
      obtain ⟨u5, s5, e5, h⟩ := zb_some h
      refine z_calli hS (z_runS (As := [.int x3, .int (3 : Int32)]) (rest := []) X hG hA hE hP hS (kX6_within (l := l) (D := D) (a := a) (cI := cI) (cJ := cJ) (cC := cC) (adK := adK) (adV := adV) e5 _) (va_cwS 2 hts gX6_alike_X6_within rfl rfl rfl (by decide +kernel) ⟨Nat.le_of_ble_eq_true rfl, Nat.le_of_ble_eq_true rfl⟩) rfl hl.1 rfl (Nat.le_of_ble_eq_true rfl) dX6_alike_24) (fun H locs hP hS => ?_)
      refine lv_if_ne (tgt := 32) hx hb dX6_alike_27 (by decide) (fun c6 => ?_) (fun c6 => ?_)
      · have h := zif_f h c6
        refine lv_aload_n hx hb dX6_alike_32 rfl (lv_at hl 0 rfl) ?_
        refine z_get (C := RX6) (T := TX6) (N := 12) X inX6 hP 0 (by decide) (zcC_0 _ _ _ _ _ _) rfl 3 (by decide) rfl (by decide +kernel) rfl dX6_alike_33 ?_
        obtain ⟨u7, s7, e7, h⟩ := zb_some h
        refine z_callv hS (z_runV (As := []) (rest := []) X hG hA hE hP hS 19 (kX0_lookAtSheets (l := l) (D := D) (a := a) (cI := cI) (cJ := cJ) (cC := cC) (adK := adK) (adV := adV) e7 _) (cwV 0 hts gX6_alike_X0_lookAtSheets rfl rfl rfl (by decide +kernel) ⟨Nat.le_of_ble_eq_true rfl, Nat.le_of_ble_eq_true rfl⟩) (by decide) (zcC_19 _ _ _ _ _ _) rfl rfl rfl hl.1 rfl (Nat.le_of_ble_eq_true rfl) dX6_alike_36) (fun H locs hP hS => ?_)
        refine lv_aload_n hx hb dX6_alike_39 rfl (lv_at hl 0 rfl) ?_
        refine lv_iload_n hx hb dX6_alike_40 rfl (lv_at hl 1 rfl) ?_
        refine lv_iload_n hx hb dX6_alike_41 rfl (lv_at hl 2 rfl) ?_
        refine lv_iload_n hx hb dX6_alike_42 rfl (lv_at hl 3 rfl) ?_
        obtain ⟨u8, s8, e8, h⟩ := zb_some h
        refine z_calli hS (z_runV (As := [.int x1, .int x2, .int x3]) (rest := []) X hG hA hE hP hS 0 (kX6_looksAlike (l := l) (D := D) (a := a) (cI := cI) (cJ := cJ) (cC := cC) (adK := adK) (adV := adV) e8 _) (cwV 3 hts gX6_alike_X6_looksAlike rfl rfl rfl (by decide +kernel) ⟨Nat.le_of_ble_eq_true rfl, Nat.le_of_ble_eq_true rfl⟩) (by decide) (zcC_0 _ _ _ _ _ _) rfl rfl rfl hl.1 rfl (Nat.le_of_ble_eq_true rfl) dX6_alike_43) (fun H locs hP hS => ?_)
        refine lv_if_eq (tgt := 53) hx hb dX6_alike_46 (by decide) (fun c9 => ?_) (fun c9 => ?_)
        · have h := zif_t h c9
          refine lv_iconst (v := 0) hx hb dX6_alike_53 (by decide) ?_
          exact z_iret X hP hS hr hlocks h dX6_alike_54
        · have h := zif_f h c9
          refine lv_iconst (v := 1) hx hb dX6_alike_49 (by decide) ?_
          refine lv_goto (tgt := 54) hx hb dX6_alike_50 (by decide) ?_
          exact z_iret X hP hS hr hlocks h dX6_alike_54
      · have h := zif_t h c6
        refine lv_iconst (v := -1) hx hb dX6_alike_30 (by decide) ?_
        exact z_iret X hP hS hr hlocks h dX6_alike_31
abbrev rmX6_isFalsePair : Room := { frames := 6, cells := 0, slots := 0, locals := 132 }
set_option maxHeartbeats 4000000 in
set_option maxRecDepth 100000 in
theorem kX6_isFalsePair {l : Launch} {D : va_G} {a : Nat → Nat} {cI cJ cC : ClassId} {adK adV : Nat → Nat} {x1 : Int32} {x2 : Int32} {x3 : Int32} {s τ : ZS} {r : Int32} (h : fX6_isFalsePair x1 x2 x3 s = some (r, τ)) : zMi (zcC a cI cJ cC) 41 a D [(cI, .int), (cJ, .long)] (zEC adK adV) l yX6_isFalsePair wsX6_isFalsePair rmX6_isFalsePair [.ref (a 0), .int x1, .int x2, .int x3] s r τ := by
  refine z_start (cc := cX6_isFalsePair) (maxL := 5) (ret := (some .boolean)) RX6 rfl (by decide) rfl (Nat.le_of_ble_eq_true rfl) ?_
  intro p e st m args below meth c ls H locs X hr hlocks hA hE hP hS hl
  obtain ⟨hx, hb, hml, hown, hts, -⟩ := id X
  have hG := zEC_good adK adV
  have w15 : ∀  (n : Nat) (x1 : Int32) (x2 : Int32) (x4 : Int32) (s : ZS) (H : Heap) (locs : List Loc) (ls : Array Slot), fX6_isFalsePair_15n  n (x1, x2, x4, s) = some (r, τ) → va_P D vwCl (zW (zcC a cI cJ cC) 41 a s) H → va_S (zF 41 a st.heap.size) st.heap H locs → lv_has ls 5 [(0, .ref (a 0)), (1, .int x1), (2, .int x2), (4, .int x4)] → W p l e rmX6_isFalsePair st m args below meth c H locs 0 0 (MQ below (va_Qi (fun (r' : Int32) (τ' : ZS) => r' = r ∧ τ' = τ) (zPost (zcC a cI cJ cC) 41 a D [(cI, .int), (cJ, .long)]) (zF 41 a st.heap.size)) args st 0 0 (zF 41 a st.heap.size)) (F0 m 15 ls []) := by
    intro  n
    induction n with
    | zero => intro x1 x2 x4 s H locs ls h; exact zloop_0 h
    | succ n ih =>
      intro x1 x2 x4 s H locs ls h hP hS hl
      have h : fX6_isFalsePair_15b  (fun x1 x2 x4 s => fX6_isFalsePair_15n  n (x1, x2, x4, s)) x1 x2 x4 s = some (r, τ) := h
      refine lv_iload hx hb dX6_isFalsePair_15 (lv_at hl 3 rfl) ?_
      refine lv_iconst (v := 3) hx hb dX6_isFalsePair_17 (by decide) ?_
      refine lv_icmp_ge (tgt := 40) hx hb dX6_isFalsePair_18 (by decide) (fun c1 => ?_) (fun c1 => ?_)
      · have h := zif_t h c1
        refine lv_iconst (v := 0) hx hb dX6_isFalsePair_40 (by decide) ?_
        exact z_zret X hP hS hr hlocks (by decide) h dX6_isFalsePair_41
      · have h := zif_f h c1
        refine lv_aload_n hx hb dX6_isFalsePair_21 rfl (lv_at hl 0 rfl) ?_
        refine lv_iload_n hx hb dX6_isFalsePair_22 rfl (lv_at hl 1 rfl) ?_
        refine lv_iload_n hx hb dX6_isFalsePair_23 rfl (lv_at hl 2 rfl) ?_
        refine lv_iload hx hb dX6_isFalsePair_24 (lv_at hl 3 rfl) ?_
        obtain ⟨u2, s2, e2, h⟩ := zb_some h
        refine z_calli hS (z_runV (As := [.int x1, .int x2, .int x4]) (rest := []) X hG hA hE hP hS 0 (kX6_looksAlike (l := l) (D := D) (a := a) (cI := cI) (cJ := cJ) (cC := cC) (adK := adK) (adV := adV) e2 _) (cwV 3 hts gX6_isFalsePair_X6_looksAlike rfl rfl rfl (by decide +kernel) ⟨Nat.le_of_ble_eq_true rfl, Nat.le_of_ble_eq_true rfl⟩) (by decide) (zcC_0 _ _ _ _ _ _) rfl rfl rfl hl.1 rfl (Nat.le_of_ble_eq_true rfl) dX6_isFalsePair_26) (fun H locs hP hS => ?_)
        refine lv_if_ne (tgt := 34) hx hb dX6_isFalsePair_29 (by decide) (fun c3 => ?_) (fun c3 => ?_)
        · have h := zif_f h c3
          refine lv_iinc (v := (x4 + (1 : Int32))) (lv' := [(4, .int (x4 + (1 : Int32))), (0, .ref (a 0)), (1, .int x1), (2, .int x2)]) hx hb dX6_isFalsePair_34 hl (k := 3) rfl rfl (by decide) rfl (fun ls hl => ?_)
          refine lv_goto (tgt := 15) hx hb dX6_isFalsePair_37 (by decide) ?_
          exact ih (x1) (x2) ((x4 + (1 : Int32))) (s2) _ _ _ h hP hS (lv_sub hl [1, 2, 3, 0] rfl)
        · have h := zif_t h c3
          refine lv_iconst (v := 1) hx hb dX6_isFalsePair_32 (by decide) ?_
          exact z_zret X hP hS hr hlocks (by decide) h dX6_isFalsePair_33
  have hl : lv_has ls 5 [(0, .ref (a 0)), (1, .int x1), (2, .int x2), (3, .int x3)] := hl
  refine lv_aload_n hx hb dX6_isFalsePair_0 rfl (lv_at hl 0 rfl) ?_
  refine lv_iload_n hx hb dX6_isFalsePair_1 rfl (lv_at hl 1 rfl) ?_
  refine lv_iload_n hx hb dX6_isFalsePair_2 rfl (lv_at hl 2 rfl) ?_
  refine lv_iload_n hx hb dX6_isFalsePair_3 rfl (lv_at hl 3 rfl) ?_
  obtain ⟨u1, s1, e1, h⟩ := zb_some h
  refine z_calli hS (z_runV (As := [.int x1, .int x2, .int x3]) (rest := []) X hG hA hE hP hS 0 (kX6_looksAlike (l := l) (D := D) (a := a) (cI := cI) (cJ := cJ) (cC := cC) (adK := adK) (adV := adV) e1 _) (cwV 3 hts gX6_isFalsePair_X6_looksAlike rfl rfl rfl (by decide +kernel) ⟨Nat.le_of_ble_eq_true rfl, Nat.le_of_ble_eq_true rfl⟩) (by decide) (zcC_0 _ _ _ _ _ _) rfl rfl rfl hl.1 rfl (Nat.le_of_ble_eq_true rfl) dX6_isFalsePair_4) (fun H locs hP hS => ?_)
  refine lv_if_ne (tgt := 12) hx hb dX6_isFalsePair_7 (by decide) (fun c2 => ?_) (fun c2 => ?_)
  · have h := zif_f h c2
    refine lv_iconst (v := 0) hx hb dX6_isFalsePair_12 (by decide) ?_
    refine lv_istore (lv' := [(4, .int (0 : Int32)), (0, .ref (a 0)), (1, .int x1), (2, .int x2), (3, .int x3)]) hx hb dX6_isFalsePair_13 hl (by decide) rfl (fun ls hl => ?_)
    exact w15  zN (x1) (x2) ((0 : Int32)) (s1) _ _ _ h hP hS (lv_sub hl [1, 2, 3, 0] rfl)
  · have h := zif_t h c2
    refine lv_iconst (v := 0) hx hb dX6_isFalsePair_10 (by decide) ?_
    exact z_zret X hP hS hr hlocks (by decide) h dX6_isFalsePair_11
abbrev rmX6_falsePairs : Room := { frames := 7, cells := 0, slots := 0, locals := 156 }
set_option maxHeartbeats 4000000 in
set_option maxRecDepth 100000 in
theorem kX6_falsePairs {l : Launch} {D : va_G} {a : Nat → Nat} {cI cJ cC : ClassId} {adK adV : Nat → Nat} {x1 : Int32} {x2 : Int32} {s τ : ZS} {r : Int32} (h : fX6_falsePairs x1 x2 s = some (r, τ)) : zMi (zcC a cI cJ cC) 41 a D [(cI, .int), (cJ, .long)] (zEC adK adV) l yX6_falsePairs wsX6_falsePairs rmX6_falsePairs [.ref (a 0), .int x1, .int x2] s r τ := by
  refine z_start (cc := cX6_falsePairs) (maxL := 6) (ret := (some .int)) RX6 rfl (by decide) rfl (Nat.le_of_ble_eq_true rfl) ?_
  intro p e st m args below meth c ls H locs X hr hlocks hA hE hP hS hl
  obtain ⟨hx, hb, hml, hown, hts, -⟩ := id X
  have hG := zEC_good adK adV
  have inX3 : ∀ w ∈ u_ws RX3 TX3 10, w ∈ wsX6_falsePairs := by decide +kernel
  have inX6 : ∀ w ∈ u_ws RX6 TX6 12, w ∈ wsX6_falsePairs := by decide +kernel
  have w89 : ∀ (k48 : Int32 → Int32 → Int32 → Int32 → Int32 → ZS → Option (Int32 × ZS)) (hk48 : ∀ (x1 : Int32) (x2 : Int32) (x3 : Int32) (x4 : Int32) (x5 : Int32) (s : ZS) (H : Heap) (locs : List Loc) (ls : Array Slot), k48 x1 x2 x3 x4 x5 s = some (r, τ) → va_P D vwCl (zW (zcC a cI cJ cC) 41 a s) H → va_S (zF 41 a st.heap.size) st.heap H locs → lv_has ls 6 [(0, .ref (a 0)), (1, .int x1), (2, .int x2), (3, .int x3), (4, .int x4), (5, .int x5)] → W p l e rmX6_falsePairs st m args below meth c H locs 0 0 (MQ below (va_Qi (fun (r' : Int32) (τ' : ZS) => r' = r ∧ τ' = τ) (zPost (zcC a cI cJ cC) 41 a D [(cI, .int), (cJ, .long)]) (zF 41 a st.heap.size)) args st 0 0 (zF 41 a st.heap.size)) (F0 m 48 ls [])) (x1 : Int32) (x2 : Int32) (x3 : Int32) (x4 : Int32) (x5 : Int32) (s : ZS) (H : Heap) (locs : List Loc) (ls : Array Slot), fX6_falsePairs_89 k48 x1 x2 x3 x4 x5 s = some (r, τ) → va_P D vwCl (zW (zcC a cI cJ cC) 41 a s) H → va_S (zF 41 a st.heap.size) st.heap H locs → lv_has ls 6 [(0, .ref (a 0)), (1, .int x1), (2, .int x2), (3, .int x3), (4, .int x4), (5, .int x5)] → W p l e rmX6_falsePairs st m args below meth c H locs 0 0 (MQ below (va_Qi (fun (r' : Int32) (τ' : ZS) => r' = r ∧ τ' = τ) (zPost (zcC a cI cJ cC) 41 a D [(cI, .int), (cJ, .long)]) (zF 41 a st.heap.size)) args st 0 0 (zF 41 a st.heap.size)) (F0 m 89 ls []) := by
    intro k48 hk48 x1 x2 x3 x4 x5 s H locs ls h hP hS hl
    refine lv_iinc (v := (x5 + (1 : Int32))) (lv' := [(5, .int (x5 + (1 : Int32))), (0, .ref (a 0)), (1, .int x1), (2, .int x2), (3, .int x3), (4, .int x4)]) hx hb dX6_falsePairs_89 hl (k := 5) rfl rfl (by decide) rfl (fun ls hl => ?_)
    refine lv_goto (tgt := 48) hx hb dX6_falsePairs_92 (by decide) ?_
    exact hk48 (x1) (x2) (x3) (x4) ((x5 + (1 : Int32))) (s) _ _ _ h hP hS (lv_sub hl [1, 2, 3, 4, 5, 0] rfl)
  have w48 : ∀ (k30 : Int32 → Int32 → Int32 → Int32 → ZS → Option (Int32 × ZS)) (hk30 : ∀ (x1 : Int32) (x2 : Int32) (x3 : Int32) (x4 : Int32) (s : ZS) (H : Heap) (locs : List Loc) (ls : Array Slot), k30 x1 x2 x3 x4 s = some (r, τ) → va_P D vwCl (zW (zcC a cI cJ cC) 41 a s) H → va_S (zF 41 a st.heap.size) st.heap H locs → lv_has ls 6 [(0, .ref (a 0)), (1, .int x1), (2, .int x2), (3, .int x3), (4, .int x4)] → W p l e rmX6_falsePairs st m args below meth c H locs 0 0 (MQ below (va_Qi (fun (r' : Int32) (τ' : ZS) => r' = r ∧ τ' = τ) (zPost (zcC a cI cJ cC) 41 a D [(cI, .int), (cJ, .long)]) (zF 41 a st.heap.size)) args st 0 0 (zF 41 a st.heap.size)) (F0 m 30 ls [])) (n : Nat) (x1 : Int32) (x2 : Int32) (x3 : Int32) (x4 : Int32) (x5 : Int32) (s : ZS) (H : Heap) (locs : List Loc) (ls : Array Slot), fX6_falsePairs_48n k30 n (x1, x2, x3, x4, x5, s) = some (r, τ) → va_P D vwCl (zW (zcC a cI cJ cC) 41 a s) H → va_S (zF 41 a st.heap.size) st.heap H locs → lv_has ls 6 [(0, .ref (a 0)), (1, .int x1), (2, .int x2), (3, .int x3), (4, .int x4), (5, .int x5)] → W p l e rmX6_falsePairs st m args below meth c H locs 0 0 (MQ below (va_Qi (fun (r' : Int32) (τ' : ZS) => r' = r ∧ τ' = τ) (zPost (zcC a cI cJ cC) 41 a D [(cI, .int), (cJ, .long)]) (zF 41 a st.heap.size)) args st 0 0 (zF 41 a st.heap.size)) (F0 m 48 ls []) := by
    intro k30 hk30 n
    induction n with
    | zero => intro x1 x2 x3 x4 x5 s H locs ls h; exact zloop_0 h
    | succ n ih =>
      intro x1 x2 x3 x4 x5 s H locs ls h hP hS hl
      have h : fX6_falsePairs_48b k30 (fun x1 x2 x3 x4 x5 s => fX6_falsePairs_48n k30 n (x1, x2, x3, x4, x5, s)) x1 x2 x3 x4 x5 s = some (r, τ) := h
      refine lv_iload hx hb dX6_falsePairs_48 (lv_at hl 5 rfl) ?_
      refine lv_aload_n hx hb dX6_falsePairs_50 rfl (lv_at hl 0 rfl) ?_
      refine z_get (C := RX6) (T := TX6) (N := 12) X inX6 hP 0 (by decide) (zcC_0 _ _ _ _ _ _) rfl 0 (by decide) rfl (by decide +kernel) rfl dX6_falsePairs_51 ?_
      refine z_get (C := RX3) (T := TX3) (N := 10) X inX3 hP 1 (by decide) (zcC_1 _ _ _ _ _ _) rfl 4 (by decide) rfl (by decide +kernel) rfl dX6_falsePairs_54 ?_
      refine lv_icmp_ge (tgt := 95) hx hb dX6_falsePairs_57 (by decide) (fun c1 => ?_) (fun c1 => ?_)
      · have h := zif_t h c1
        refine lv_iinc (v := (x4 + (1 : Int32))) (lv' := [(4, .int (x4 + (1 : Int32))), (0, .ref (a 0)), (1, .int x1), (2, .int x2), (3, .int x3), (5, .int x5)]) hx hb dX6_falsePairs_95 hl (k := 4) rfl rfl (by decide) rfl (fun ls hl => ?_)
        refine lv_goto (tgt := 30) hx hb dX6_falsePairs_98 (by decide) ?_
        exact hk30 (x1) (x2) (x3) ((x4 + (1 : Int32))) (s) _ _ _ h hP hS (lv_sub hl [1, 2, 3, 4, 0] rfl)
      · have h := zif_f h c1
        refine lv_aload_n hx hb dX6_falsePairs_60 rfl (lv_at hl 0 rfl) ?_
        refine lv_iload hx hb dX6_falsePairs_61 (lv_at hl 4 rfl) ?_
        refine lv_iload hx hb dX6_falsePairs_63 (lv_at hl 5 rfl) ?_
        refine lv_iload_n hx hb dX6_falsePairs_65 rfl (lv_at hl 1 rfl) ?_
        obtain ⟨u2, s2, e2, h⟩ := zb_some h
        refine z_calli hS (z_runV (As := [.int x4, .int x5, .int x1]) (rest := []) X hG hA hE hP hS 0 (kX6_isFalsePair (l := l) (D := D) (a := a) (cI := cI) (cJ := cJ) (cC := cC) (adK := adK) (adV := adV) e2 _) (cwV 3 hts gX6_falsePairs_X6_isFalsePair rfl rfl rfl (by decide +kernel) ⟨Nat.le_of_ble_eq_true rfl, Nat.le_of_ble_eq_true rfl⟩) (by decide) (zcC_0 _ _ _ _ _ _) rfl rfl rfl hl.1 rfl (Nat.le_of_ble_eq_true rfl) dX6_falsePairs_66) (fun H locs hP hS => ?_)
        refine lv_if_eq (tgt := 89) hx hb dX6_falsePairs_69 (by decide) (fun c3 => ?_) (fun c3 => ?_)
        · have h := zif_t h c3
          exact w89 (fun x1 x2 x3 x4 x5 s => fX6_falsePairs_48n k30 n (x1, x2, x3, x4, x5, s)) (fun x1 x2 x3 x4 x5 s H locs ls h hP hS hl => ih x1 x2 x3 x4 x5 s H locs ls h hP hS hl)  (x1) (x2) (x3) (x4) (x5) (s2) _ _ _ h hP hS (lv_sub hl [0, 1, 2, 3, 4, 5] rfl)
        · have h := zif_f h c3
          refine lv_iload_n hx hb dX6_falsePairs_72 rfl (lv_at hl 2 rfl) ?_
          refine lv_iconst (v := 1) hx hb dX6_falsePairs_73 (by decide) ?_
          refine lv_icmp_ne (tgt := 86) hx hb dX6_falsePairs_74 (by decide) (fun c4 => ?_) (fun c4 => ?_)
          · have h := zif_f h c4
            refine lv_iinc (v := (x3 + (1 : Int32))) (lv' := [(3, .int (x3 + (1 : Int32))), (0, .ref (a 0)), (1, .int x1), (2, .int x2), (4, .int x4), (5, .int x5)]) hx hb dX6_falsePairs_86 hl (k := 3) rfl rfl (by decide) rfl (fun ls hl => ?_)
            exact w89 (fun x1 x2 x3 x4 x5 s => fX6_falsePairs_48n k30 n (x1, x2, x3, x4, x5, s)) (fun x1 x2 x3 x4 x5 s H locs ls h hP hS hl => ih x1 x2 x3 x4 x5 s H locs ls h hP hS hl)  (x1) (x2) ((x3 + (1 : Int32))) (x4) (x5) (s2) _ _ _ h hP hS (lv_sub hl [1, 2, 3, 0, 4, 5] rfl)
          · have h := zif_t h c4
            refine lv_bipush (v := 10) hx hb dX6_falsePairs_77 (by decide) ?_
            refine lv_iload hx hb dX6_falsePairs_79 (lv_at hl 4 rfl) ?_
            refine lv_imul hx hb dX6_falsePairs_81 ?_
            refine lv_iload hx hb dX6_falsePairs_82 (lv_at hl 5 rfl) ?_
            refine lv_iadd hx hb dX6_falsePairs_84 ?_
            exact z_iret X hP hS hr hlocks h dX6_falsePairs_85
  have w30 : ∀  (n : Nat) (x1 : Int32) (x2 : Int32) (x3 : Int32) (x4 : Int32) (s : ZS) (H : Heap) (locs : List Loc) (ls : Array Slot), fX6_falsePairs_30n  n (x1, x2, x3, x4, s) = some (r, τ) → va_P D vwCl (zW (zcC a cI cJ cC) 41 a s) H → va_S (zF 41 a st.heap.size) st.heap H locs → lv_has ls 6 [(0, .ref (a 0)), (1, .int x1), (2, .int x2), (3, .int x3), (4, .int x4)] → W p l e rmX6_falsePairs st m args below meth c H locs 0 0 (MQ below (va_Qi (fun (r' : Int32) (τ' : ZS) => r' = r ∧ τ' = τ) (zPost (zcC a cI cJ cC) 41 a D [(cI, .int), (cJ, .long)]) (zF 41 a st.heap.size)) args st 0 0 (zF 41 a st.heap.size)) (F0 m 30 ls []) := by
    intro  n
    induction n with
    | zero => intro x1 x2 x3 x4 s H locs ls h; exact zloop_0 h
    | succ n ih =>
      intro x1 x2 x3 x4 s H locs ls h hP hS hl
      have h : fX6_falsePairs_30b  (fun x1 x2 x3 x4 s => fX6_falsePairs_30n  n (x1, x2, x3, x4, s)) x1 x2 x3 x4 s = some (r, τ) := h
      refine lv_iload hx hb dX6_falsePairs_30 (lv_at hl 4 rfl) ?_
      refine lv_aload_n hx hb dX6_falsePairs_32 rfl (lv_at hl 0 rfl) ?_
      refine z_get (C := RX6) (T := TX6) (N := 12) X inX6 hP 0 (by decide) (zcC_0 _ _ _ _ _ _) rfl 0 (by decide) rfl (by decide +kernel) rfl dX6_falsePairs_33 ?_
      refine z_get (C := RX3) (T := TX3) (N := 10) X inX3 hP 1 (by decide) (zcC_1 _ _ _ _ _ _) rfl 4 (by decide) rfl (by decide +kernel) rfl dX6_falsePairs_36 ?_
      refine lv_icmp_ge (tgt := 101) hx hb dX6_falsePairs_39 (by decide) (fun c1 => ?_) (fun c1 => ?_)
      · have h := zif_t h c1
        refine lv_iload_n hx hb dX6_falsePairs_101 rfl (lv_at hl 2 rfl) ?_
        refine lv_iconst (v := 1) hx hb dX6_falsePairs_102 (by decide) ?_
        refine lv_icmp_ne (tgt := 111) hx hb dX6_falsePairs_103 (by decide) (fun c2 => ?_) (fun c2 => ?_)
        · have h := zif_f h c2
          refine lv_iload_n hx hb dX6_falsePairs_111 rfl (lv_at hl 3 rfl) ?_
          exact z_iret X hP hS hr hlocks h dX6_falsePairs_112
        · have h := zif_t h c2
          refine lv_bipush (v := -5) hx hb dX6_falsePairs_106 (by decide) ?_
          refine lv_goto (tgt := 112) hx hb dX6_falsePairs_108 (by decide) ?_
          exact z_iret X hP hS hr hlocks h dX6_falsePairs_112
      · have h := zif_f h c1
        refine lv_iload hx hb dX6_falsePairs_42 (lv_at hl 4 rfl) ?_
        refine lv_iconst (v := 1) hx hb dX6_falsePairs_44 (by decide) ?_
        refine lv_iadd hx hb dX6_falsePairs_45 ?_
        refine lv_istore (lv' := [(5, .int (x4 + (1 : Int32))), (0, .ref (a 0)), (1, .int x1), (2, .int x2), (3, .int x3), (4, .int x4)]) hx hb dX6_falsePairs_46 hl (by decide) rfl (fun ls hl => ?_)
        exact w48 (fun x1 x2 x3 x4 s => fX6_falsePairs_30n  n (x1, x2, x3, x4, s)) (fun x1 x2 x3 x4 s H locs ls h hP hS hl => ih x1 x2 x3 x4 s H locs ls h hP hS hl) zN (x1) (x2) (x3) (x4) ((x4 + (1 : Int32))) (s) _ _ _ h hP hS (lv_sub hl [1, 2, 3, 4, 5, 0] rfl)
  have hl : lv_has ls 6 [(0, .ref (a 0)), (1, .int x1), (2, .int x2)] := hl
  refine lv_iload_n hx hb dX6_falsePairs_0 rfl (lv_at hl 1 rfl) ?_
  refine lv_iconst (v := 3) hx hb dX6_falsePairs_1 (by decide) ?_
  obtain ⟨u1, s1, e1, h⟩ := zb_some h
  refine z_calli hS (z_runS (As := [.int x1, .int (3 : Int32)]) (rest := []) X hG hA hE hP hS (kX6_within (l := l) (D := D) (a := a) (cI := cI) (cJ := cJ) (cC := cC) (adK := adK) (adV := adV) e1 _) (va_cwS 2 hts gX6_falsePairs_X6_within rfl rfl rfl (by decide +kernel) ⟨Nat.le_of_ble_eq_true rfl, Nat.le_of_ble_eq_true rfl⟩) rfl hl.1 rfl (Nat.le_of_ble_eq_true rfl) dX6_falsePairs_2) (fun H locs hP hS => ?_)
  refine lv_if_eq (tgt := 16) hx hb dX6_falsePairs_5 (by decide) (fun c2 => ?_) (fun c2 => ?_)
  · have h := zif_t h c2
    refine lv_iconst (v := -1) hx hb dX6_falsePairs_16 (by decide) ?_
    exact z_iret X hP hS hr hlocks h dX6_falsePairs_17
  · have h := zif_f h c2
    refine lv_iload_n hx hb dX6_falsePairs_8 rfl (lv_at hl 2 rfl) ?_
    refine lv_iconst (v := 2) hx hb dX6_falsePairs_9 (by decide) ?_
    obtain ⟨u3, s3, e3, h⟩ := zb_some h
    refine z_calli hS (z_runS (As := [.int x2, .int (2 : Int32)]) (rest := []) X hG hA hE hP hS (kX6_within (l := l) (D := D) (a := a) (cI := cI) (cJ := cJ) (cC := cC) (adK := adK) (adV := adV) e3 _) (va_cwS 2 hts gX6_falsePairs_X6_within rfl rfl rfl (by decide +kernel) ⟨Nat.le_of_ble_eq_true rfl, Nat.le_of_ble_eq_true rfl⟩) rfl hl.1 rfl (Nat.le_of_ble_eq_true rfl) dX6_falsePairs_10) (fun H locs hP hS => ?_)
    refine lv_if_ne (tgt := 18) hx hb dX6_falsePairs_13 (by decide) (fun c4 => ?_) (fun c4 => ?_)
    · have h := zif_f h c4
      refine lv_aload_n hx hb dX6_falsePairs_18 rfl (lv_at hl 0 rfl) ?_
      refine z_get (C := RX6) (T := TX6) (N := 12) X inX6 hP 0 (by decide) (zcC_0 _ _ _ _ _ _) rfl 3 (by decide) rfl (by decide +kernel) rfl dX6_falsePairs_19 ?_
      obtain ⟨u5, s5, e5, h⟩ := zb_some h
      refine z_callv hS (z_runV (As := []) (rest := []) X hG hA hE hP hS 19 (kX0_lookAtSheets (l := l) (D := D) (a := a) (cI := cI) (cJ := cJ) (cC := cC) (adK := adK) (adV := adV) e5 _) (cwV 0 hts gX6_falsePairs_X0_lookAtSheets rfl rfl rfl (by decide +kernel) ⟨Nat.le_of_ble_eq_true rfl, Nat.le_of_ble_eq_true rfl⟩) (by decide) (zcC_19 _ _ _ _ _ _) rfl rfl rfl hl.1 rfl (Nat.le_of_ble_eq_true rfl) dX6_falsePairs_22) (fun H locs hP hS => ?_)
      refine lv_iconst (v := 0) hx hb dX6_falsePairs_25 (by decide) ?_
      refine lv_istore_n (lv' := [(3, .int (0 : Int32)), (0, .ref (a 0)), (1, .int x1), (2, .int x2)]) hx hb dX6_falsePairs_26 rfl hl (by decide) rfl (fun ls hl => ?_)
      refine lv_iconst (v := 0) hx hb dX6_falsePairs_27 (by decide) ?_
      refine lv_istore (lv' := [(4, .int (0 : Int32)), (3, .int (0 : Int32)), (0, .ref (a 0)), (1, .int x1), (2, .int x2)]) hx hb dX6_falsePairs_28 hl (by decide) rfl (fun ls hl => ?_)
      exact w30  zN (x1) (x2) ((0 : Int32)) ((0 : Int32)) (s5) _ _ _ h hP hS (lv_sub hl [2, 3, 4, 1, 0] rfl)
    · have h := zif_t h c4
      refine lv_iconst (v := -1) hx hb dX6_falsePairs_16 (by decide) ?_
      exact z_iret X hP hS hr hlocks h dX6_falsePairs_17
abbrev rmX6_brightness : Room := { frames := 5, cells := 0, slots := 0, locals := 108 }
set_option maxHeartbeats 4000000 in
set_option maxRecDepth 100000 in
theorem kX6_brightness {l : Launch} {D : va_G} {a : Nat → Nat} {cI cJ cC : ClassId} {adK adV : Nat → Nat} {x1 : Int32} {x2 : Int32} {s τ : ZS} {r : Int64} (h : fX6_brightness x1 x2 s = some (r, τ)) : zMl (zcC a cI cJ cC) 41 a D [(cI, .int), (cJ, .long)] (zEC adK adV) l yX6_brightness wsX6_brightness rmX6_brightness [.ref (a 0), .int x1, .int x2] s r τ := by
  refine z_start (cc := cX6_brightness) (maxL := 6) (ret := (some .long)) RX6 rfl (by decide) rfl (Nat.le_of_ble_eq_true rfl) ?_
  intro p e st m args below meth c ls H locs X hr hlocks hA hE hP hS hl
  obtain ⟨hx, hb, hml, hown, hts, -⟩ := id X
  have hG := zEC_good adK adV
  have inX6 : ∀ w ∈ u_ws RX6 TX6 12, w ∈ wsX6_brightness := by decide +kernel
  have w25 : ∀  (n : Nat) (x3 : Int64) (x5 : Int32) (s : ZS) (H : Heap) (locs : List Loc) (ls : Array Slot), fX6_brightness_25n  n (x3, x5, s) = some (r, τ) → va_P D vwCl (zW (zcC a cI cJ cC) 41 a s) H → va_S (zF 41 a st.heap.size) st.heap H locs → lv_has ls 6 [(0, .ref (a 0)), (3, .long x3), (5, .int x5)] → W p l e rmX6_brightness st m args below meth c H locs 0 0 (MQ below (va_Ql (fun (r' : Int64) (τ' : ZS) => r' = r ∧ τ' = τ) (zPost (zcC a cI cJ cC) 41 a D [(cI, .int), (cJ, .long)]) (zF 41 a st.heap.size)) args st 0 0 (zF 41 a st.heap.size)) (F0 m 25 ls []) := by
    intro  n
    induction n with
    | zero => intro x3 x5 s H locs ls h; exact zloop_0 h
    | succ n ih =>
      intro x3 x5 s H locs ls h hP hS hl
      have h : fX6_brightness_25b  (fun x3 x5 s => fX6_brightness_25n  n (x3, x5, s)) x3 x5 s = some (r, τ) := h
      refine lv_iload hx hb dX6_brightness_25 (lv_at hl 2 rfl) ?_
      refine lv_iconst (v := 3) hx hb dX6_brightness_27 (by decide) ?_
      refine lv_icmp_ge (tgt := 47) hx hb dX6_brightness_28 (by decide) (fun c1 => ?_) (fun c1 => ?_)
      · have h := zif_t h c1
        refine lv_lload_n hx hb dX6_brightness_47 rfl (lv_at hl 1 rfl) ?_
        exact z_lret X hP hS hr hlocks h dX6_brightness_48
      · have h := zif_f h c1
        refine lv_lload_n hx hb dX6_brightness_31 rfl (lv_at hl 1 rfl) ?_
        refine lv_aload_n hx hb dX6_brightness_32 rfl (lv_at hl 0 rfl) ?_
        refine z_get (C := RX6) (T := TX6) (N := 12) X inX6 hP 0 (by decide) (zcC_0 _ _ _ _ _ _) rfl 10 (by decide) rfl (by decide +kernel) rfl dX6_brightness_33 ?_
        refine lv_iload hx hb dX6_brightness_36 (lv_at hl 2 rfl) ?_
        obtain ⟨g2, h⟩ := zg_some h
        refine z_lald X hP 39 1 (by decide) (zcC_39 _ _ _ _ _ _) rfl g2 dX6_brightness_38 ?_
        refine lv_ladd hx hb dX6_brightness_39 ?_
        refine lv_lstore_n (lv' := [(3, .long (x3 + ((s).2 39 (x5).toNatClampNeg))), (0, .ref (a 0)), (5, .int x5)]) hx hb dX6_brightness_40 rfl hl (by decide) rfl (fun ls hl => ?_)
        refine lv_iinc (v := (x5 + (1 : Int32))) (lv' := [(5, .int (x5 + (1 : Int32))), (3, .long (x3 + ((s).2 39 (x5).toNatClampNeg))), (0, .ref (a 0))]) hx hb dX6_brightness_41 hl (k := 2) rfl rfl (by decide) rfl (fun ls hl => ?_)
        refine lv_goto (tgt := 25) hx hb dX6_brightness_44 (by decide) ?_
        exact ih ((x3 + ((s).2 39 (x5).toNatClampNeg))) ((x5 + (1 : Int32))) (s) _ _ _ h hP hS (lv_sub hl [2, 1, 0] rfl)
  have hl : lv_has ls 6 [(0, .ref (a 0)), (1, .int x1), (2, .int x2)] := hl
  refine lv_aload_n hx hb dX6_brightness_0 rfl (lv_at hl 0 rfl) ?_
  refine z_get (C := RX6) (T := TX6) (N := 12) X inX6 hP 0 (by decide) (zcC_0 _ _ _ _ _ _) rfl 3 (by decide) rfl (by decide +kernel) rfl dX6_brightness_1 ?_
  refine lv_iload_n hx hb dX6_brightness_4 rfl (lv_at hl 1 rfl) ?_
  obtain ⟨u1, s1, e1, h⟩ := zb_some h
  refine z_callv hS (z_runV (As := [.int x1]) (rest := []) X hG hA hE hP hS 19 (kX0_pileStack (l := l) (D := D) (a := a) (cI := cI) (cJ := cJ) (cC := cC) (adK := adK) (adV := adV) e1 _) (cwV 1 hts gX6_brightness_X0_pileStack rfl rfl rfl (by decide +kernel) ⟨Nat.le_of_ble_eq_true rfl, Nat.le_of_ble_eq_true rfl⟩) (by decide) (zcC_19 _ _ _ _ _ _) rfl rfl rfl hl.1 rfl (Nat.le_of_ble_eq_true rfl) dX6_brightness_5) (fun H locs hP hS => ?_)
  refine lv_aload_n hx hb dX6_brightness_8 rfl (lv_at hl 0 rfl) ?_
  refine z_get (C := RX6) (T := TX6) (N := 12) X inX6 hP 0 (by decide) (zcC_0 _ _ _ _ _ _) rfl 3 (by decide) rfl (by decide +kernel) rfl dX6_brightness_9 ?_
  refine lv_aload_n hx hb dX6_brightness_12 rfl (lv_at hl 0 rfl) ?_
  refine z_get (C := RX6) (T := TX6) (N := 12) X inX6 hP 0 (by decide) (zcC_0 _ _ _ _ _ _) rfl 10 (by decide) rfl (by decide +kernel) rfl dX6_brightness_13 ?_
  refine lv_iload_n hx hb dX6_brightness_16 rfl (lv_at hl 2 rfl) ?_
  obtain ⟨u2, s2, e2, h⟩ := zb_some h
  refine z_callv hS (z_runV (As := [.ref (a 39), .int x2]) (rest := []) X hG hA hE hP hS 19 (kX0_seenInto_19_39 (l := l) (D := D) (a := a) (cI := cI) (cJ := cJ) (cC := cC) (adK := adK) (adV := adV) e2 _) (cwV 2 hts gX6_brightness_X0_seenInto rfl rfl rfl (by decide +kernel) ⟨Nat.le_of_ble_eq_true rfl, Nat.le_of_ble_eq_true rfl⟩) (by decide) (zcC_19 _ _ _ _ _ _) rfl rfl rfl hl.1 rfl (Nat.le_of_ble_eq_true rfl) dX6_brightness_17) (fun H locs hP hS => ?_)
  refine lv_lconst (v := 0) hx hb dX6_brightness_20 (by decide) ?_
  refine lv_lstore_n (lv' := [(3, .long (0 : Int64)), (0, .ref (a 0)), (1, .int x1), (2, .int x2)]) hx hb dX6_brightness_21 rfl hl (by decide) rfl (fun ls hl => ?_)
  refine lv_iconst (v := 0) hx hb dX6_brightness_22 (by decide) ?_
  refine lv_istore (lv' := [(5, .int (0 : Int32)), (3, .long (0 : Int64)), (0, .ref (a 0)), (1, .int x1), (2, .int x2)]) hx hb dX6_brightness_23 hl (by decide) rfl (fun ls hl => ?_)
  exact w25  zN ((0 : Int64)) ((0 : Int32)) (s2) _ _ _ h hP hS (lv_sub hl [2, 1, 0] rfl)
abbrev rmX6_brighterThan : Room := { frames := 6, cells := 0, slots := 0, locals := 133 }
set_option maxHeartbeats 4000000 in
set_option maxRecDepth 100000 in
theorem kX6_brighterThan {l : Launch} {D : va_G} {a : Nat → Nat} {cI cJ cC : ClassId} {adK adV : Nat → Nat} {x1 : Int32} {x2 : Int32} {s τ : ZS} {r : Int32} (h : fX6_brighterThan x1 x2 s = some (r, τ)) : zMi (zcC a cI cJ cC) 41 a D [(cI, .int), (cJ, .long)] (zEC adK adV) l yX6_brighterThan wsX6_brighterThan rmX6_brighterThan [.ref (a 0), .int x1, .int x2] s r τ := by
  refine z_start (cc := cX6_brighterThan) (maxL := 9) (ret := (some .int)) RX6 rfl (by decide) rfl (Nat.le_of_ble_eq_true rfl) ?_
  intro p e st m args below meth c ls H locs X hr hlocks hA hE hP hS hl
  obtain ⟨hx, hb, hml, hown, hts, -⟩ := id X
  have hG := zEC_good adK adV
  have inX3 : ∀ w ∈ u_ws RX3 TX3 10, w ∈ wsX6_brighterThan := by decide +kernel
  have inX6 : ∀ w ∈ u_ws RX6 TX6 12, w ∈ wsX6_brighterThan := by decide +kernel
  have w57 : ∀ (k13 : Int32 → Int32 → Int64 → Int32 → Int32 → ZS → Option (Int32 × ZS)) (hk13 : ∀ (x1 : Int32) (x2 : Int32) (x3 : Int64) (x5 : Int32) (x6 : Int32) (s : ZS) (H : Heap) (locs : List Loc) (ls : Array Slot), k13 x1 x2 x3 x5 x6 s = some (r, τ) → va_P D vwCl (zW (zcC a cI cJ cC) 41 a s) H → va_S (zF 41 a st.heap.size) st.heap H locs → lv_has ls 9 [(0, .ref (a 0)), (1, .int x1), (2, .int x2), (3, .long x3), (5, .int x5), (6, .int x6)] → W p l e rmX6_brighterThan st m args below meth c H locs 0 0 (MQ below (va_Qi (fun (r' : Int32) (τ' : ZS) => r' = r ∧ τ' = τ) (zPost (zcC a cI cJ cC) 41 a D [(cI, .int), (cJ, .long)]) (zF 41 a st.heap.size)) args st 0 0 (zF 41 a st.heap.size)) (F0 m 13 ls [])) (x1 : Int32) (x2 : Int32) (x3 : Int64) (x5 : Int32) (x6 : Int32) (s : ZS) (H : Heap) (locs : List Loc) (ls : Array Slot), fX6_brighterThan_57 k13 x1 x2 x3 x5 x6 s = some (r, τ) → va_P D vwCl (zW (zcC a cI cJ cC) 41 a s) H → va_S (zF 41 a st.heap.size) st.heap H locs → lv_has ls 9 [(0, .ref (a 0)), (1, .int x1), (2, .int x2), (3, .long x3), (5, .int x5), (6, .int x6)] → W p l e rmX6_brighterThan st m args below meth c H locs 0 0 (MQ below (va_Qi (fun (r' : Int32) (τ' : ZS) => r' = r ∧ τ' = τ) (zPost (zcC a cI cJ cC) 41 a D [(cI, .int), (cJ, .long)]) (zF 41 a st.heap.size)) args st 0 0 (zF 41 a st.heap.size)) (F0 m 57 ls []) := by
    intro k13 hk13 x1 x2 x3 x5 x6 s H locs ls h hP hS hl
    refine lv_iinc (v := (x6 + (1 : Int32))) (lv' := [(6, .int (x6 + (1 : Int32))), (0, .ref (a 0)), (1, .int x1), (2, .int x2), (3, .long x3), (5, .int x5)]) hx hb dX6_brighterThan_57 hl (k := 5) rfl rfl (by decide) rfl (fun ls hl => ?_)
    refine lv_goto (tgt := 13) hx hb dX6_brighterThan_60 (by decide) ?_
    exact hk13 (x1) (x2) (x3) (x5) ((x6 + (1 : Int32))) (s) _ _ _ h hP hS (lv_sub hl [1, 2, 3, 4, 5, 0] rfl)
  have w54 : ∀ (k57 : Int32 → Int32 → Int64 → Int32 → Int32 → ZS → Option (Int32 × ZS)) (hk57 : ∀ (x1 : Int32) (x2 : Int32) (x3 : Int64) (x5 : Int32) (x6 : Int32) (s : ZS) (H : Heap) (locs : List Loc) (ls : Array Slot), k57 x1 x2 x3 x5 x6 s = some (r, τ) → va_P D vwCl (zW (zcC a cI cJ cC) 41 a s) H → va_S (zF 41 a st.heap.size) st.heap H locs → lv_has ls 9 [(0, .ref (a 0)), (1, .int x1), (2, .int x2), (3, .long x3), (5, .int x5), (6, .int x6)] → W p l e rmX6_brighterThan st m args below meth c H locs 0 0 (MQ below (va_Qi (fun (r' : Int32) (τ' : ZS) => r' = r ∧ τ' = τ) (zPost (zcC a cI cJ cC) 41 a D [(cI, .int), (cJ, .long)]) (zF 41 a st.heap.size)) args st 0 0 (zF 41 a st.heap.size)) (F0 m 57 ls [])) (x1 : Int32) (x2 : Int32) (x3 : Int64) (x5 : Int32) (x6 : Int32) (s : ZS) (H : Heap) (locs : List Loc) (ls : Array Slot), fX6_brighterThan_54 k57 x1 x2 x3 x5 x6 s = some (r, τ) → va_P D vwCl (zW (zcC a cI cJ cC) 41 a s) H → va_S (zF 41 a st.heap.size) st.heap H locs → lv_has ls 9 [(0, .ref (a 0)), (1, .int x1), (2, .int x2), (3, .long x3), (5, .int x5), (6, .int x6)] → W p l e rmX6_brighterThan st m args below meth c H locs 0 0 (MQ below (va_Qi (fun (r' : Int32) (τ' : ZS) => r' = r ∧ τ' = τ) (zPost (zcC a cI cJ cC) 41 a D [(cI, .int), (cJ, .long)]) (zF 41 a st.heap.size)) args st 0 0 (zF 41 a st.heap.size)) (F0 m 54 ls []) := by
    intro k57 hk57 x1 x2 x3 x5 x6 s H locs ls h hP hS hl
    refine lv_iinc (v := (x5 + (1 : Int32))) (lv' := [(5, .int (x5 + (1 : Int32))), (0, .ref (a 0)), (1, .int x1), (2, .int x2), (3, .long x3), (6, .int x6)]) hx hb dX6_brighterThan_54 hl (k := 4) rfl rfl (by decide) rfl (fun ls hl => ?_)
    exact hk57 (x1) (x2) (x3) ((x5 + (1 : Int32))) (x6) (s) _ _ _ h hP hS (lv_sub hl [1, 2, 3, 4, 0, 5] rfl)
  have w13 : ∀  (n : Nat) (x1 : Int32) (x2 : Int32) (x3 : Int64) (x5 : Int32) (x6 : Int32) (s : ZS) (H : Heap) (locs : List Loc) (ls : Array Slot), fX6_brighterThan_13n  n (x1, x2, x3, x5, x6, s) = some (r, τ) → va_P D vwCl (zW (zcC a cI cJ cC) 41 a s) H → va_S (zF 41 a st.heap.size) st.heap H locs → lv_has ls 9 [(0, .ref (a 0)), (1, .int x1), (2, .int x2), (3, .long x3), (5, .int x5), (6, .int x6)] → W p l e rmX6_brighterThan st m args below meth c H locs 0 0 (MQ below (va_Qi (fun (r' : Int32) (τ' : ZS) => r' = r ∧ τ' = τ) (zPost (zcC a cI cJ cC) 41 a D [(cI, .int), (cJ, .long)]) (zF 41 a st.heap.size)) args st 0 0 (zF 41 a st.heap.size)) (F0 m 13 ls []) := by
    intro  n
    induction n with
    | zero => intro x1 x2 x3 x5 x6 s H locs ls h; exact zloop_0 h
    | succ n ih =>
      intro x1 x2 x3 x5 x6 s H locs ls h hP hS hl
      have h : fX6_brighterThan_13b  (fun x1 x2 x3 x5 x6 s => fX6_brighterThan_13n  n (x1, x2, x3, x5, x6, s)) x1 x2 x3 x5 x6 s = some (r, τ) := h
      refine lv_iload hx hb dX6_brighterThan_13 (lv_at hl 5 rfl) ?_
      refine lv_aload_n hx hb dX6_brighterThan_15 rfl (lv_at hl 0 rfl) ?_
      refine z_get (C := RX6) (T := TX6) (N := 12) X inX6 hP 0 (by decide) (zcC_0 _ _ _ _ _ _) rfl 0 (by decide) rfl (by decide +kernel) rfl dX6_brighterThan_16 ?_
      refine z_get (C := RX3) (T := TX3) (N := 10) X inX3 hP 1 (by decide) (zcC_1 _ _ _ _ _ _) rfl 4 (by decide) rfl (by decide +kernel) rfl dX6_brighterThan_19 ?_
      refine lv_icmp_ge (tgt := 63) hx hb dX6_brighterThan_22 (by decide) (fun c1 => ?_) (fun c1 => ?_)
      · have h := zif_t h c1
        refine lv_iload hx hb dX6_brighterThan_63 (lv_at hl 4 rfl) ?_
        exact z_iret X hP hS hr hlocks h dX6_brighterThan_65
      · have h := zif_f h c1
        refine lv_aload_n hx hb dX6_brighterThan_25 rfl (lv_at hl 0 rfl) ?_
        refine lv_iload hx hb dX6_brighterThan_26 (lv_at hl 5 rfl) ?_
        refine lv_iload_n hx hb dX6_brighterThan_28 rfl (lv_at hl 2 rfl) ?_
        obtain ⟨u2, s2, e2, h⟩ := zb_some h
        refine z_calll hS (z_runV (As := [.int x6, .int x2]) (rest := []) X hG hA hE hP hS 0 (kX6_brightness (l := l) (D := D) (a := a) (cI := cI) (cJ := cJ) (cC := cC) (adK := adK) (adV := adV) e2 _) (cwV 2 hts gX6_brighterThan_X6_brightness rfl rfl rfl (by decide +kernel) ⟨Nat.le_of_ble_eq_true rfl, Nat.le_of_ble_eq_true rfl⟩) (by decide) (zcC_0 _ _ _ _ _ _) rfl rfl rfl hl.1 rfl (Nat.le_of_ble_eq_true rfl) dX6_brighterThan_29) (fun H locs hP hS => ?_)
        refine lv_lstore (lv' := [(7, .long u2), (0, .ref (a 0)), (1, .int x1), (2, .int x2), (3, .long x3), (5, .int x5), (6, .int x6)]) hx hb dX6_brighterThan_32 hl (by decide) rfl (fun ls hl => ?_)
        refine lv_lload hx hb dX6_brighterThan_34 (lv_at hl 0 rfl) ?_
        refine lv_lload_n hx hb dX6_brighterThan_36 rfl (lv_at hl 4 rfl) ?_
        refine W.lcmp hx hb dX6_brighterThan_37 ?_
        refine lv_if_gt (tgt := 54) hx hb dX6_brighterThan_38 (by decide) (fun c3 => ?_) (fun c3 => ?_)
        · have h := zif_t h c3
          exact w54 (fX6_brighterThan_57 (fun x1 x2 x3 x5 x6 s => fX6_brighterThan_13n  n (x1, x2, x3, x5, x6, s))) (fun x1 x2 x3 x5 x6 s H locs ls h hP hS hl => w57 (fun x1 x2 x3 x5 x6 s => fX6_brighterThan_13n  n (x1, x2, x3, x5, x6, s)) (fun x1 x2 x3 x5 x6 s H locs ls h hP hS hl => ih x1 x2 x3 x5 x6 s H locs ls h hP hS hl)  x1 x2 x3 x5 x6 s H locs ls h hP hS hl)  (x1) (x2) (x3) (x5) (x6) (s2) _ _ _ h hP hS (lv_sub hl [1, 2, 3, 4, 5, 6] rfl)
        · have h := zif_f h c3
          refine lv_lload hx hb dX6_brighterThan_41 (lv_at hl 0 rfl) ?_
          refine lv_lload_n hx hb dX6_brighterThan_43 rfl (lv_at hl 4 rfl) ?_
          refine W.lcmp hx hb dX6_brighterThan_44 ?_
          refine lv_if_ne (tgt := 57) hx hb dX6_brighterThan_45 (by decide) (fun c4 => ?_) (fun c4 => ?_)
          · have h := zif_f h c4
            exact w57 (fun x1 x2 x3 x5 x6 s => fX6_brighterThan_13n  n (x1, x2, x3, x5, x6, s)) (fun x1 x2 x3 x5 x6 s H locs ls h hP hS hl => ih x1 x2 x3 x5 x6 s H locs ls h hP hS hl)  (x1) (x2) (x3) (x5) (x6) (s2) _ _ _ h hP hS (lv_sub hl [1, 2, 3, 4, 5, 6] rfl)
          · have h := zif_t h c4
            refine lv_iload hx hb dX6_brighterThan_48 (lv_at hl 6 rfl) ?_
            refine lv_iload_n hx hb dX6_brighterThan_50 rfl (lv_at hl 2 rfl) ?_
            refine lv_icmp_ge (tgt := 57) hx hb dX6_brighterThan_51 (by decide) (fun c5 => ?_) (fun c5 => ?_)
            · have h := zif_t h c5
              exact w57 (fun x1 x2 x3 x5 x6 s => fX6_brighterThan_13n  n (x1, x2, x3, x5, x6, s)) (fun x1 x2 x3 x5 x6 s H locs ls h hP hS hl => ih x1 x2 x3 x5 x6 s H locs ls h hP hS hl)  (x1) (x2) (x3) (x5) (x6) (s2) _ _ _ h hP hS (lv_sub hl [1, 2, 3, 4, 5, 6] rfl)
            · have h := zif_f h c5
              exact w54 (fX6_brighterThan_57 (fun x1 x2 x3 x5 x6 s => fX6_brighterThan_13n  n (x1, x2, x3, x5, x6, s))) (fun x1 x2 x3 x5 x6 s H locs ls h hP hS hl => w57 (fun x1 x2 x3 x5 x6 s => fX6_brighterThan_13n  n (x1, x2, x3, x5, x6, s)) (fun x1 x2 x3 x5 x6 s H locs ls h hP hS hl => ih x1 x2 x3 x5 x6 s H locs ls h hP hS hl)  x1 x2 x3 x5 x6 s H locs ls h hP hS hl)  (x1) (x2) (x3) (x5) (x6) (s2) _ _ _ h hP hS (lv_sub hl [1, 2, 3, 4, 5, 6] rfl)
  have hl : lv_has ls 9 [(0, .ref (a 0)), (1, .int x1), (2, .int x2)] := hl
  refine lv_aload_n hx hb dX6_brighterThan_0 rfl (lv_at hl 0 rfl) ?_
  refine lv_iload_n hx hb dX6_brighterThan_1 rfl (lv_at hl 1 rfl) ?_
  refine lv_iload_n hx hb dX6_brighterThan_2 rfl (lv_at hl 2 rfl) ?_
  obtain ⟨u1, s1, e1, h⟩ := zb_some h
  refine z_calll hS (z_runV (As := [.int x1, .int x2]) (rest := []) X hG hA hE hP hS 0 (kX6_brightness (l := l) (D := D) (a := a) (cI := cI) (cJ := cJ) (cC := cC) (adK := adK) (adV := adV) e1 _) (cwV 2 hts gX6_brighterThan_X6_brightness rfl rfl rfl (by decide +kernel) ⟨Nat.le_of_ble_eq_true rfl, Nat.le_of_ble_eq_true rfl⟩) (by decide) (zcC_0 _ _ _ _ _ _) rfl rfl rfl hl.1 rfl (Nat.le_of_ble_eq_true rfl) dX6_brighterThan_3) (fun H locs hP hS => ?_)
  refine lv_lstore_n (lv' := [(3, .long u1), (0, .ref (a 0)), (1, .int x1), (2, .int x2)]) hx hb dX6_brighterThan_6 rfl hl (by decide) rfl (fun ls hl => ?_)
  refine lv_iconst (v := 0) hx hb dX6_brighterThan_7 (by decide) ?_
  refine lv_istore (lv' := [(5, .int (0 : Int32)), (3, .long u1), (0, .ref (a 0)), (1, .int x1), (2, .int x2)]) hx hb dX6_brighterThan_8 hl (by decide) rfl (fun ls hl => ?_)
  refine lv_iconst (v := 0) hx hb dX6_brighterThan_10 (by decide) ?_
  refine lv_istore (lv' := [(6, .int (0 : Int32)), (5, .int (0 : Int32)), (3, .long u1), (0, .ref (a 0)), (1, .int x1), (2, .int x2)]) hx hb dX6_brighterThan_11 hl (by decide) rfl (fun ls hl => ?_)
  exact w13  zN (x1) (x2) (u1) ((0 : Int32)) ((0 : Int32)) (s1) _ _ _ h hP hS (lv_sub hl [3, 4, 5, 2, 1, 0] rfl)
abbrev rmX6_ranked : Room := { frames := 7, cells := 0, slots := 0, locals := 161 }
set_option maxHeartbeats 4000000 in
set_option maxRecDepth 100000 in
theorem kX6_ranked {l : Launch} {D : va_G} {a : Nat → Nat} {cI cJ cC : ClassId} {adK adV : Nat → Nat} {x1 : Int32} {x2 : Int32} {s τ : ZS} {r : Int32} (h : fX6_ranked x1 x2 s = some (r, τ)) : zMi (zcC a cI cJ cC) 41 a D [(cI, .int), (cJ, .long)] (zEC adK adV) l yX6_ranked wsX6_ranked rmX6_ranked [.ref (a 0), .int x1, .int x2] s r τ := by
  refine z_start (cc := cX6_ranked) (maxL := 4) (ret := (some .int)) RX6 rfl (by decide) rfl (Nat.le_of_ble_eq_true rfl) ?_
  intro p e st m args below meth c ls H locs X hr hlocks hA hE hP hS hl
  obtain ⟨hx, hb, hml, hown, hts, -⟩ := id X
  have hG := zEC_good adK adV
  have inX3 : ∀ w ∈ u_ws RX3 TX3 10, w ∈ wsX6_ranked := by decide +kernel
  have inX6 : ∀ w ∈ u_ws RX6 TX6 12, w ∈ wsX6_ranked := by decide +kernel
  have w33 : ∀  (n : Nat) (x1 : Int32) (x2 : Int32) (x3 : Int32) (s : ZS) (H : Heap) (locs : List Loc) (ls : Array Slot), fX6_ranked_33n  n (x1, x2, x3, s) = some (r, τ) → va_P D vwCl (zW (zcC a cI cJ cC) 41 a s) H → va_S (zF 41 a st.heap.size) st.heap H locs → lv_has ls 4 [(0, .ref (a 0)), (1, .int x1), (2, .int x2), (3, .int x3)] → W p l e rmX6_ranked st m args below meth c H locs 0 0 (MQ below (va_Qi (fun (r' : Int32) (τ' : ZS) => r' = r ∧ τ' = τ) (zPost (zcC a cI cJ cC) 41 a D [(cI, .int), (cJ, .long)]) (zF 41 a st.heap.size)) args st 0 0 (zF 41 a st.heap.size)) (F0 m 33 ls []) := by
    intro  n
    induction n with
    | zero => intro x1 x2 x3 s H locs ls h; exact zloop_0 h
    | succ n ih =>
      intro x1 x2 x3 s H locs ls h hP hS hl
      have h : fX6_ranked_33b  (fun x1 x2 x3 s => fX6_ranked_33n  n (x1, x2, x3, s)) x1 x2 x3 s = some (r, τ) := h
      refine lv_iload_n hx hb dX6_ranked_33 rfl (lv_at hl 3 rfl) ?_
      refine lv_aload_n hx hb dX6_ranked_34 rfl (lv_at hl 0 rfl) ?_
      refine z_get (C := RX6) (T := TX6) (N := 12) X inX6 hP 0 (by decide) (zcC_0 _ _ _ _ _ _) rfl 0 (by decide) rfl (by decide +kernel) rfl dX6_ranked_35 ?_
      refine z_get (C := RX3) (T := TX3) (N := 10) X inX3 hP 1 (by decide) (zcC_1 _ _ _ _ _ _) rfl 4 (by decide) rfl (by decide +kernel) rfl dX6_ranked_38 ?_
      refine lv_icmp_ge (tgt := 62) hx hb dX6_ranked_41 (by decide) (fun c1 => ?_) (fun c1 => ?_)
      · have h := zif_t h c1
        refine lv_iconst (v := -1) hx hb dX6_ranked_62 (by decide) ?_
        exact z_iret X hP hS hr hlocks h dX6_ranked_63
      · have h := zif_f h c1
        refine lv_aload_n hx hb dX6_ranked_44 rfl (lv_at hl 0 rfl) ?_
        refine lv_iload_n hx hb dX6_ranked_45 rfl (lv_at hl 3 rfl) ?_
        refine lv_iload_n hx hb dX6_ranked_46 rfl (lv_at hl 1 rfl) ?_
        obtain ⟨u2, s2, e2, h⟩ := zb_some h
        refine z_calli hS (z_runV (As := [.int x3, .int x1]) (rest := []) X hG hA hE hP hS 0 (kX6_brighterThan (l := l) (D := D) (a := a) (cI := cI) (cJ := cJ) (cC := cC) (adK := adK) (adV := adV) e2 _) (cwV 2 hts gX6_ranked_X6_brighterThan rfl rfl rfl (by decide +kernel) ⟨Nat.le_of_ble_eq_true rfl, Nat.le_of_ble_eq_true rfl⟩) (by decide) (zcC_0 _ _ _ _ _ _) rfl rfl rfl hl.1 rfl (Nat.le_of_ble_eq_true rfl) dX6_ranked_47) (fun H locs hP hS => ?_)
        refine lv_iload_n hx hb dX6_ranked_50 rfl (lv_at hl 2 rfl) ?_
        refine lv_icmp_ne (tgt := 56) hx hb dX6_ranked_51 (by decide) (fun c3 => ?_) (fun c3 => ?_)
        · have h := zif_f h c3
          refine lv_iinc (v := (x3 + (1 : Int32))) (lv' := [(3, .int (x3 + (1 : Int32))), (0, .ref (a 0)), (1, .int x1), (2, .int x2)]) hx hb dX6_ranked_56 hl (k := 3) rfl rfl (by decide) rfl (fun ls hl => ?_)
          refine lv_goto (tgt := 33) hx hb dX6_ranked_59 (by decide) ?_
          exact ih (x1) (x2) ((x3 + (1 : Int32))) (s2) _ _ _ h hP hS (lv_sub hl [1, 2, 3, 0] rfl)
        · have h := zif_t h c3
          refine lv_iload_n hx hb dX6_ranked_54 rfl (lv_at hl 3 rfl) ?_
          exact z_iret X hP hS hr hlocks h dX6_ranked_55
  have hl : lv_has ls 4 [(0, .ref (a 0)), (1, .int x1), (2, .int x2)] := hl
  refine lv_iload_n hx hb dX6_ranked_0 rfl (lv_at hl 1 rfl) ?_
  refine lv_iconst (v := 3) hx hb dX6_ranked_1 (by decide) ?_
  obtain ⟨u1, s1, e1, h⟩ := zb_some h
  refine z_calli hS (z_runS (As := [.int x1, .int (3 : Int32)]) (rest := []) X hG hA hE hP hS (kX6_within (l := l) (D := D) (a := a) (cI := cI) (cJ := cJ) (cC := cC) (adK := adK) (adV := adV) e1 _) (va_cwS 2 hts gX6_ranked_X6_within rfl rfl rfl (by decide +kernel) ⟨Nat.le_of_ble_eq_true rfl, Nat.le_of_ble_eq_true rfl⟩) rfl hl.1 rfl (Nat.le_of_ble_eq_true rfl) dX6_ranked_2) (fun H locs hP hS => ?_)
  refine lv_if_eq (tgt := 22) hx hb dX6_ranked_5 (by decide) (fun c2 => ?_) (fun c2 => ?_)
  · have h := zif_t h c2
    refine lv_iconst (v := -1) hx hb dX6_ranked_22 (by decide) ?_
    exact z_iret X hP hS hr hlocks h dX6_ranked_23
  · have h := zif_f h c2
    refine lv_iload_n hx hb dX6_ranked_8 rfl (lv_at hl 2 rfl) ?_
    refine lv_aload_n hx hb dX6_ranked_9 rfl (lv_at hl 0 rfl) ?_
    refine z_get (C := RX6) (T := TX6) (N := 12) X inX6 hP 0 (by decide) (zcC_0 _ _ _ _ _ _) rfl 0 (by decide) rfl (by decide +kernel) rfl dX6_ranked_10 ?_
    refine z_get (C := RX3) (T := TX3) (N := 10) X inX3 hP 1 (by decide) (zcC_1 _ _ _ _ _ _) rfl 4 (by decide) rfl (by decide +kernel) rfl dX6_ranked_13 ?_
    obtain ⟨u3, s3, e3, h⟩ := zb_some h
    refine z_calli hS (z_runS (As := [.int x2, .int ((s1).1 1 4)]) (rest := []) X hG hA hE hP hS (kX6_within (l := l) (D := D) (a := a) (cI := cI) (cJ := cJ) (cC := cC) (adK := adK) (adV := adV) e3 _) (va_cwS 2 hts gX6_ranked_X6_within rfl rfl rfl (by decide +kernel) ⟨Nat.le_of_ble_eq_true rfl, Nat.le_of_ble_eq_true rfl⟩) rfl hl.1 rfl (Nat.le_of_ble_eq_true rfl) dX6_ranked_16) (fun H locs hP hS => ?_)
    refine lv_if_ne (tgt := 24) hx hb dX6_ranked_19 (by decide) (fun c4 => ?_) (fun c4 => ?_)
    · have h := zif_f h c4
      refine lv_aload_n hx hb dX6_ranked_24 rfl (lv_at hl 0 rfl) ?_
      refine z_get (C := RX6) (T := TX6) (N := 12) X inX6 hP 0 (by decide) (zcC_0 _ _ _ _ _ _) rfl 3 (by decide) rfl (by decide +kernel) rfl dX6_ranked_25 ?_
      obtain ⟨u5, s5, e5, h⟩ := zb_some h
      refine z_callv hS (z_runV (As := []) (rest := []) X hG hA hE hP hS 19 (kX0_lookAtSheets (l := l) (D := D) (a := a) (cI := cI) (cJ := cJ) (cC := cC) (adK := adK) (adV := adV) e5 _) (cwV 0 hts gX6_ranked_X0_lookAtSheets rfl rfl rfl (by decide +kernel) ⟨Nat.le_of_ble_eq_true rfl, Nat.le_of_ble_eq_true rfl⟩) (by decide) (zcC_19 _ _ _ _ _ _) rfl rfl rfl hl.1 rfl (Nat.le_of_ble_eq_true rfl) dX6_ranked_28) (fun H locs hP hS => ?_)
      refine lv_iconst (v := 0) hx hb dX6_ranked_31 (by decide) ?_
      refine lv_istore_n (lv' := [(3, .int (0 : Int32)), (0, .ref (a 0)), (1, .int x1), (2, .int x2)]) hx hb dX6_ranked_32 rfl hl (by decide) rfl (fun ls hl => ?_)
      exact w33  zN (x1) (x2) ((0 : Int32)) (s5) _ _ _ h hP hS (lv_sub hl [1, 2, 3, 0] rfl)
    · have h := zif_t h c4
      refine lv_iconst (v := -1) hx hb dX6_ranked_22 (by decide) ?_
      exact z_iret X hP hS hr hlocks h dX6_ranked_23
abbrev rmX6_wish : Room := { frames := 1, cells := 0, slots := 0, locals := 21 }
set_option maxHeartbeats 4000000 in
set_option maxRecDepth 100000 in
theorem kX6_wish {l : Launch} {D : va_G} {a : Nat → Nat} {cI cJ cC : ClassId} {adK adV : Nat → Nat} {x1 : Int32} {x2 : Int32} {x3 : Int32} {s τ : ZS} {r : Int32} (h : fX6_wish x1 x2 x3 s = some (r, τ)) : zMi (zcC a cI cJ cC) 41 a D [(cI, .int), (cJ, .long)] (zEC adK adV) l yX6_wish wsX6_wish rmX6_wish [.ref (a 0), .int x1, .int x2, .int x3] s r τ := by
  refine z_start (cc := cX6_wish) (maxL := 5) (ret := (some .int)) RX6 rfl (by decide) rfl (Nat.le_of_ble_eq_true rfl) ?_
  intro p e st m args below meth c ls H locs X hr hlocks hA hE hP hS hl
  obtain ⟨hx, hb, hml, hown, hts, -⟩ := id X
  have hG := zEC_good adK adV
  have inX3 : ∀ w ∈ u_ws RX3 TX3 10, w ∈ wsX6_wish := by decide +kernel
  have inX6 : ∀ w ∈ u_ws RX6 TX6 12, w ∈ wsX6_wish := by decide +kernel
  have hl : lv_has ls 5 [(0, .ref (a 0)), (1, .int x1), (2, .int x2), (3, .int x3)] := hl
  refine lv_sipush (v := 10000) hx hb dX6_wish_0 (by decide) ?_
  refine lv_istore (lv' := [(4, .int (10000 : Int32)), (0, .ref (a 0)), (1, .int x1), (2, .int x2), (3, .int x3)]) hx hb dX6_wish_3 hl (by decide) rfl (fun ls hl => ?_)
  refine lv_iload_n hx hb dX6_wish_5 rfl (lv_at hl 2 rfl) ?_
  refine lv_iload hx hb dX6_wish_6 (lv_at hl 0 rfl) ?_
  obtain ⟨u1, s1, e1, h⟩ := zb_some h
  refine z_calli hS (z_runS (As := [.int x1, .int (10000 : Int32)]) (rest := []) X hG hA hE hP hS (kX6_within (l := l) (D := D) (a := a) (cI := cI) (cJ := cJ) (cC := cC) (adK := adK) (adV := adV) e1 _) (va_cwS 2 hts gX6_wish_X6_within rfl rfl rfl (by decide +kernel) ⟨Nat.le_of_ble_eq_true rfl, Nat.le_of_ble_eq_true rfl⟩) rfl hl.1 rfl (Nat.le_of_ble_eq_true rfl) dX6_wish_8) (fun H locs hP hS => ?_)
  refine lv_if_eq (tgt := 32) hx hb dX6_wish_11 (by decide) (fun c2 => ?_) (fun c2 => ?_)
  · have h := zif_t h c2
    refine lv_bipush (v := -2) hx hb dX6_wish_32 (by decide) ?_
    exact z_iret X hP hS hr hlocks h dX6_wish_34
  · have h := zif_f h c2
    refine lv_iload_n hx hb dX6_wish_14 rfl (lv_at hl 3 rfl) ?_
    refine lv_iload hx hb dX6_wish_15 (lv_at hl 0 rfl) ?_
    obtain ⟨u3, s3, e3, h⟩ := zb_some h
    refine z_calli hS (z_runS (As := [.int x2, .int (10000 : Int32)]) (rest := []) X hG hA hE hP hS (kX6_within (l := l) (D := D) (a := a) (cI := cI) (cJ := cJ) (cC := cC) (adK := adK) (adV := adV) e3 _) (va_cwS 2 hts gX6_wish_X6_within rfl rfl rfl (by decide +kernel) ⟨Nat.le_of_ble_eq_true rfl, Nat.le_of_ble_eq_true rfl⟩) rfl hl.1 rfl (Nat.le_of_ble_eq_true rfl) dX6_wish_17) (fun H locs hP hS => ?_)
    refine lv_if_eq (tgt := 32) hx hb dX6_wish_20 (by decide) (fun c4 => ?_) (fun c4 => ?_)
    · have h := zif_t h c4
      refine lv_bipush (v := -2) hx hb dX6_wish_32 (by decide) ?_
      exact z_iret X hP hS hr hlocks h dX6_wish_34
    · have h := zif_f h c4
      refine lv_iload_n hx hb dX6_wish_23 rfl (lv_at hl 4 rfl) ?_
      refine lv_iload hx hb dX6_wish_24 (lv_at hl 0 rfl) ?_
      obtain ⟨u5, s5, e5, h⟩ := zb_some h
      refine z_calli hS (z_runS (As := [.int x3, .int (10000 : Int32)]) (rest := []) X hG hA hE hP hS (kX6_within (l := l) (D := D) (a := a) (cI := cI) (cJ := cJ) (cC := cC) (adK := adK) (adV := adV) e5 _) (va_cwS 2 hts gX6_wish_X6_within rfl rfl rfl (by decide +kernel) ⟨Nat.le_of_ble_eq_true rfl, Nat.le_of_ble_eq_true rfl⟩) rfl hl.1 rfl (Nat.le_of_ble_eq_true rfl) dX6_wish_26) (fun H locs hP hS => ?_)
      refine lv_if_ne (tgt := 35) hx hb dX6_wish_29 (by decide) (fun c6 => ?_) (fun c6 => ?_)
      · have h := zif_f h c6
        refine lv_aload_n hx hb dX6_wish_35 rfl (lv_at hl 1 rfl) ?_
        refine z_get (C := RX6) (T := TX6) (N := 12) X inX6 hP 0 (by decide) (zcC_0 _ _ _ _ _ _) rfl 0 (by decide) rfl (by decide +kernel) rfl dX6_wish_36 ?_
        refine z_get (C := RX3) (T := TX3) (N := 10) X inX3 hP 1 (by decide) (zcC_1 _ _ _ _ _ _) rfl 9 (by decide) rfl (by decide +kernel) rfl dX6_wish_39 ?_
        refine lv_iconst (v := 0) hx hb dX6_wish_42 (by decide) ?_
        refine lv_iload_n hx hb dX6_wish_43 rfl (lv_at hl 2 rfl) ?_
        obtain ⟨g7, h⟩ := zg_some h
        refine z_iast X hA hP hS 9 0 (by decide) (zcC_9 _ _ _ _) rfl g7 dX6_wish_44 (fun H locs hP hS => ?_)
        refine lv_aload_n hx hb dX6_wish_45 rfl (lv_at hl 1 rfl) ?_
        refine z_get (C := RX6) (T := TX6) (N := 12) X inX6 hP 0 (by decide) (zcC_0 _ _ _ _ _ _) rfl 0 (by decide) rfl (by decide +kernel) rfl dX6_wish_46 ?_
        refine z_get (C := RX3) (T := TX3) (N := 10) X inX3 hP 1 (by decide) (zcC_1 _ _ _ _ _ _) rfl 9 (by decide) rfl (by decide +kernel) rfl dX6_wish_49 ?_
        refine lv_iconst (v := 1) hx hb dX6_wish_52 (by decide) ?_
        refine lv_iload_n hx hb dX6_wish_53 rfl (lv_at hl 3 rfl) ?_
        obtain ⟨g8, h⟩ := zg_some h
        refine z_iast X hA hP hS 9 0 (by decide) (zcC_9 _ _ _ _) rfl g8 dX6_wish_54 (fun H locs hP hS => ?_)
        refine lv_aload_n hx hb dX6_wish_55 rfl (lv_at hl 1 rfl) ?_
        refine z_get (C := RX6) (T := TX6) (N := 12) X inX6 hP 0 (by decide) (zcC_0 _ _ _ _ _ _) rfl 0 (by decide) rfl (by decide +kernel) rfl dX6_wish_56 ?_
        refine z_get (C := RX3) (T := TX3) (N := 10) X inX3 hP 1 (by decide) (zcC_1 _ _ _ _ _ _) rfl 9 (by decide) rfl (by decide +kernel) rfl dX6_wish_59 ?_
        refine lv_iconst (v := 2) hx hb dX6_wish_62 (by decide) ?_
        refine lv_iload_n hx hb dX6_wish_63 rfl (lv_at hl 4 rfl) ?_
        obtain ⟨g9, h⟩ := zg_some h
        refine z_iast X hA hP hS 9 0 (by decide) (zcC_9 _ _ _ _) rfl g9 dX6_wish_64 (fun H locs hP hS => ?_)
        refine lv_iconst (v := 1) hx hb dX6_wish_65 (by decide) ?_
        exact z_iret X hP hS hr hlocks h dX6_wish_66
      · have h := zif_t h c6
        refine lv_bipush (v := -2) hx hb dX6_wish_32 (by decide) ?_
        exact z_iret X hP hS hr hlocks h dX6_wish_34
abbrev rmX5_goOn : Room := { frames := 1, cells := 0, slots := 0, locals := 21 }
set_option maxHeartbeats 4000000 in
set_option maxRecDepth 100000 in
theorem kX5_goOn {l : Launch} {D : va_G} {a : Nat → Nat} {cI cJ cC : ClassId} {adK adV : Nat → Nat} {x1 : Int32} {s τ : ZS} {r : Int32} (h : fX5_goOn x1 s = some (r, τ)) : zMi (zcC a cI cJ cC) 41 a D [(cI, .int), (cJ, .long)] (zEC adK adV) l yX5_goOn wsX5_goOn rmX5_goOn [.ref (a 22), .int x1] s r τ := by
  refine z_start (cc := cX5_goOn) (maxL := 5) (ret := (some .boolean)) RX5 rfl (by decide) rfl (Nat.le_of_ble_eq_true rfl) ?_
  intro p e st m args below meth c ls H locs X hr hlocks hA hE hP hS hl
  obtain ⟨hx, hb, hml, hown, hts, -⟩ := id X
  have hG := zEC_good adK adV
  have inX3 : ∀ w ∈ u_ws RX3 TX3 10, w ∈ wsX5_goOn := by decide +kernel
  have inX5 : ∀ w ∈ u_ws RX5 TX5 8, w ∈ wsX5_goOn := by decide +kernel
  have w58 : ∀  (n : Nat) (x1 : Int32) (x3 : Int32) (x4 : Int32) (s : ZS) (H : Heap) (locs : List Loc) (ls : Array Slot), fX5_goOn_58n  n (x1, x3, x4, s) = some (r, τ) → va_P D vwCl (zW (zcC a cI cJ cC) 41 a s) H → va_S (zF 41 a st.heap.size) st.heap H locs → lv_has ls 5 [(0, .ref (a 22)), (1, .int x1), (3, .int x3), (4, .int x4)] → W p l e rmX5_goOn st m args below meth c H locs 0 0 (MQ below (va_Qi (fun (r' : Int32) (τ' : ZS) => r' = r ∧ τ' = τ) (zPost (zcC a cI cJ cC) 41 a D [(cI, .int), (cJ, .long)]) (zF 41 a st.heap.size)) args st 0 0 (zF 41 a st.heap.size)) (F0 m 58 ls []) := by
    intro  n
    induction n with
    | zero => intro x1 x3 x4 s H locs ls h; exact zloop_0 h
    | succ n ih =>
      intro x1 x3 x4 s H locs ls h hP hS hl
      have h : fX5_goOn_58b  (fun x1 x3 x4 s => fX5_goOn_58n  n (x1, x3, x4, s)) x1 x3 x4 s = some (r, τ) := h
      refine lv_iload hx hb dX5_goOn_58 (lv_at hl 3 rfl) ?_
      refine lv_iload_n hx hb dX5_goOn_60 rfl (lv_at hl 1 rfl) ?_
      refine lv_icmp_ge (tgt := 88) hx hb dX5_goOn_61 (by decide) (fun c1 => ?_) (fun c1 => ?_)
      · have h := zif_t h c1
        refine lv_iconst (v := 1) hx hb dX5_goOn_88 (by decide) ?_
        exact z_zret X hP hS hr hlocks (by decide) h dX5_goOn_89
      · have h := zif_f h c1
        refine lv_iload hx hb dX5_goOn_64 (lv_at hl 3 rfl) ?_
        refine lv_aload_n hx hb dX5_goOn_66 rfl (lv_at hl 0 rfl) ?_
        refine z_get (C := RX5) (T := TX5) (N := 8) X inX5 hP 22 (by decide) (zcC_22 _ _ _ _ _ _) rfl 2 (by decide) rfl (by decide +kernel) rfl dX5_goOn_67 ?_
        refine z_alen (v := 4) X hP 23 0 (by decide) (zcC_23 _ _ _ _ _ _) rfl rfl dX5_goOn_70 ?_
        refine lv_icmp_ge (tgt := 88) hx hb dX5_goOn_71 (by decide) (fun c2 => ?_) (fun c2 => ?_)
        · have h := zif_t h c2
          refine lv_iconst (v := 1) hx hb dX5_goOn_88 (by decide) ?_
          exact z_zret X hP hS hr hlocks (by decide) h dX5_goOn_89
        · have h := zif_f h c2
          refine lv_aload_n hx hb dX5_goOn_74 rfl (lv_at hl 0 rfl) ?_
          refine z_get (C := RX5) (T := TX5) (N := 8) X inX5 hP 22 (by decide) (zcC_22 _ _ _ _ _ _) rfl 2 (by decide) rfl (by decide +kernel) rfl dX5_goOn_75 ?_
          refine lv_iload hx hb dX5_goOn_78 (lv_at hl 3 rfl) ?_
          refine lv_iload_n hx hb dX5_goOn_80 rfl (lv_at hl 2 rfl) ?_
          obtain ⟨g3, h⟩ := zg_some h
          refine z_iast X hA hP hS 23 0 (by decide) (zcC_23 _ _ _ _) rfl g3 dX5_goOn_81 (fun H locs hP hS => ?_)
          refine lv_iinc (v := (x4 + (1 : Int32))) (lv' := [(4, .int (x4 + (1 : Int32))), (0, .ref (a 22)), (1, .int x1), (3, .int x3)]) hx hb dX5_goOn_82 hl (k := 3) rfl rfl (by decide) rfl (fun ls hl => ?_)
          refine lv_goto (tgt := 58) hx hb dX5_goOn_85 (by decide) ?_
          exact ih (x1) (x3) ((x4 + (1 : Int32))) ((zI s 23 (x4).toNatClampNeg x3)) _ _ _ h hP hS (lv_sub hl [1, 2, 3, 0] rfl)
  have w40 : ∀  (x1 : Int32) (x2 : Int32) (s : ZS) (H : Heap) (locs : List Loc) (ls : Array Slot), fX5_goOn_40  x1 x2 s = some (r, τ) → va_P D vwCl (zW (zcC a cI cJ cC) 41 a s) H → va_S (zF 41 a st.heap.size) st.heap H locs → lv_has ls 5 [(0, .ref (a 22)), (1, .int x1), (2, .int x2)] → W p l e rmX5_goOn st m args below meth c H locs 0 0 (MQ below (va_Qi (fun (r' : Int32) (τ' : ZS) => r' = r ∧ τ' = τ) (zPost (zcC a cI cJ cC) 41 a D [(cI, .int), (cJ, .long)]) (zF 41 a st.heap.size)) args st 0 0 (zF 41 a st.heap.size)) (F0 m 40 ls []) := by
    intro  x1 x2 s H locs ls h hP hS hl
    refine lv_iload_n hx hb dX5_goOn_40 rfl (lv_at hl 2 rfl) ?_
    refine lv_if_ge (tgt := 46) hx hb dX5_goOn_41 (by decide) (fun c1 => ?_) (fun c1 => ?_)
    · have h := zif_t h c1
      refine lv_aload_n hx hb dX5_goOn_46 rfl (lv_at hl 0 rfl) ?_
      refine z_get (C := RX5) (T := TX5) (N := 8) X inX5 hP 22 (by decide) (zcC_22 _ _ _ _ _ _) rfl 2 (by decide) rfl (by decide +kernel) rfl dX5_goOn_47 ?_
      refine lv_iload_n hx hb dX5_goOn_50 rfl (lv_at hl 2 rfl) ?_
      obtain ⟨g2, h⟩ := zg_some h
      refine z_iald X hP 23 0 (by decide) (zcC_23 _ _ _ _ _ _) rfl g2 dX5_goOn_51 ?_
      refine lv_iconst (v := 1) hx hb dX5_goOn_52 (by decide) ?_
      refine lv_iadd hx hb dX5_goOn_53 ?_
      refine lv_istore_n (lv' := [(3, .int (((s).1 23 (x2).toNatClampNeg) + (1 : Int32))), (0, .ref (a 22)), (1, .int x1), (2, .int x2)]) hx hb dX5_goOn_54 rfl hl (by decide) rfl (fun ls hl => ?_)
      refine lv_iload_n hx hb dX5_goOn_55 rfl (lv_at hl 3 rfl) ?_
      refine lv_istore (lv' := [(4, .int x2), (3, .int (((s).1 23 (x2).toNatClampNeg) + (1 : Int32))), (0, .ref (a 22)), (1, .int x1), (2, .int x2)]) hx hb dX5_goOn_56 hl (by decide) rfl (fun ls hl => ?_)
      exact w58  zN (x1) ((((s).1 23 (x2).toNatClampNeg) + (1 : Int32))) (x2) (s) _ _ _ h hP hS (lv_sub hl [2, 3, 1, 0] rfl)
    · have h := zif_f h c1
      refine lv_iconst (v := 0) hx hb dX5_goOn_44 (by decide) ?_
      exact z_zret X hP hS hr hlocks (by decide) h dX5_goOn_45
  have w12 : ∀  (n : Nat) (x1 : Int32) (x2 : Int32) (s : ZS) (H : Heap) (locs : List Loc) (ls : Array Slot), fX5_goOn_12n  n (x1, x2, s) = some (r, τ) → va_P D vwCl (zW (zcC a cI cJ cC) 41 a s) H → va_S (zF 41 a st.heap.size) st.heap H locs → lv_has ls 5 [(0, .ref (a 22)), (1, .int x1), (2, .int x2)] → W p l e rmX5_goOn st m args below meth c H locs 0 0 (MQ below (va_Qi (fun (r' : Int32) (τ' : ZS) => r' = r ∧ τ' = τ) (zPost (zcC a cI cJ cC) 41 a D [(cI, .int), (cJ, .long)]) (zF 41 a st.heap.size)) args st 0 0 (zF 41 a st.heap.size)) (F0 m 12 ls []) := by
    intro  n
    induction n with
    | zero => intro x1 x2 s H locs ls h; exact zloop_0 h
    | succ n ih =>
      intro x1 x2 s H locs ls h hP hS hl
      have h : fX5_goOn_12b  (fun x1 x2 s => fX5_goOn_12n  n (x1, x2, s)) x1 x2 s = some (r, τ) := h
      refine lv_iload_n hx hb dX5_goOn_12 rfl (lv_at hl 2 rfl) ?_
      refine lv_if_lt (tgt := 40) hx hb dX5_goOn_13 (by decide) (fun c1 => ?_) (fun c1 => ?_)
      · have h := zif_t h c1
        exact w40   (x1) (x2) (s) _ _ _ h hP hS (lv_sub hl [0, 1, 2] rfl)
      · have h := zif_f h c1
        refine lv_aload_n hx hb dX5_goOn_16 rfl (lv_at hl 0 rfl) ?_
        refine z_get (C := RX5) (T := TX5) (N := 8) X inX5 hP 22 (by decide) (zcC_22 _ _ _ _ _ _) rfl 2 (by decide) rfl (by decide +kernel) rfl dX5_goOn_17 ?_
        refine lv_iload_n hx hb dX5_goOn_20 rfl (lv_at hl 2 rfl) ?_
        obtain ⟨g2, h⟩ := zg_some h
        refine z_iald X hP 23 0 (by decide) (zcC_23 _ _ _ _ _ _) rfl g2 dX5_goOn_21 ?_
        refine lv_aload_n hx hb dX5_goOn_22 rfl (lv_at hl 0 rfl) ?_
        refine z_get (C := RX5) (T := TX5) (N := 8) X inX5 hP 22 (by decide) (zcC_22 _ _ _ _ _ _) rfl 0 (by decide) rfl (by decide +kernel) rfl dX5_goOn_23 ?_
        refine z_get (C := RX3) (T := TX3) (N := 10) X inX3 hP 1 (by decide) (zcC_1 _ _ _ _ _ _) rfl 0 (by decide) rfl (by decide +kernel) rfl dX5_goOn_26 ?_
        refine lv_iconst (v := 1) hx hb dX5_goOn_29 (by decide) ?_
        refine lv_isub hx hb dX5_goOn_30 ?_
        refine lv_icmp_lt (tgt := 40) hx hb dX5_goOn_31 (by decide) (fun c3 => ?_) (fun c3 => ?_)
        · have h := zif_t h c3
          exact w40   (x1) (x2) (s) _ _ _ h hP hS (lv_sub hl [0, 1, 2] rfl)
        · have h := zif_f h c3
          refine lv_iinc (v := (x2 + (-1 : Int32))) (lv' := [(2, .int (x2 + (-1 : Int32))), (0, .ref (a 22)), (1, .int x1)]) hx hb dX5_goOn_34 hl (k := 2) rfl rfl (by decide) rfl (fun ls hl => ?_)
          refine lv_goto (tgt := 12) hx hb dX5_goOn_37 (by decide) ?_
          exact ih (x1) ((x2 + (-1 : Int32))) (s) _ _ _ h hP hS (lv_sub hl [1, 2, 0] rfl)
  have hl : lv_has ls 5 [(0, .ref (a 22)), (1, .int x1)] := hl
  refine lv_iload_n hx hb dX5_goOn_0 rfl (lv_at hl 1 rfl) ?_
  refine lv_aload_n hx hb dX5_goOn_1 rfl (lv_at hl 0 rfl) ?_
  refine z_get (C := RX5) (T := TX5) (N := 8) X inX5 hP 22 (by decide) (zcC_22 _ _ _ _ _ _) rfl 2 (by decide) rfl (by decide +kernel) rfl dX5_goOn_2 ?_
  refine z_alen (v := 4) X hP 23 0 (by decide) (zcC_23 _ _ _ _ _ _) rfl rfl dX5_goOn_5 ?_
  refine va_mmin hx hb (hml.trans hl.1.symm) hown (hts (.methodLink RX5 76 Lib.Math.min.name) (by decide +kernel)) (hts _ (by decide +kernel)) (hts _ (by decide +kernel)) (hts _ (by decide +kernel)) (Nat.le_of_ble_eq_true rfl) (Nat.le_of_ble_eq_true rfl) (Nat.zero_le _) (Nat.zero_le _) dX5_goOn_6 ?_
  refine lv_iconst (v := 1) hx hb dX5_goOn_9 (by decide) ?_
  refine lv_isub hx hb dX5_goOn_10 ?_
  refine lv_istore_n (lv' := [(2, .int ((if (4 : Int32) < x1 then (4 : Int32) else x1) - (1 : Int32))), (0, .ref (a 22)), (1, .int x1)]) hx hb dX5_goOn_11 rfl hl (by decide) rfl (fun ls hl => ?_)
  exact w12  zN (x1) (((if (4 : Int32) < x1 then (4 : Int32) else x1) - (1 : Int32))) (s) _ _ _ h hP hS (lv_sub hl [1, 2, 0] rfl)
abbrev rmX5_pileTried : Room := { frames := 2, cells := 0, slots := 0, locals := 43 }
set_option maxHeartbeats 4000000 in
set_option maxRecDepth 100000 in
theorem kX5_pileTried {l : Launch} {D : va_G} {a : Nat → Nat} {cI cJ cC : ClassId} {adK adV : Nat → Nat} {x1 : Int32} {s τ : ZS} {r : Unit} (h : fX5_pileTried x1 s = some (r, τ)) : zMv (zcC a cI cJ cC) 41 a D [(cI, .int), (cJ, .long)] (zEC adK adV) l yX5_pileTried wsX5_pileTried rmX5_pileTried [.ref (a 22), .int x1] s r τ := by
  refine z_start (cc := cX5_pileTried) (maxL := 3) (ret := none) RX5 rfl (by decide) rfl (Nat.le_of_ble_eq_true rfl) ?_
  intro p e st m args below meth c ls H locs X hr hlocks hA hE hP hS hl
  obtain ⟨hx, hb, hml, hown, hts, -⟩ := id X
  have hG := zEC_good adK adV
  have inX5 : ∀ w ∈ u_ws RX5 TX5 8, w ∈ wsX5_pileTried := by decide +kernel
  have w9 : ∀  (n : Nat) (x1 : Int32) (x2 : Int32) (s : ZS) (H : Heap) (locs : List Loc) (ls : Array Slot), fX5_pileTried_9n  n (x1, x2, s) = some (r, τ) → va_P D vwCl (zW (zcC a cI cJ cC) 41 a s) H → va_S (zF 41 a st.heap.size) st.heap H locs → lv_has ls 3 [(0, .ref (a 22)), (1, .int x1), (2, .int x2)] → W p l e rmX5_pileTried st m args below meth c H locs 0 0 (MQ below (va_Qv (fun (τ' : ZS) => τ' = τ) (zPost (zcC a cI cJ cC) 41 a D [(cI, .int), (cJ, .long)]) (zF 41 a st.heap.size)) args st 0 0 (zF 41 a st.heap.size)) (F0 m 9 ls []) := by
    intro  n
    induction n with
    | zero => intro x1 x2 s H locs ls h; exact zloop_0 h
    | succ n ih =>
      intro x1 x2 s H locs ls h hP hS hl
      have h : fX5_pileTried_9b  (fun x1 x2 s => fX5_pileTried_9n  n (x1, x2, s)) x1 x2 s = some (r, τ) := h
      refine lv_iload_n hx hb dX5_pileTried_9 rfl (lv_at hl 2 rfl) ?_
      refine lv_iload_n hx hb dX5_pileTried_10 rfl (lv_at hl 1 rfl) ?_
      refine lv_icmp_ge (tgt := 42) hx hb dX5_pileTried_11 (by decide) (fun c1 => ?_) (fun c1 => ?_)
      · have h := zif_t h c1
        exact z_vret X hP hS hr hlocks h dX5_pileTried_42
      · have h := zif_f h c1
        refine lv_iload_n hx hb dX5_pileTried_14 rfl (lv_at hl 2 rfl) ?_
        refine lv_aload_n hx hb dX5_pileTried_15 rfl (lv_at hl 0 rfl) ?_
        refine z_get (C := RX5) (T := TX5) (N := 8) X inX5 hP 22 (by decide) (zcC_22 _ _ _ _ _ _) rfl 2 (by decide) rfl (by decide +kernel) rfl dX5_pileTried_16 ?_
        refine z_alen (v := 4) X hP 23 0 (by decide) (zcC_23 _ _ _ _ _ _) rfl rfl dX5_pileTried_19 ?_
        refine lv_icmp_ge (tgt := 42) hx hb dX5_pileTried_20 (by decide) (fun c2 => ?_) (fun c2 => ?_)
        · have h := zif_t h c2
          exact z_vret X hP hS hr hlocks h dX5_pileTried_42
        · have h := zif_f h c2
          refine lv_aload_n hx hb dX5_pileTried_23 rfl (lv_at hl 0 rfl) ?_
          refine z_get (C := RX5) (T := TX5) (N := 8) X inX5 hP 22 (by decide) (zcC_22 _ _ _ _ _ _) rfl 1 (by decide) rfl (by decide +kernel) rfl dX5_pileTried_24 ?_
          refine lv_aload_n hx hb dX5_pileTried_27 rfl (lv_at hl 0 rfl) ?_
          refine z_get (C := RX5) (T := TX5) (N := 8) X inX5 hP 22 (by decide) (zcC_22 _ _ _ _ _ _) rfl 2 (by decide) rfl (by decide +kernel) rfl dX5_pileTried_28 ?_
          refine lv_iload_n hx hb dX5_pileTried_31 rfl (lv_at hl 2 rfl) ?_
          obtain ⟨g3, h⟩ := zg_some h
          refine z_iald X hP 23 0 (by decide) (zcC_23 _ _ _ _ _ _) rfl g3 dX5_pileTried_32 ?_
          obtain ⟨u4, s4, e4, h⟩ := zb_some h
          refine z_callv hS (z_runV (As := [.int ((s).1 23 (x2).toNatClampNeg)]) (rest := []) X hG hA hE hP hS 19 (kX0_add (l := l) (D := D) (a := a) (cI := cI) (cJ := cJ) (cC := cC) (adK := adK) (adV := adV) e4 _) (cwV 1 hts gX5_pileTried_X0_add rfl rfl rfl (by decide +kernel) ⟨Nat.le_of_ble_eq_true rfl, Nat.le_of_ble_eq_true rfl⟩) (by decide) (zcC_19 _ _ _ _ _ _) rfl rfl rfl hl.1 rfl (Nat.le_of_ble_eq_true rfl) dX5_pileTried_33) (fun H locs hP hS => ?_)
          refine lv_iinc (v := (x2 + (1 : Int32))) (lv' := [(2, .int (x2 + (1 : Int32))), (0, .ref (a 22)), (1, .int x1)]) hx hb dX5_pileTried_36 hl (k := 2) rfl rfl (by decide) rfl (fun ls hl => ?_)
          refine lv_goto (tgt := 9) hx hb dX5_pileTried_39 (by decide) ?_
          exact ih (x1) ((x2 + (1 : Int32))) (s4) _ _ _ h hP hS (lv_sub hl [1, 2, 0] rfl)
  have hl : lv_has ls 3 [(0, .ref (a 22)), (1, .int x1)] := hl
  refine lv_aload_n hx hb dX5_pileTried_0 rfl (lv_at hl 0 rfl) ?_
  refine z_get (C := RX5) (T := TX5) (N := 8) X inX5 hP 22 (by decide) (zcC_22 _ _ _ _ _ _) rfl 1 (by decide) rfl (by decide +kernel) rfl dX5_pileTried_1 ?_
  obtain ⟨u1, s1, e1, h⟩ := zb_some h
  refine z_callv hS (z_runV (As := []) (rest := []) X hG hA hE hP hS 19 (kX0_clear (l := l) (D := D) (a := a) (cI := cI) (cJ := cJ) (cC := cC) (adK := adK) (adV := adV) e1 _) (cwV 0 hts gX5_pileTried_X0_clear rfl rfl rfl (by decide +kernel) ⟨Nat.le_of_ble_eq_true rfl, Nat.le_of_ble_eq_true rfl⟩) (by decide) (zcC_19 _ _ _ _ _ _) rfl rfl rfl hl.1 rfl (Nat.le_of_ble_eq_true rfl) dX5_pileTried_4) (fun H locs hP hS => ?_)
  refine lv_iconst (v := 0) hx hb dX5_pileTried_7 (by decide) ?_
  refine lv_istore_n (lv' := [(2, .int (0 : Int32)), (0, .ref (a 22)), (1, .int x1)]) hx hb dX5_pileTried_8 rfl hl (by decide) rfl (fun ls hl => ?_)
  exact w9  zN (x1) ((0 : Int32)) (s1) _ _ _ h hP hS (lv_sub hl [1, 2, 0] rfl)
abbrev rmX5_isWished : Room := { frames := 3, cells := 0, slots := 0, locals := 71 }
set_option maxHeartbeats 4000000 in
set_option maxRecDepth 100000 in
theorem kX5_isWished {l : Launch} {D : va_G} {a : Nat → Nat} {cI cJ cC : ClassId} {adK adV : Nat → Nat} {x1 : Int32} {s τ : ZS} {r : Int32} (h : fX5_isWished x1 s = some (r, τ)) : zMi (zcC a cI cJ cC) 41 a D [(cI, .int), (cJ, .long)] (zEC adK adV) l yX5_isWished wsX5_isWished rmX5_isWished [.ref (a 22), .int x1] s r τ := by
  refine z_start (cc := cX5_isWished) (maxL := 3) (ret := (some .boolean)) RX5 rfl (by decide) rfl (Nat.le_of_ble_eq_true rfl) ?_
  intro p e st m args below meth c ls H locs X hr hlocks hA hE hP hS hl
  obtain ⟨hx, hb, hml, hown, hts, -⟩ := id X
  have hG := zEC_good adK adV
  have inX3 : ∀ w ∈ u_ws RX3 TX3 10, w ∈ wsX5_isWished := by decide +kernel
  have inX5 : ∀ w ∈ u_ws RX5 TX5 8, w ∈ wsX5_isWished := by decide +kernel
  have w2 : ∀  (n : Nat) (x1 : Int32) (x2 : Int32) (s : ZS) (H : Heap) (locs : List Loc) (ls : Array Slot), fX5_isWished_2n  n (x1, x2, s) = some (r, τ) → va_P D vwCl (zW (zcC a cI cJ cC) 41 a s) H → va_S (zF 41 a st.heap.size) st.heap H locs → lv_has ls 3 [(0, .ref (a 22)), (1, .int x1), (2, .int x2)] → W p l e rmX5_isWished st m args below meth c H locs 0 0 (MQ below (va_Qi (fun (r' : Int32) (τ' : ZS) => r' = r ∧ τ' = τ) (zPost (zcC a cI cJ cC) 41 a D [(cI, .int), (cJ, .long)]) (zF 41 a st.heap.size)) args st 0 0 (zF 41 a st.heap.size)) (F0 m 2 ls []) := by
    intro  n
    induction n with
    | zero => intro x1 x2 s H locs ls h; exact zloop_0 h
    | succ n ih =>
      intro x1 x2 s H locs ls h hP hS hl
      have h : fX5_isWished_2b  (fun x1 x2 s => fX5_isWished_2n  n (x1, x2, s)) x1 x2 s = some (r, τ) := h
      refine lv_iload_n hx hb dX5_isWished_2 rfl (lv_at hl 2 rfl) ?_
      refine lv_iconst (v := 3) hx hb dX5_isWished_3 (by decide) ?_
      refine lv_icmp_ge (tgt := 37) hx hb dX5_isWished_4 (by decide) (fun c1 => ?_) (fun c1 => ?_)
      · have h := zif_t h c1
        refine lv_iconst (v := 1) hx hb dX5_isWished_37 (by decide) ?_
        exact z_zret X hP hS hr hlocks (by decide) h dX5_isWished_38
      · have h := zif_f h c1
        refine lv_aload_n hx hb dX5_isWished_7 rfl (lv_at hl 0 rfl) ?_
        refine z_get (C := RX5) (T := TX5) (N := 8) X inX5 hP 22 (by decide) (zcC_22 _ _ _ _ _ _) rfl 1 (by decide) rfl (by decide +kernel) rfl dX5_isWished_8 ?_
        refine lv_iload_n hx hb dX5_isWished_11 rfl (lv_at hl 1 rfl) ?_
        refine lv_iconst (v := 0) hx hb dX5_isWished_12 (by decide) ?_
        refine lv_iload_n hx hb dX5_isWished_13 rfl (lv_at hl 2 rfl) ?_
        obtain ⟨u2, s2, e2, h⟩ := zb_some h
        refine z_calli hS (z_runV (As := [.int x1, .int (0 : Int32), .int x2]) (rest := []) X hG hA hE hP hS 19 (kX0_shadeOf (l := l) (D := D) (a := a) (cI := cI) (cJ := cJ) (cC := cC) (adK := adK) (adV := adV) e2 _) (cwV 3 hts gX5_isWished_X0_shadeOf rfl rfl rfl (by decide +kernel) ⟨Nat.le_of_ble_eq_true rfl, Nat.le_of_ble_eq_true rfl⟩) (by decide) (zcC_19 _ _ _ _ _ _) rfl rfl rfl hl.1 rfl (Nat.le_of_ble_eq_true rfl) dX5_isWished_14) (fun H locs hP hS => ?_)
        refine lv_aload_n hx hb dX5_isWished_17 rfl (lv_at hl 0 rfl) ?_
        refine z_get (C := RX5) (T := TX5) (N := 8) X inX5 hP 22 (by decide) (zcC_22 _ _ _ _ _ _) rfl 0 (by decide) rfl (by decide +kernel) rfl dX5_isWished_18 ?_
        refine z_get (C := RX3) (T := TX3) (N := 10) X inX3 hP 1 (by decide) (zcC_1 _ _ _ _ _ _) rfl 9 (by decide) rfl (by decide +kernel) rfl dX5_isWished_21 ?_
        refine lv_iload_n hx hb dX5_isWished_24 rfl (lv_at hl 2 rfl) ?_
        obtain ⟨g3, h⟩ := zg_some h
        refine z_iald X hP 9 0 (by decide) (zcC_9 _ _ _ _ _ _) rfl g3 dX5_isWished_25 ?_
        refine lv_icmp_eq (tgt := 31) hx hb dX5_isWished_26 (by decide) (fun c4 => ?_) (fun c4 => ?_)
        · have h := zif_t h c4
          refine lv_iinc (v := (x2 + (1 : Int32))) (lv' := [(2, .int (x2 + (1 : Int32))), (0, .ref (a 22)), (1, .int x1)]) hx hb dX5_isWished_31 hl (k := 2) rfl rfl (by decide) rfl (fun ls hl => ?_)
          refine lv_goto (tgt := 2) hx hb dX5_isWished_34 (by decide) ?_
          exact ih (x1) ((x2 + (1 : Int32))) (s2) _ _ _ h hP hS (lv_sub hl [1, 2, 0] rfl)
        · have h := zif_f h c4
          refine lv_iconst (v := 0) hx hb dX5_isWished_29 (by decide) ?_
          exact z_zret X hP hS hr hlocks (by decide) h dX5_isWished_30
  have hl : lv_has ls 3 [(0, .ref (a 22)), (1, .int x1)] := hl
  refine lv_iconst (v := 0) hx hb dX5_isWished_0 (by decide) ?_
  refine lv_istore_n (lv' := [(2, .int (0 : Int32)), (0, .ref (a 22)), (1, .int x1)]) hx hb dX5_isWished_1 rfl hl (by decide) rfl (fun ls hl => ?_)
  exact w2  zN (x1) ((0 : Int32)) (s) _ _ _ h hP hS (lv_sub hl [1, 2, 0] rfl)
abbrev rmX5_keep : Room := { frames := 0, cells := 0, slots := 0, locals := 0 }
set_option maxHeartbeats 4000000 in
set_option maxRecDepth 100000 in
theorem kX5_keep {l : Launch} {D : va_G} {a : Nat → Nat} {cI cJ cC : ClassId} {adK adV : Nat → Nat} {x1 : Int32} {x2 : Int32} {s τ : ZS} {r : Unit} (h : fX5_keep x1 x2 s = some (r, τ)) : zMv (zcC a cI cJ cC) 41 a D [(cI, .int), (cJ, .long)] (zEC adK adV) l yX5_keep wsX5_keep rmX5_keep [.ref (a 22), .int x1, .int x2] s r τ := by
  refine z_start (cc := cX5_keep) (maxL := 4) (ret := none) RX5 rfl (by decide) rfl (Nat.le_of_ble_eq_true rfl) ?_
  intro p e st m args below meth c ls H locs X hr hlocks hA hE hP hS hl
  obtain ⟨hx, hb, hml, hown, hts, -⟩ := id X
  have hG := zEC_good adK adV
  have inX5 : ∀ w ∈ u_ws RX5 TX5 8, w ∈ wsX5_keep := by decide +kernel
  have w34 : ∀  (x1 : Int32) (x2 : Int32) (s : ZS) (H : Heap) (locs : List Loc) (ls : Array Slot), fX5_keep_34  x1 x2 s = some (r, τ) → va_P D vwCl (zW (zcC a cI cJ cC) 41 a s) H → va_S (zF 41 a st.heap.size) st.heap H locs → lv_has ls 4 [(0, .ref (a 22)), (1, .int x1), (2, .int x2)] → W p l e rmX5_keep st m args below meth c H locs 0 0 (MQ below (va_Qv (fun (τ' : ZS) => τ' = τ) (zPost (zcC a cI cJ cC) 41 a D [(cI, .int), (cJ, .long)]) (zF 41 a st.heap.size)) args st 0 0 (zF 41 a st.heap.size)) (F0 m 34 ls []) := by
    intro  x1 x2 s H locs ls h hP hS hl
    refine lv_aload_n hx hb dX5_keep_34 rfl (lv_at hl 0 rfl) ?_
    refine lv_iload_n hx hb dX5_keep_35 rfl (lv_at hl 1 rfl) ?_
    refine z_put (ty := .int) (x := x1) (C := RX5) (T := TX5) (N := 8) X inX5 tyX5 tyX5_ok nmX5 hA hP hS 22 (by decide) (zcC_22 _ _ _ _ _ _) rfl 5 (by decide) rfl (by decide +kernel) rfl (by decide +kernel) rfl rfl (Nat.le_of_ble_eq_true rfl) rfl dX5_keep_36 (fun H locs hP hS => ?_)
    refine lv_aload_n hx hb dX5_keep_39 rfl (lv_at hl 0 rfl) ?_
    refine lv_iload_n hx hb dX5_keep_40 rfl (lv_at hl 2 rfl) ?_
    refine z_put (ty := .int) (x := x2) (C := RX5) (T := TX5) (N := 8) X inX5 tyX5 tyX5_ok nmX5 hA hP hS 22 (by decide) (zcC_22 _ _ _ _ _ _) rfl 6 (by decide) rfl (by decide +kernel) rfl (by decide +kernel) rfl rfl (Nat.le_of_ble_eq_true rfl) rfl dX5_keep_41 (fun H locs hP hS => ?_)
    exact z_vret X hP hS hr hlocks h dX5_keep_44
  have w2 : ∀  (n : Nat) (x1 : Int32) (x2 : Int32) (x3 : Int32) (s : ZS) (H : Heap) (locs : List Loc) (ls : Array Slot), fX5_keep_2n  n (x1, x2, x3, s) = some (r, τ) → va_P D vwCl (zW (zcC a cI cJ cC) 41 a s) H → va_S (zF 41 a st.heap.size) st.heap H locs → lv_has ls 4 [(0, .ref (a 22)), (1, .int x1), (2, .int x2), (3, .int x3)] → W p l e rmX5_keep st m args below meth c H locs 0 0 (MQ below (va_Qv (fun (τ' : ZS) => τ' = τ) (zPost (zcC a cI cJ cC) 41 a D [(cI, .int), (cJ, .long)]) (zF 41 a st.heap.size)) args st 0 0 (zF 41 a st.heap.size)) (F0 m 2 ls []) := by
    intro  n
    induction n with
    | zero => intro x1 x2 x3 s H locs ls h; exact zloop_0 h
    | succ n ih =>
      intro x1 x2 x3 s H locs ls h hP hS hl
      have h : fX5_keep_2b  (fun x1 x2 x3 s => fX5_keep_2n  n (x1, x2, x3, s)) x1 x2 x3 s = some (r, τ) := h
      refine lv_iload_n hx hb dX5_keep_2 rfl (lv_at hl 3 rfl) ?_
      refine lv_iload_n hx hb dX5_keep_3 rfl (lv_at hl 1 rfl) ?_
      refine lv_icmp_ge (tgt := 34) hx hb dX5_keep_4 (by decide) (fun c1 => ?_) (fun c1 => ?_)
      · have h := zif_t h c1
        exact w34   (x1) (x2) (s) _ _ _ h hP hS (lv_sub hl [0, 1, 2] rfl)
      · have h := zif_f h c1
        refine lv_iload_n hx hb dX5_keep_7 rfl (lv_at hl 3 rfl) ?_
        refine lv_aload_n hx hb dX5_keep_8 rfl (lv_at hl 0 rfl) ?_
        refine z_get (C := RX5) (T := TX5) (N := 8) X inX5 hP 22 (by decide) (zcC_22 _ _ _ _ _ _) rfl 3 (by decide) rfl (by decide +kernel) rfl dX5_keep_9 ?_
        refine z_alen (v := 4) X hP 24 0 (by decide) (zcC_24 _ _ _ _ _ _) rfl rfl dX5_keep_12 ?_
        refine lv_icmp_ge (tgt := 34) hx hb dX5_keep_13 (by decide) (fun c2 => ?_) (fun c2 => ?_)
        · have h := zif_t h c2
          exact w34   (x1) (x2) (s) _ _ _ h hP hS (lv_sub hl [0, 1, 2] rfl)
        · have h := zif_f h c2
          refine lv_aload_n hx hb dX5_keep_16 rfl (lv_at hl 0 rfl) ?_
          refine z_get (C := RX5) (T := TX5) (N := 8) X inX5 hP 22 (by decide) (zcC_22 _ _ _ _ _ _) rfl 3 (by decide) rfl (by decide +kernel) rfl dX5_keep_17 ?_
          refine lv_iload_n hx hb dX5_keep_20 rfl (lv_at hl 3 rfl) ?_
          refine lv_aload_n hx hb dX5_keep_21 rfl (lv_at hl 0 rfl) ?_
          refine z_get (C := RX5) (T := TX5) (N := 8) X inX5 hP 22 (by decide) (zcC_22 _ _ _ _ _ _) rfl 2 (by decide) rfl (by decide +kernel) rfl dX5_keep_22 ?_
          refine lv_iload_n hx hb dX5_keep_25 rfl (lv_at hl 3 rfl) ?_
          obtain ⟨g3, h⟩ := zg_some h
          refine z_iald X hP 23 0 (by decide) (zcC_23 _ _ _ _ _ _) rfl g3 dX5_keep_26 ?_
          obtain ⟨g4, h⟩ := zg_some h
          refine z_iast X hA hP hS 24 0 (by decide) (zcC_24 _ _ _ _) rfl g4 dX5_keep_27 (fun H locs hP hS => ?_)
          refine lv_iinc (v := (x3 + (1 : Int32))) (lv' := [(3, .int (x3 + (1 : Int32))), (0, .ref (a 22)), (1, .int x1), (2, .int x2)]) hx hb dX5_keep_28 hl (k := 3) rfl rfl (by decide) rfl (fun ls hl => ?_)
          refine lv_goto (tgt := 2) hx hb dX5_keep_31 (by decide) ?_
          exact ih (x1) (x2) ((x3 + (1 : Int32))) ((zI s 24 (x3).toNatClampNeg ((s).1 23 (x3).toNatClampNeg))) _ _ _ h hP hS (lv_sub hl [1, 2, 3, 0] rfl)
  have hl : lv_has ls 4 [(0, .ref (a 22)), (1, .int x1), (2, .int x2)] := hl
  refine lv_iconst (v := 0) hx hb dX5_keep_0 (by decide) ?_
  refine lv_istore_n (lv' := [(3, .int (0 : Int32)), (0, .ref (a 22)), (1, .int x1), (2, .int x2)]) hx hb dX5_keep_1 rfl hl (by decide) rfl (fun ls hl => ?_)
  exact w2  zN (x1) (x2) ((0 : Int32)) (s) _ _ _ h hP hS (lv_sub hl [1, 2, 3, 0] rfl)
