abbrev rmX6_get : Room := { frames := 4, cells := 0, slots := 0, locals := 86 }
set_option maxHeartbeats 4000000 in
set_option maxRecDepth 100000 in
theorem kX6_get {l : Launch} {D : va_G} {a : Nat → Nat} {cI cJ cC : ClassId} {adK adV : Nat → Nat} {x1 : Int32} {x2 : Int32} {s τ : ZS} {r : Int64} (h : fX6_get x1 x2 s = some (r, τ)) : zMl (zcC a cI cJ cC) 41 a D [(cI, .int), (cJ, .long)] (zEC adK adV) l yX6_get wsX6_get rmX6_get [.ref (a 0), .int x1, .int x2] s r τ := by
  refine z_start (cc := cX6_get) (maxL := 3) (ret := (some .long)) RX6 rfl (by decide) rfl (Nat.le_of_ble_eq_true rfl) ?_
  intro p e st m args below meth c ls H locs X hr hlocks hA hE hP hS hl
  obtain ⟨hx, hb, hml, hown, hts, -⟩ := id X
  have hG := zEC_good adK adV
  have inX6 : ∀ w ∈ u_ws RX6 TX6 12, w ∈ wsX6_get := by decide +kernel
  have hl : lv_has ls 3 [(0, .ref (a 0)), (1, .int x1), (2, .int x2)] := hl
  refine lv_iload_n hx hb dX6_get_0 rfl (lv_at hl 1 rfl) ?_
  refine lv_iconst (v := 4) hx hb dX6_get_1 (by decide) ?_
  obtain ⟨u1, s1, e1, h⟩ := zb_some h
  refine z_calli hS (z_runS (As := [.int x1, .int (4 : Int32)]) (rest := []) X hG hA hE hP hS (kX6_within (l := l) (D := D) (a := a) (cI := cI) (cJ := cJ) (cC := cC) (adK := adK) (adV := adV) e1 _) (va_cwS 2 hts gX6_get_X6_within rfl rfl rfl (by decide +kernel) ⟨Nat.le_of_ble_eq_true rfl, Nat.le_of_ble_eq_true rfl⟩) rfl hl.1 rfl (Nat.le_of_ble_eq_true rfl) dX6_get_2) (fun H locs hP hS => ?_)
  refine lv_if_eq (tgt := 33) hx hb dX6_get_5 (by decide) (fun c2 => ?_) (fun c2 => ?_)
  · have h := zif_t h c2
    refine lv_ldc2 (own := RX6) (index := 160) (v := -9223372036854775808) hx hb hown (hts _ (by decide +kernel)) dX6_get_33 ?_
    exact z_lret X hP hS hr hlocks h dX6_get_36
  · have h := zif_f h c2
    refine lv_aload_n hx hb dX6_get_8 rfl (lv_at hl 0 rfl) ?_
    refine z_get (C := RX6) (T := TX6) (N := 12) X inX6 hP 0 (by decide) (zcC_0 _ _ _ _ _ _) rfl 7 (by decide) rfl (by decide +kernel) rfl dX6_get_9 ?_
    refine lv_iload_n hx hb dX6_get_12 rfl (lv_at hl 1 rfl) ?_
    refine lv_iload_n hx hb dX6_get_13 rfl (lv_at hl 2 rfl) ?_
    obtain ⟨u3, s3, e3, h⟩ := zb_some h
    refine z_calli hS (z_runV (As := [.int x1, .int x2]) (rest := []) X hG hA hE hP hS 34 (kX1_hasPlace (l := l) (D := D) (a := a) (cI := cI) (cJ := cJ) (cC := cC) (adK := adK) (adV := adV) e3 _) (cwV 2 hts gX6_get_X1_hasPlace rfl rfl rfl (by decide +kernel) ⟨Nat.le_of_ble_eq_true rfl, Nat.le_of_ble_eq_true rfl⟩) (by decide) (zcC_34 _ _ _ _ _ _) rfl rfl rfl hl.1 rfl (Nat.le_of_ble_eq_true rfl) dX6_get_14) (fun H locs hP hS => ?_)
    refine lv_if_eq (tgt := 33) hx hb dX6_get_17 (by decide) (fun c4 => ?_) (fun c4 => ?_)
    · have h := zif_t h c4
      refine lv_ldc2 (own := RX6) (index := 160) (v := -9223372036854775808) hx hb hown (hts _ (by decide +kernel)) dX6_get_33 ?_
      exact z_lret X hP hS hr hlocks h dX6_get_36
    · have h := zif_f h c4
      refine lv_aload_n hx hb dX6_get_20 rfl (lv_at hl 0 rfl) ?_
      refine z_get (C := RX6) (T := TX6) (N := 12) X inX6 hP 0 (by decide) (zcC_0 _ _ _ _ _ _) rfl 7 (by decide) rfl (by decide +kernel) rfl dX6_get_21 ?_
      refine lv_iload_n hx hb dX6_get_24 rfl (lv_at hl 1 rfl) ?_
      refine lv_iload_n hx hb dX6_get_25 rfl (lv_at hl 2 rfl) ?_
      obtain ⟨u5, s5, e5, h⟩ := zb_some h
      refine z_calli hS (z_runV (As := [.int x1, .int x2]) (rest := []) X hG hA hE hP hS 34 (kX1_valueAt (l := l) (D := D) (a := a) (cI := cI) (cJ := cJ) (cC := cC) (adK := adK) (adV := adV) e5 _) (cwV 2 hts gX6_get_X1_valueAt rfl rfl rfl (by decide +kernel) ⟨Nat.le_of_ble_eq_true rfl, Nat.le_of_ble_eq_true rfl⟩) (by decide) (zcC_34 _ _ _ _ _ _) rfl rfl rfl hl.1 rfl (Nat.le_of_ble_eq_true rfl) dX6_get_26) (fun H locs hP hS => ?_)
      refine lv_i2l hx hb dX6_get_29 rfl ?_
      refine lv_goto (tgt := 36) hx hb dX6_get_30 (by decide) ?_
      exact z_lret X hP hS hr hlocks h dX6_get_36
abbrev rmX3_copyRow_2_11 : Room := { frames := 0, cells := 0, slots := 0, locals := 0 }
set_option maxHeartbeats 4000000 in
set_option maxRecDepth 100000 in
theorem kX3_copyRow_2_11 {l : Launch} {D : va_G} {a : Nat → Nat} {cI cJ cC : ClassId} {adK adV : Nat → Nat}  {s τ : ZS} {r : Unit} (h : fX3_copyRow_2_11  s = some (r, τ)) : zMv (zcC a cI cJ cC) 41 a D [(cI, .int), (cJ, .long)] (zEC adK adV) l yX3_copyRow wsX3_copyRow rmX3_copyRow_2_11 [.ref (a 2), .ref (a 11)] s r τ := by
  refine z_start (cc := cX3_copyRow) (maxL := 3) (ret := none) RX3 rfl (by decide) rfl (Nat.le_of_ble_eq_true rfl) ?_
  intro p e st m args below meth c ls H locs X hr hlocks hA hE hP hS hl
  obtain ⟨hx, hb, hml, hown, hts, -⟩ := id X
  have hG := zEC_good adK adV
  have w2 : ∀  (n : Nat) (x2 : Int32) (s : ZS) (H : Heap) (locs : List Loc) (ls : Array Slot), fX3_copyRow_2_11_2n  n (x2, s) = some (r, τ) → va_P D vwCl (zW (zcC a cI cJ cC) 41 a s) H → va_S (zF 41 a st.heap.size) st.heap H locs → lv_has ls 3 [(0, .ref (a 2)), (1, .ref (a 11)), (2, .int x2)] → W p l e rmX3_copyRow_2_11 st m args below meth c H locs 0 0 (MQ below (va_Qv (fun (τ' : ZS) => τ' = τ) (zPost (zcC a cI cJ cC) 41 a D [(cI, .int), (cJ, .long)]) (zF 41 a st.heap.size)) args st 0 0 (zF 41 a st.heap.size)) (F0 m 2 ls []) := by
    intro  n
    induction n with
    | zero => intro x2 s H locs ls h; exact zloop_0 h
    | succ n ih =>
      intro x2 s H locs ls h hP hS hl
      have h : fX3_copyRow_2_11_2b  (fun x2 s => fX3_copyRow_2_11_2n  n (x2, s)) x2 s = some (r, τ) := h
      refine lv_iload_n hx hb dX3_copyRow_2 rfl (lv_at hl 2 rfl) ?_
      refine lv_aload_n hx hb dX3_copyRow_3 rfl (lv_at hl 0 rfl) ?_
      refine z_alen (v := 8) X hP 2 0 (by decide) (zcC_2 _ _ _ _ _ _) rfl rfl dX3_copyRow_4 ?_
      refine lv_icmp_ge (tgt := 26) hx hb dX3_copyRow_5 (by decide) (fun c1 => ?_) (fun c1 => ?_)
      · have h := zif_t h c1
        exact z_vret X hP hS hr hlocks h dX3_copyRow_26
      · have h := zif_f h c1
        refine lv_iload_n hx hb dX3_copyRow_8 rfl (lv_at hl 2 rfl) ?_
        refine lv_aload_n hx hb dX3_copyRow_9 rfl (lv_at hl 1 rfl) ?_
        refine z_alen (v := 8) X hP 11 0 (by decide) (zcC_11 _ _ _ _ _ _) rfl rfl dX3_copyRow_10 ?_
        refine lv_icmp_ge (tgt := 26) hx hb dX3_copyRow_11 (by decide) (fun c2 => ?_) (fun c2 => ?_)
        · have h := zif_t h c2
          exact z_vret X hP hS hr hlocks h dX3_copyRow_26
        · have h := zif_f h c2
          refine lv_aload_n hx hb dX3_copyRow_14 rfl (lv_at hl 1 rfl) ?_
          refine lv_iload_n hx hb dX3_copyRow_15 rfl (lv_at hl 2 rfl) ?_
          refine lv_aload_n hx hb dX3_copyRow_16 rfl (lv_at hl 0 rfl) ?_
          refine lv_iload_n hx hb dX3_copyRow_17 rfl (lv_at hl 2 rfl) ?_
          obtain ⟨g3, h⟩ := zg_some h
          refine z_iald X hP 2 0 (by decide) (zcC_2 _ _ _ _ _ _) rfl g3 dX3_copyRow_18 ?_
          obtain ⟨g4, h⟩ := zg_some h
          refine z_iast X hA hP hS 11 0 (by decide) (zcC_11 _ _ _ _) rfl g4 dX3_copyRow_19 (fun H locs hP hS => ?_)
          refine lv_iinc (v := (x2 + (1 : Int32))) (lv' := [(2, .int (x2 + (1 : Int32))), (0, .ref (a 2)), (1, .ref (a 11))]) hx hb dX3_copyRow_20 hl (k := 2) rfl rfl (by decide) rfl (fun ls hl => ?_)
          refine lv_goto (tgt := 2) hx hb dX3_copyRow_23 (by decide) ?_
          exact ih ((x2 + (1 : Int32))) ((zI s 11 (x2).toNatClampNeg ((s).1 2 (x2).toNatClampNeg))) _ _ _ h hP hS (lv_sub hl [1, 2, 0] rfl)
  have hl : lv_has ls 3 [(0, .ref (a 2)), (1, .ref (a 11))] := hl
  refine lv_iconst (v := 0) hx hb dX3_copyRow_0 (by decide) ?_
  refine lv_istore_n (lv' := [(2, .int (0 : Int32)), (0, .ref (a 2)), (1, .ref (a 11))]) hx hb dX3_copyRow_1 rfl hl (by decide) rfl (fun ls hl => ?_)
  exact w2  zN ((0 : Int32)) (s) _ _ _ h hP hS (lv_sub hl [1, 2, 0] rfl)
abbrev rmX3_copyRow_3_12 : Room := { frames := 0, cells := 0, slots := 0, locals := 0 }
set_option maxHeartbeats 4000000 in
set_option maxRecDepth 100000 in
theorem kX3_copyRow_3_12 {l : Launch} {D : va_G} {a : Nat → Nat} {cI cJ cC : ClassId} {adK adV : Nat → Nat}  {s τ : ZS} {r : Unit} (h : fX3_copyRow_3_12  s = some (r, τ)) : zMv (zcC a cI cJ cC) 41 a D [(cI, .int), (cJ, .long)] (zEC adK adV) l yX3_copyRow wsX3_copyRow rmX3_copyRow_3_12 [.ref (a 3), .ref (a 12)] s r τ := by
  refine z_start (cc := cX3_copyRow) (maxL := 3) (ret := none) RX3 rfl (by decide) rfl (Nat.le_of_ble_eq_true rfl) ?_
  intro p e st m args below meth c ls H locs X hr hlocks hA hE hP hS hl
  obtain ⟨hx, hb, hml, hown, hts, -⟩ := id X
  have hG := zEC_good adK adV
  have w2 : ∀  (n : Nat) (x2 : Int32) (s : ZS) (H : Heap) (locs : List Loc) (ls : Array Slot), fX3_copyRow_3_12_2n  n (x2, s) = some (r, τ) → va_P D vwCl (zW (zcC a cI cJ cC) 41 a s) H → va_S (zF 41 a st.heap.size) st.heap H locs → lv_has ls 3 [(0, .ref (a 3)), (1, .ref (a 12)), (2, .int x2)] → W p l e rmX3_copyRow_3_12 st m args below meth c H locs 0 0 (MQ below (va_Qv (fun (τ' : ZS) => τ' = τ) (zPost (zcC a cI cJ cC) 41 a D [(cI, .int), (cJ, .long)]) (zF 41 a st.heap.size)) args st 0 0 (zF 41 a st.heap.size)) (F0 m 2 ls []) := by
    intro  n
    induction n with
    | zero => intro x2 s H locs ls h; exact zloop_0 h
    | succ n ih =>
      intro x2 s H locs ls h hP hS hl
      have h : fX3_copyRow_3_12_2b  (fun x2 s => fX3_copyRow_3_12_2n  n (x2, s)) x2 s = some (r, τ) := h
      refine lv_iload_n hx hb dX3_copyRow_2 rfl (lv_at hl 2 rfl) ?_
      refine lv_aload_n hx hb dX3_copyRow_3 rfl (lv_at hl 0 rfl) ?_
      refine z_alen (v := 8) X hP 3 0 (by decide) (zcC_3 _ _ _ _ _ _) rfl rfl dX3_copyRow_4 ?_
      refine lv_icmp_ge (tgt := 26) hx hb dX3_copyRow_5 (by decide) (fun c1 => ?_) (fun c1 => ?_)
      · have h := zif_t h c1
        exact z_vret X hP hS hr hlocks h dX3_copyRow_26
      · have h := zif_f h c1
        refine lv_iload_n hx hb dX3_copyRow_8 rfl (lv_at hl 2 rfl) ?_
        refine lv_aload_n hx hb dX3_copyRow_9 rfl (lv_at hl 1 rfl) ?_
        refine z_alen (v := 8) X hP 12 0 (by decide) (zcC_12 _ _ _ _ _ _) rfl rfl dX3_copyRow_10 ?_
        refine lv_icmp_ge (tgt := 26) hx hb dX3_copyRow_11 (by decide) (fun c2 => ?_) (fun c2 => ?_)
        · have h := zif_t h c2
          exact z_vret X hP hS hr hlocks h dX3_copyRow_26
        · have h := zif_f h c2
          refine lv_aload_n hx hb dX3_copyRow_14 rfl (lv_at hl 1 rfl) ?_
          refine lv_iload_n hx hb dX3_copyRow_15 rfl (lv_at hl 2 rfl) ?_
          refine lv_aload_n hx hb dX3_copyRow_16 rfl (lv_at hl 0 rfl) ?_
          refine lv_iload_n hx hb dX3_copyRow_17 rfl (lv_at hl 2 rfl) ?_
          obtain ⟨g3, h⟩ := zg_some h
          refine z_iald X hP 3 0 (by decide) (zcC_3 _ _ _ _ _ _) rfl g3 dX3_copyRow_18 ?_
          obtain ⟨g4, h⟩ := zg_some h
          refine z_iast X hA hP hS 12 0 (by decide) (zcC_12 _ _ _ _) rfl g4 dX3_copyRow_19 (fun H locs hP hS => ?_)
          refine lv_iinc (v := (x2 + (1 : Int32))) (lv' := [(2, .int (x2 + (1 : Int32))), (0, .ref (a 3)), (1, .ref (a 12))]) hx hb dX3_copyRow_20 hl (k := 2) rfl rfl (by decide) rfl (fun ls hl => ?_)
          refine lv_goto (tgt := 2) hx hb dX3_copyRow_23 (by decide) ?_
          exact ih ((x2 + (1 : Int32))) ((zI s 12 (x2).toNatClampNeg ((s).1 3 (x2).toNatClampNeg))) _ _ _ h hP hS (lv_sub hl [1, 2, 0] rfl)
  have hl : lv_has ls 3 [(0, .ref (a 3)), (1, .ref (a 12))] := hl
  refine lv_iconst (v := 0) hx hb dX3_copyRow_0 (by decide) ?_
  refine lv_istore_n (lv' := [(2, .int (0 : Int32)), (0, .ref (a 3)), (1, .ref (a 12))]) hx hb dX3_copyRow_1 rfl hl (by decide) rfl (fun ls hl => ?_)
  exact w2  zN ((0 : Int32)) (s) _ _ _ h hP hS (lv_sub hl [1, 2, 0] rfl)
abbrev rmX3_copyRow_4_13 : Room := { frames := 0, cells := 0, slots := 0, locals := 0 }
set_option maxHeartbeats 4000000 in
set_option maxRecDepth 100000 in
theorem kX3_copyRow_4_13 {l : Launch} {D : va_G} {a : Nat → Nat} {cI cJ cC : ClassId} {adK adV : Nat → Nat}  {s τ : ZS} {r : Unit} (h : fX3_copyRow_4_13  s = some (r, τ)) : zMv (zcC a cI cJ cC) 41 a D [(cI, .int), (cJ, .long)] (zEC adK adV) l yX3_copyRow wsX3_copyRow rmX3_copyRow_4_13 [.ref (a 4), .ref (a 13)] s r τ := by
  refine z_start (cc := cX3_copyRow) (maxL := 3) (ret := none) RX3 rfl (by decide) rfl (Nat.le_of_ble_eq_true rfl) ?_
  intro p e st m args below meth c ls H locs X hr hlocks hA hE hP hS hl
  obtain ⟨hx, hb, hml, hown, hts, -⟩ := id X
  have hG := zEC_good adK adV
  have w2 : ∀  (n : Nat) (x2 : Int32) (s : ZS) (H : Heap) (locs : List Loc) (ls : Array Slot), fX3_copyRow_4_13_2n  n (x2, s) = some (r, τ) → va_P D vwCl (zW (zcC a cI cJ cC) 41 a s) H → va_S (zF 41 a st.heap.size) st.heap H locs → lv_has ls 3 [(0, .ref (a 4)), (1, .ref (a 13)), (2, .int x2)] → W p l e rmX3_copyRow_4_13 st m args below meth c H locs 0 0 (MQ below (va_Qv (fun (τ' : ZS) => τ' = τ) (zPost (zcC a cI cJ cC) 41 a D [(cI, .int), (cJ, .long)]) (zF 41 a st.heap.size)) args st 0 0 (zF 41 a st.heap.size)) (F0 m 2 ls []) := by
    intro  n
    induction n with
    | zero => intro x2 s H locs ls h; exact zloop_0 h
    | succ n ih =>
      intro x2 s H locs ls h hP hS hl
      have h : fX3_copyRow_4_13_2b  (fun x2 s => fX3_copyRow_4_13_2n  n (x2, s)) x2 s = some (r, τ) := h
      refine lv_iload_n hx hb dX3_copyRow_2 rfl (lv_at hl 2 rfl) ?_
      refine lv_aload_n hx hb dX3_copyRow_3 rfl (lv_at hl 0 rfl) ?_
      refine z_alen (v := 40) X hP 4 0 (by decide) (zcC_4 _ _ _ _ _ _) rfl rfl dX3_copyRow_4 ?_
      refine lv_icmp_ge (tgt := 26) hx hb dX3_copyRow_5 (by decide) (fun c1 => ?_) (fun c1 => ?_)
      · have h := zif_t h c1
        exact z_vret X hP hS hr hlocks h dX3_copyRow_26
      · have h := zif_f h c1
        refine lv_iload_n hx hb dX3_copyRow_8 rfl (lv_at hl 2 rfl) ?_
        refine lv_aload_n hx hb dX3_copyRow_9 rfl (lv_at hl 1 rfl) ?_
        refine z_alen (v := 40) X hP 13 0 (by decide) (zcC_13 _ _ _ _ _ _) rfl rfl dX3_copyRow_10 ?_
        refine lv_icmp_ge (tgt := 26) hx hb dX3_copyRow_11 (by decide) (fun c2 => ?_) (fun c2 => ?_)
        · have h := zif_t h c2
          exact z_vret X hP hS hr hlocks h dX3_copyRow_26
        · have h := zif_f h c2
          refine lv_aload_n hx hb dX3_copyRow_14 rfl (lv_at hl 1 rfl) ?_
          refine lv_iload_n hx hb dX3_copyRow_15 rfl (lv_at hl 2 rfl) ?_
          refine lv_aload_n hx hb dX3_copyRow_16 rfl (lv_at hl 0 rfl) ?_
          refine lv_iload_n hx hb dX3_copyRow_17 rfl (lv_at hl 2 rfl) ?_
          obtain ⟨g3, h⟩ := zg_some h
          refine z_iald X hP 4 0 (by decide) (zcC_4 _ _ _ _ _ _) rfl g3 dX3_copyRow_18 ?_
          obtain ⟨g4, h⟩ := zg_some h
          refine z_iast X hA hP hS 13 0 (by decide) (zcC_13 _ _ _ _) rfl g4 dX3_copyRow_19 (fun H locs hP hS => ?_)
          refine lv_iinc (v := (x2 + (1 : Int32))) (lv' := [(2, .int (x2 + (1 : Int32))), (0, .ref (a 4)), (1, .ref (a 13))]) hx hb dX3_copyRow_20 hl (k := 2) rfl rfl (by decide) rfl (fun ls hl => ?_)
          refine lv_goto (tgt := 2) hx hb dX3_copyRow_23 (by decide) ?_
          exact ih ((x2 + (1 : Int32))) ((zI s 13 (x2).toNatClampNeg ((s).1 4 (x2).toNatClampNeg))) _ _ _ h hP hS (lv_sub hl [1, 2, 0] rfl)
  have hl : lv_has ls 3 [(0, .ref (a 4)), (1, .ref (a 13))] := hl
  refine lv_iconst (v := 0) hx hb dX3_copyRow_0 (by decide) ?_
  refine lv_istore_n (lv' := [(2, .int (0 : Int32)), (0, .ref (a 4)), (1, .ref (a 13))]) hx hb dX3_copyRow_1 rfl hl (by decide) rfl (fun ls hl => ?_)
  exact w2  zN ((0 : Int32)) (s) _ _ _ h hP hS (lv_sub hl [1, 2, 0] rfl)
abbrev rmX3_copyRow_5_14 : Room := { frames := 0, cells := 0, slots := 0, locals := 0 }
set_option maxHeartbeats 4000000 in
set_option maxRecDepth 100000 in
theorem kX3_copyRow_5_14 {l : Launch} {D : va_G} {a : Nat → Nat} {cI cJ cC : ClassId} {adK adV : Nat → Nat}  {s τ : ZS} {r : Unit} (h : fX3_copyRow_5_14  s = some (r, τ)) : zMv (zcC a cI cJ cC) 41 a D [(cI, .int), (cJ, .long)] (zEC adK adV) l yX3_copyRow wsX3_copyRow rmX3_copyRow_5_14 [.ref (a 5), .ref (a 14)] s r τ := by
  refine z_start (cc := cX3_copyRow) (maxL := 3) (ret := none) RX3 rfl (by decide) rfl (Nat.le_of_ble_eq_true rfl) ?_
  intro p e st m args below meth c ls H locs X hr hlocks hA hE hP hS hl
  obtain ⟨hx, hb, hml, hown, hts, -⟩ := id X
  have hG := zEC_good adK adV
  have w2 : ∀  (n : Nat) (x2 : Int32) (s : ZS) (H : Heap) (locs : List Loc) (ls : Array Slot), fX3_copyRow_5_14_2n  n (x2, s) = some (r, τ) → va_P D vwCl (zW (zcC a cI cJ cC) 41 a s) H → va_S (zF 41 a st.heap.size) st.heap H locs → lv_has ls 3 [(0, .ref (a 5)), (1, .ref (a 14)), (2, .int x2)] → W p l e rmX3_copyRow_5_14 st m args below meth c H locs 0 0 (MQ below (va_Qv (fun (τ' : ZS) => τ' = τ) (zPost (zcC a cI cJ cC) 41 a D [(cI, .int), (cJ, .long)]) (zF 41 a st.heap.size)) args st 0 0 (zF 41 a st.heap.size)) (F0 m 2 ls []) := by
    intro  n
    induction n with
    | zero => intro x2 s H locs ls h; exact zloop_0 h
    | succ n ih =>
      intro x2 s H locs ls h hP hS hl
      have h : fX3_copyRow_5_14_2b  (fun x2 s => fX3_copyRow_5_14_2n  n (x2, s)) x2 s = some (r, τ) := h
      refine lv_iload_n hx hb dX3_copyRow_2 rfl (lv_at hl 2 rfl) ?_
      refine lv_aload_n hx hb dX3_copyRow_3 rfl (lv_at hl 0 rfl) ?_
      refine z_alen (v := 6) X hP 5 0 (by decide) (zcC_5 _ _ _ _ _ _) rfl rfl dX3_copyRow_4 ?_
      refine lv_icmp_ge (tgt := 26) hx hb dX3_copyRow_5 (by decide) (fun c1 => ?_) (fun c1 => ?_)
      · have h := zif_t h c1
        exact z_vret X hP hS hr hlocks h dX3_copyRow_26
      · have h := zif_f h c1
        refine lv_iload_n hx hb dX3_copyRow_8 rfl (lv_at hl 2 rfl) ?_
        refine lv_aload_n hx hb dX3_copyRow_9 rfl (lv_at hl 1 rfl) ?_
        refine z_alen (v := 6) X hP 14 0 (by decide) (zcC_14 _ _ _ _ _ _) rfl rfl dX3_copyRow_10 ?_
        refine lv_icmp_ge (tgt := 26) hx hb dX3_copyRow_11 (by decide) (fun c2 => ?_) (fun c2 => ?_)
        · have h := zif_t h c2
          exact z_vret X hP hS hr hlocks h dX3_copyRow_26
        · have h := zif_f h c2
          refine lv_aload_n hx hb dX3_copyRow_14 rfl (lv_at hl 1 rfl) ?_
          refine lv_iload_n hx hb dX3_copyRow_15 rfl (lv_at hl 2 rfl) ?_
          refine lv_aload_n hx hb dX3_copyRow_16 rfl (lv_at hl 0 rfl) ?_
          refine lv_iload_n hx hb dX3_copyRow_17 rfl (lv_at hl 2 rfl) ?_
          obtain ⟨g3, h⟩ := zg_some h
          refine z_iald X hP 5 0 (by decide) (zcC_5 _ _ _ _ _ _) rfl g3 dX3_copyRow_18 ?_
          obtain ⟨g4, h⟩ := zg_some h
          refine z_iast X hA hP hS 14 0 (by decide) (zcC_14 _ _ _ _) rfl g4 dX3_copyRow_19 (fun H locs hP hS => ?_)
          refine lv_iinc (v := (x2 + (1 : Int32))) (lv' := [(2, .int (x2 + (1 : Int32))), (0, .ref (a 5)), (1, .ref (a 14))]) hx hb dX3_copyRow_20 hl (k := 2) rfl rfl (by decide) rfl (fun ls hl => ?_)
          refine lv_goto (tgt := 2) hx hb dX3_copyRow_23 (by decide) ?_
          exact ih ((x2 + (1 : Int32))) ((zI s 14 (x2).toNatClampNeg ((s).1 5 (x2).toNatClampNeg))) _ _ _ h hP hS (lv_sub hl [1, 2, 0] rfl)
  have hl : lv_has ls 3 [(0, .ref (a 5)), (1, .ref (a 14))] := hl
  refine lv_iconst (v := 0) hx hb dX3_copyRow_0 (by decide) ?_
  refine lv_istore_n (lv' := [(2, .int (0 : Int32)), (0, .ref (a 5)), (1, .ref (a 14))]) hx hb dX3_copyRow_1 rfl hl (by decide) rfl (fun ls hl => ?_)
  exact w2  zN ((0 : Int32)) (s) _ _ _ h hP hS (lv_sub hl [1, 2, 0] rfl)
abbrev rmX3_copyRow_6_15 : Room := { frames := 0, cells := 0, slots := 0, locals := 0 }
set_option maxHeartbeats 4000000 in
set_option maxRecDepth 100000 in
theorem kX3_copyRow_6_15 {l : Launch} {D : va_G} {a : Nat → Nat} {cI cJ cC : ClassId} {adK adV : Nat → Nat}  {s τ : ZS} {r : Unit} (h : fX3_copyRow_6_15  s = some (r, τ)) : zMv (zcC a cI cJ cC) 41 a D [(cI, .int), (cJ, .long)] (zEC adK adV) l yX3_copyRow wsX3_copyRow rmX3_copyRow_6_15 [.ref (a 6), .ref (a 15)] s r τ := by
  refine z_start (cc := cX3_copyRow) (maxL := 3) (ret := none) RX3 rfl (by decide) rfl (Nat.le_of_ble_eq_true rfl) ?_
  intro p e st m args below meth c ls H locs X hr hlocks hA hE hP hS hl
  obtain ⟨hx, hb, hml, hown, hts, -⟩ := id X
  have hG := zEC_good adK adV
  have w2 : ∀  (n : Nat) (x2 : Int32) (s : ZS) (H : Heap) (locs : List Loc) (ls : Array Slot), fX3_copyRow_6_15_2n  n (x2, s) = some (r, τ) → va_P D vwCl (zW (zcC a cI cJ cC) 41 a s) H → va_S (zF 41 a st.heap.size) st.heap H locs → lv_has ls 3 [(0, .ref (a 6)), (1, .ref (a 15)), (2, .int x2)] → W p l e rmX3_copyRow_6_15 st m args below meth c H locs 0 0 (MQ below (va_Qv (fun (τ' : ZS) => τ' = τ) (zPost (zcC a cI cJ cC) 41 a D [(cI, .int), (cJ, .long)]) (zF 41 a st.heap.size)) args st 0 0 (zF 41 a st.heap.size)) (F0 m 2 ls []) := by
    intro  n
    induction n with
    | zero => intro x2 s H locs ls h; exact zloop_0 h
    | succ n ih =>
      intro x2 s H locs ls h hP hS hl
      have h : fX3_copyRow_6_15_2b  (fun x2 s => fX3_copyRow_6_15_2n  n (x2, s)) x2 s = some (r, τ) := h
      refine lv_iload_n hx hb dX3_copyRow_2 rfl (lv_at hl 2 rfl) ?_
      refine lv_aload_n hx hb dX3_copyRow_3 rfl (lv_at hl 0 rfl) ?_
      refine z_alen (v := 36) X hP 6 0 (by decide) (zcC_6 _ _ _ _ _ _) rfl rfl dX3_copyRow_4 ?_
      refine lv_icmp_ge (tgt := 26) hx hb dX3_copyRow_5 (by decide) (fun c1 => ?_) (fun c1 => ?_)
      · have h := zif_t h c1
        exact z_vret X hP hS hr hlocks h dX3_copyRow_26
      · have h := zif_f h c1
        refine lv_iload_n hx hb dX3_copyRow_8 rfl (lv_at hl 2 rfl) ?_
        refine lv_aload_n hx hb dX3_copyRow_9 rfl (lv_at hl 1 rfl) ?_
        refine z_alen (v := 36) X hP 15 0 (by decide) (zcC_15 _ _ _ _ _ _) rfl rfl dX3_copyRow_10 ?_
        refine lv_icmp_ge (tgt := 26) hx hb dX3_copyRow_11 (by decide) (fun c2 => ?_) (fun c2 => ?_)
        · have h := zif_t h c2
          exact z_vret X hP hS hr hlocks h dX3_copyRow_26
        · have h := zif_f h c2
          refine lv_aload_n hx hb dX3_copyRow_14 rfl (lv_at hl 1 rfl) ?_
          refine lv_iload_n hx hb dX3_copyRow_15 rfl (lv_at hl 2 rfl) ?_
          refine lv_aload_n hx hb dX3_copyRow_16 rfl (lv_at hl 0 rfl) ?_
          refine lv_iload_n hx hb dX3_copyRow_17 rfl (lv_at hl 2 rfl) ?_
          obtain ⟨g3, h⟩ := zg_some h
          refine z_iald X hP 6 0 (by decide) (zcC_6 _ _ _ _ _ _) rfl g3 dX3_copyRow_18 ?_
          obtain ⟨g4, h⟩ := zg_some h
          refine z_iast X hA hP hS 15 0 (by decide) (zcC_15 _ _ _ _) rfl g4 dX3_copyRow_19 (fun H locs hP hS => ?_)
          refine lv_iinc (v := (x2 + (1 : Int32))) (lv' := [(2, .int (x2 + (1 : Int32))), (0, .ref (a 6)), (1, .ref (a 15))]) hx hb dX3_copyRow_20 hl (k := 2) rfl rfl (by decide) rfl (fun ls hl => ?_)
          refine lv_goto (tgt := 2) hx hb dX3_copyRow_23 (by decide) ?_
          exact ih ((x2 + (1 : Int32))) ((zI s 15 (x2).toNatClampNeg ((s).1 6 (x2).toNatClampNeg))) _ _ _ h hP hS (lv_sub hl [1, 2, 0] rfl)
  have hl : lv_has ls 3 [(0, .ref (a 6)), (1, .ref (a 15))] := hl
  refine lv_iconst (v := 0) hx hb dX3_copyRow_0 (by decide) ?_
  refine lv_istore_n (lv' := [(2, .int (0 : Int32)), (0, .ref (a 6)), (1, .ref (a 15))]) hx hb dX3_copyRow_1 rfl hl (by decide) rfl (fun ls hl => ?_)
  exact w2  zN ((0 : Int32)) (s) _ _ _ h hP hS (lv_sub hl [1, 2, 0] rfl)
abbrev rmX3_copyRow_7_16 : Room := { frames := 0, cells := 0, slots := 0, locals := 0 }
set_option maxHeartbeats 4000000 in
set_option maxRecDepth 100000 in
theorem kX3_copyRow_7_16 {l : Launch} {D : va_G} {a : Nat → Nat} {cI cJ cC : ClassId} {adK adV : Nat → Nat}  {s τ : ZS} {r : Unit} (h : fX3_copyRow_7_16  s = some (r, τ)) : zMv (zcC a cI cJ cC) 41 a D [(cI, .int), (cJ, .long)] (zEC adK adV) l yX3_copyRow wsX3_copyRow rmX3_copyRow_7_16 [.ref (a 7), .ref (a 16)] s r τ := by
  refine z_start (cc := cX3_copyRow) (maxL := 3) (ret := none) RX3 rfl (by decide) rfl (Nat.le_of_ble_eq_true rfl) ?_
  intro p e st m args below meth c ls H locs X hr hlocks hA hE hP hS hl
  obtain ⟨hx, hb, hml, hown, hts, -⟩ := id X
  have hG := zEC_good adK adV
  have w2 : ∀  (n : Nat) (x2 : Int32) (s : ZS) (H : Heap) (locs : List Loc) (ls : Array Slot), fX3_copyRow_7_16_2n  n (x2, s) = some (r, τ) → va_P D vwCl (zW (zcC a cI cJ cC) 41 a s) H → va_S (zF 41 a st.heap.size) st.heap H locs → lv_has ls 3 [(0, .ref (a 7)), (1, .ref (a 16)), (2, .int x2)] → W p l e rmX3_copyRow_7_16 st m args below meth c H locs 0 0 (MQ below (va_Qv (fun (τ' : ZS) => τ' = τ) (zPost (zcC a cI cJ cC) 41 a D [(cI, .int), (cJ, .long)]) (zF 41 a st.heap.size)) args st 0 0 (zF 41 a st.heap.size)) (F0 m 2 ls []) := by
    intro  n
    induction n with
    | zero => intro x2 s H locs ls h; exact zloop_0 h
    | succ n ih =>
      intro x2 s H locs ls h hP hS hl
      have h : fX3_copyRow_7_16_2b  (fun x2 s => fX3_copyRow_7_16_2n  n (x2, s)) x2 s = some (r, τ) := h
      refine lv_iload_n hx hb dX3_copyRow_2 rfl (lv_at hl 2 rfl) ?_
      refine lv_aload_n hx hb dX3_copyRow_3 rfl (lv_at hl 0 rfl) ?_
      refine z_alen (v := 15) X hP 7 0 (by decide) (zcC_7 _ _ _ _ _ _) rfl rfl dX3_copyRow_4 ?_
      refine lv_icmp_ge (tgt := 26) hx hb dX3_copyRow_5 (by decide) (fun c1 => ?_) (fun c1 => ?_)
      · have h := zif_t h c1
        exact z_vret X hP hS hr hlocks h dX3_copyRow_26
      · have h := zif_f h c1
        refine lv_iload_n hx hb dX3_copyRow_8 rfl (lv_at hl 2 rfl) ?_
        refine lv_aload_n hx hb dX3_copyRow_9 rfl (lv_at hl 1 rfl) ?_
        refine z_alen (v := 15) X hP 16 0 (by decide) (zcC_16 _ _ _ _ _ _) rfl rfl dX3_copyRow_10 ?_
        refine lv_icmp_ge (tgt := 26) hx hb dX3_copyRow_11 (by decide) (fun c2 => ?_) (fun c2 => ?_)
        · have h := zif_t h c2
          exact z_vret X hP hS hr hlocks h dX3_copyRow_26
        · have h := zif_f h c2
          refine lv_aload_n hx hb dX3_copyRow_14 rfl (lv_at hl 1 rfl) ?_
          refine lv_iload_n hx hb dX3_copyRow_15 rfl (lv_at hl 2 rfl) ?_
          refine lv_aload_n hx hb dX3_copyRow_16 rfl (lv_at hl 0 rfl) ?_
          refine lv_iload_n hx hb dX3_copyRow_17 rfl (lv_at hl 2 rfl) ?_
          obtain ⟨g3, h⟩ := zg_some h
          refine z_iald X hP 7 0 (by decide) (zcC_7 _ _ _ _ _ _) rfl g3 dX3_copyRow_18 ?_
          obtain ⟨g4, h⟩ := zg_some h
          refine z_iast X hA hP hS 16 0 (by decide) (zcC_16 _ _ _ _) rfl g4 dX3_copyRow_19 (fun H locs hP hS => ?_)
          refine lv_iinc (v := (x2 + (1 : Int32))) (lv' := [(2, .int (x2 + (1 : Int32))), (0, .ref (a 7)), (1, .ref (a 16))]) hx hb dX3_copyRow_20 hl (k := 2) rfl rfl (by decide) rfl (fun ls hl => ?_)
          refine lv_goto (tgt := 2) hx hb dX3_copyRow_23 (by decide) ?_
          exact ih ((x2 + (1 : Int32))) ((zI s 16 (x2).toNatClampNeg ((s).1 7 (x2).toNatClampNeg))) _ _ _ h hP hS (lv_sub hl [1, 2, 0] rfl)
  have hl : lv_has ls 3 [(0, .ref (a 7)), (1, .ref (a 16))] := hl
  refine lv_iconst (v := 0) hx hb dX3_copyRow_0 (by decide) ?_
  refine lv_istore_n (lv' := [(2, .int (0 : Int32)), (0, .ref (a 7)), (1, .ref (a 16))]) hx hb dX3_copyRow_1 rfl hl (by decide) rfl (fun ls hl => ?_)
  exact w2  zN ((0 : Int32)) (s) _ _ _ h hP hS (lv_sub hl [1, 2, 0] rfl)
abbrev rmX3_copyRow_8_17 : Room := { frames := 0, cells := 0, slots := 0, locals := 0 }
set_option maxHeartbeats 4000000 in
set_option maxRecDepth 100000 in
theorem kX3_copyRow_8_17 {l : Launch} {D : va_G} {a : Nat → Nat} {cI cJ cC : ClassId} {adK adV : Nat → Nat}  {s τ : ZS} {r : Unit} (h : fX3_copyRow_8_17  s = some (r, τ)) : zMv (zcC a cI cJ cC) 41 a D [(cI, .int), (cJ, .long)] (zEC adK adV) l yX3_copyRow wsX3_copyRow rmX3_copyRow_8_17 [.ref (a 8), .ref (a 17)] s r τ := by
  refine z_start (cc := cX3_copyRow) (maxL := 3) (ret := none) RX3 rfl (by decide) rfl (Nat.le_of_ble_eq_true rfl) ?_
  intro p e st m args below meth c ls H locs X hr hlocks hA hE hP hS hl
  obtain ⟨hx, hb, hml, hown, hts, -⟩ := id X
  have hG := zEC_good adK adV
  have w2 : ∀  (n : Nat) (x2 : Int32) (s : ZS) (H : Heap) (locs : List Loc) (ls : Array Slot), fX3_copyRow_8_17_2n  n (x2, s) = some (r, τ) → va_P D vwCl (zW (zcC a cI cJ cC) 41 a s) H → va_S (zF 41 a st.heap.size) st.heap H locs → lv_has ls 3 [(0, .ref (a 8)), (1, .ref (a 17)), (2, .int x2)] → W p l e rmX3_copyRow_8_17 st m args below meth c H locs 0 0 (MQ below (va_Qv (fun (τ' : ZS) => τ' = τ) (zPost (zcC a cI cJ cC) 41 a D [(cI, .int), (cJ, .long)]) (zF 41 a st.heap.size)) args st 0 0 (zF 41 a st.heap.size)) (F0 m 2 ls []) := by
    intro  n
    induction n with
    | zero => intro x2 s H locs ls h; exact zloop_0 h
    | succ n ih =>
      intro x2 s H locs ls h hP hS hl
      have h : fX3_copyRow_8_17_2b  (fun x2 s => fX3_copyRow_8_17_2n  n (x2, s)) x2 s = some (r, τ) := h
      refine lv_iload_n hx hb dX3_copyRow_2 rfl (lv_at hl 2 rfl) ?_
      refine lv_aload_n hx hb dX3_copyRow_3 rfl (lv_at hl 0 rfl) ?_
      refine z_alen (v := 15) X hP 8 0 (by decide) (zcC_8 _ _ _ _ _ _) rfl rfl dX3_copyRow_4 ?_
      refine lv_icmp_ge (tgt := 26) hx hb dX3_copyRow_5 (by decide) (fun c1 => ?_) (fun c1 => ?_)
      · have h := zif_t h c1
        exact z_vret X hP hS hr hlocks h dX3_copyRow_26
      · have h := zif_f h c1
        refine lv_iload_n hx hb dX3_copyRow_8 rfl (lv_at hl 2 rfl) ?_
        refine lv_aload_n hx hb dX3_copyRow_9 rfl (lv_at hl 1 rfl) ?_
        refine z_alen (v := 15) X hP 17 0 (by decide) (zcC_17 _ _ _ _ _ _) rfl rfl dX3_copyRow_10 ?_
        refine lv_icmp_ge (tgt := 26) hx hb dX3_copyRow_11 (by decide) (fun c2 => ?_) (fun c2 => ?_)
        · have h := zif_t h c2
          exact z_vret X hP hS hr hlocks h dX3_copyRow_26
        · have h := zif_f h c2
          refine lv_aload_n hx hb dX3_copyRow_14 rfl (lv_at hl 1 rfl) ?_
          refine lv_iload_n hx hb dX3_copyRow_15 rfl (lv_at hl 2 rfl) ?_
          refine lv_aload_n hx hb dX3_copyRow_16 rfl (lv_at hl 0 rfl) ?_
          refine lv_iload_n hx hb dX3_copyRow_17 rfl (lv_at hl 2 rfl) ?_
          obtain ⟨g3, h⟩ := zg_some h
          refine z_iald X hP 8 0 (by decide) (zcC_8 _ _ _ _ _ _) rfl g3 dX3_copyRow_18 ?_
          obtain ⟨g4, h⟩ := zg_some h
          refine z_iast X hA hP hS 17 0 (by decide) (zcC_17 _ _ _ _) rfl g4 dX3_copyRow_19 (fun H locs hP hS => ?_)
          refine lv_iinc (v := (x2 + (1 : Int32))) (lv' := [(2, .int (x2 + (1 : Int32))), (0, .ref (a 8)), (1, .ref (a 17))]) hx hb dX3_copyRow_20 hl (k := 2) rfl rfl (by decide) rfl (fun ls hl => ?_)
          refine lv_goto (tgt := 2) hx hb dX3_copyRow_23 (by decide) ?_
          exact ih ((x2 + (1 : Int32))) ((zI s 17 (x2).toNatClampNeg ((s).1 8 (x2).toNatClampNeg))) _ _ _ h hP hS (lv_sub hl [1, 2, 0] rfl)
  have hl : lv_has ls 3 [(0, .ref (a 8)), (1, .ref (a 17))] := hl
  refine lv_iconst (v := 0) hx hb dX3_copyRow_0 (by decide) ?_
  refine lv_istore_n (lv' := [(2, .int (0 : Int32)), (0, .ref (a 8)), (1, .ref (a 17))]) hx hb dX3_copyRow_1 rfl hl (by decide) rfl (fun ls hl => ?_)
  exact w2  zN ((0 : Int32)) (s) _ _ _ h hP hS (lv_sub hl [1, 2, 0] rfl)
abbrev rmX3_copyRow_9_18 : Room := { frames := 0, cells := 0, slots := 0, locals := 0 }
set_option maxHeartbeats 4000000 in
set_option maxRecDepth 100000 in
theorem kX3_copyRow_9_18 {l : Launch} {D : va_G} {a : Nat → Nat} {cI cJ cC : ClassId} {adK adV : Nat → Nat}  {s τ : ZS} {r : Unit} (h : fX3_copyRow_9_18  s = some (r, τ)) : zMv (zcC a cI cJ cC) 41 a D [(cI, .int), (cJ, .long)] (zEC adK adV) l yX3_copyRow wsX3_copyRow rmX3_copyRow_9_18 [.ref (a 9), .ref (a 18)] s r τ := by
  refine z_start (cc := cX3_copyRow) (maxL := 3) (ret := none) RX3 rfl (by decide) rfl (Nat.le_of_ble_eq_true rfl) ?_
  intro p e st m args below meth c ls H locs X hr hlocks hA hE hP hS hl
  obtain ⟨hx, hb, hml, hown, hts, -⟩ := id X
  have hG := zEC_good adK adV
  have w2 : ∀  (n : Nat) (x2 : Int32) (s : ZS) (H : Heap) (locs : List Loc) (ls : Array Slot), fX3_copyRow_9_18_2n  n (x2, s) = some (r, τ) → va_P D vwCl (zW (zcC a cI cJ cC) 41 a s) H → va_S (zF 41 a st.heap.size) st.heap H locs → lv_has ls 3 [(0, .ref (a 9)), (1, .ref (a 18)), (2, .int x2)] → W p l e rmX3_copyRow_9_18 st m args below meth c H locs 0 0 (MQ below (va_Qv (fun (τ' : ZS) => τ' = τ) (zPost (zcC a cI cJ cC) 41 a D [(cI, .int), (cJ, .long)]) (zF 41 a st.heap.size)) args st 0 0 (zF 41 a st.heap.size)) (F0 m 2 ls []) := by
    intro  n
    induction n with
    | zero => intro x2 s H locs ls h; exact zloop_0 h
    | succ n ih =>
      intro x2 s H locs ls h hP hS hl
      have h : fX3_copyRow_9_18_2b  (fun x2 s => fX3_copyRow_9_18_2n  n (x2, s)) x2 s = some (r, τ) := h
      refine lv_iload_n hx hb dX3_copyRow_2 rfl (lv_at hl 2 rfl) ?_
      refine lv_aload_n hx hb dX3_copyRow_3 rfl (lv_at hl 0 rfl) ?_
      refine z_alen (v := 3) X hP 9 0 (by decide) (zcC_9 _ _ _ _ _ _) rfl rfl dX3_copyRow_4 ?_
      refine lv_icmp_ge (tgt := 26) hx hb dX3_copyRow_5 (by decide) (fun c1 => ?_) (fun c1 => ?_)
      · have h := zif_t h c1
        exact z_vret X hP hS hr hlocks h dX3_copyRow_26
      · have h := zif_f h c1
        refine lv_iload_n hx hb dX3_copyRow_8 rfl (lv_at hl 2 rfl) ?_
        refine lv_aload_n hx hb dX3_copyRow_9 rfl (lv_at hl 1 rfl) ?_
        refine z_alen (v := 3) X hP 18 0 (by decide) (zcC_18 _ _ _ _ _ _) rfl rfl dX3_copyRow_10 ?_
        refine lv_icmp_ge (tgt := 26) hx hb dX3_copyRow_11 (by decide) (fun c2 => ?_) (fun c2 => ?_)
        · have h := zif_t h c2
          exact z_vret X hP hS hr hlocks h dX3_copyRow_26
        · have h := zif_f h c2
          refine lv_aload_n hx hb dX3_copyRow_14 rfl (lv_at hl 1 rfl) ?_
          refine lv_iload_n hx hb dX3_copyRow_15 rfl (lv_at hl 2 rfl) ?_
          refine lv_aload_n hx hb dX3_copyRow_16 rfl (lv_at hl 0 rfl) ?_
          refine lv_iload_n hx hb dX3_copyRow_17 rfl (lv_at hl 2 rfl) ?_
          obtain ⟨g3, h⟩ := zg_some h
          refine z_iald X hP 9 0 (by decide) (zcC_9 _ _ _ _ _ _) rfl g3 dX3_copyRow_18 ?_
          obtain ⟨g4, h⟩ := zg_some h
          refine z_iast X hA hP hS 18 0 (by decide) (zcC_18 _ _ _ _) rfl g4 dX3_copyRow_19 (fun H locs hP hS => ?_)
          refine lv_iinc (v := (x2 + (1 : Int32))) (lv' := [(2, .int (x2 + (1 : Int32))), (0, .ref (a 9)), (1, .ref (a 18))]) hx hb dX3_copyRow_20 hl (k := 2) rfl rfl (by decide) rfl (fun ls hl => ?_)
          refine lv_goto (tgt := 2) hx hb dX3_copyRow_23 (by decide) ?_
          exact ih ((x2 + (1 : Int32))) ((zI s 18 (x2).toNatClampNeg ((s).1 9 (x2).toNatClampNeg))) _ _ _ h hP hS (lv_sub hl [1, 2, 0] rfl)
  have hl : lv_has ls 3 [(0, .ref (a 9)), (1, .ref (a 18))] := hl
  refine lv_iconst (v := 0) hx hb dX3_copyRow_0 (by decide) ?_
  refine lv_istore_n (lv' := [(2, .int (0 : Int32)), (0, .ref (a 9)), (1, .ref (a 18))]) hx hb dX3_copyRow_1 rfl hl (by decide) rfl (fun ls hl => ?_)
  exact w2  zN ((0 : Int32)) (s) _ _ _ h hP hS (lv_sub hl [1, 2, 0] rfl)
abbrev rmX3_becomeLike_10_1 : Room := { frames := 1, cells := 0, slots := 0, locals := 22 }
set_option maxHeartbeats 4000000 in
set_option maxRecDepth 100000 in
theorem kX3_becomeLike_10_1 {l : Launch} {D : va_G} {a : Nat → Nat} {cI cJ cC : ClassId} {adK adV : Nat → Nat}  {s τ : ZS} {r : Unit} (h : fX3_becomeLike_10_1  s = some (r, τ)) : zMv (zcC a cI cJ cC) 41 a D [(cI, .int), (cJ, .long)] (zEC adK adV) l yX3_becomeLike wsX3_becomeLike rmX3_becomeLike_10_1 [.ref (a 10), .ref (a 1)] s r τ := by
  refine z_start (cc := cX3_becomeLike) (maxL := 2) (ret := none) RX3 rfl (by decide) rfl (Nat.le_of_ble_eq_true rfl) ?_
  intro p e st m args below meth c ls H locs X hr hlocks hA hE hP hS hl
  obtain ⟨hx, hb, hml, hown, hts, -⟩ := id X
  have hG := zEC_good adK adV
  have inX3 : ∀ w ∈ u_ws RX3 TX3 10, w ∈ wsX3_becomeLike := by decide +kernel
  have hl : lv_has ls 2 [(0, .ref (a 10)), (1, .ref (a 1))] := hl
  refine lv_aload_n hx hb dX3_becomeLike_0 rfl (lv_at hl 0 rfl) ?_
  refine lv_aload_n hx hb dX3_becomeLike_1 rfl (lv_at hl 1 rfl) ?_
  refine z_get (C := RX3) (T := TX3) (N := 10) X inX3 hP 1 (by decide) (zcC_1 _ _ _ _ _ _) rfl 0 (by decide) rfl (by decide +kernel) rfl dX3_becomeLike_2 ?_
  refine z_put (ty := .int) (x := ((s).1 1 0)) (C := RX3) (T := TX3) (N := 10) X inX3 tyX3 tyX3_ok nmX3 hA hP hS 10 (by decide) (zcC_10 _ _ _ _ _ _) rfl 0 (by decide) rfl (by decide +kernel) rfl (by decide +kernel) rfl rfl (Nat.le_of_ble_eq_true rfl) rfl dX3_becomeLike_5 (fun H locs hP hS => ?_)
  refine lv_aload_n hx hb dX3_becomeLike_8 rfl (lv_at hl 1 rfl) ?_
  refine z_get (C := RX3) (T := TX3) (N := 10) X inX3 hP 1 (by decide) (zcC_1 _ _ _ _ _ _) rfl 1 (by decide) rfl (by decide +kernel) rfl dX3_becomeLike_9 ?_
  refine lv_aload_n hx hb dX3_becomeLike_12 rfl (lv_at hl 0 rfl) ?_
  refine z_get (C := RX3) (T := TX3) (N := 10) X inX3 hP 10 (by decide) (zcC_10 _ _ _ _ _ _) rfl 1 (by decide) rfl (by decide +kernel) rfl dX3_becomeLike_13 ?_
  obtain ⟨u1, s1, e1, h⟩ := zb_some h
  refine z_callv hS (z_runS (As := [.ref (a 2), .ref (a 11)]) (rest := []) X hG hA hE hP hS (kX3_copyRow_2_11 (l := l) (D := D) (a := a) (cI := cI) (cJ := cJ) (cC := cC) (adK := adK) (adV := adV) e1 _) (va_cwS 2 hts gX3_becomeLike_X3_copyRow rfl rfl rfl (by decide +kernel) ⟨Nat.le_of_ble_eq_true rfl, Nat.le_of_ble_eq_true rfl⟩) rfl hl.1 rfl (Nat.le_of_ble_eq_true rfl) dX3_becomeLike_16) (fun H locs hP hS => ?_)
  refine lv_aload_n hx hb dX3_becomeLike_19 rfl (lv_at hl 1 rfl) ?_
  refine z_get (C := RX3) (T := TX3) (N := 10) X inX3 hP 1 (by decide) (zcC_1 _ _ _ _ _ _) rfl 2 (by decide) rfl (by decide +kernel) rfl dX3_becomeLike_20 ?_
  refine lv_aload_n hx hb dX3_becomeLike_23 rfl (lv_at hl 0 rfl) ?_
  refine z_get (C := RX3) (T := TX3) (N := 10) X inX3 hP 10 (by decide) (zcC_10 _ _ _ _ _ _) rfl 2 (by decide) rfl (by decide +kernel) rfl dX3_becomeLike_24 ?_
  obtain ⟨u2, s2, e2, h⟩ := zb_some h
  refine z_callv hS (z_runS (As := [.ref (a 3), .ref (a 12)]) (rest := []) X hG hA hE hP hS (kX3_copyRow_3_12 (l := l) (D := D) (a := a) (cI := cI) (cJ := cJ) (cC := cC) (adK := adK) (adV := adV) e2 _) (va_cwS 2 hts gX3_becomeLike_X3_copyRow rfl rfl rfl (by decide +kernel) ⟨Nat.le_of_ble_eq_true rfl, Nat.le_of_ble_eq_true rfl⟩) rfl hl.1 rfl (Nat.le_of_ble_eq_true rfl) dX3_becomeLike_27) (fun H locs hP hS => ?_)
  refine lv_aload_n hx hb dX3_becomeLike_30 rfl (lv_at hl 1 rfl) ?_
  refine z_get (C := RX3) (T := TX3) (N := 10) X inX3 hP 1 (by decide) (zcC_1 _ _ _ _ _ _) rfl 3 (by decide) rfl (by decide +kernel) rfl dX3_becomeLike_31 ?_
  refine lv_aload_n hx hb dX3_becomeLike_34 rfl (lv_at hl 0 rfl) ?_
  refine z_get (C := RX3) (T := TX3) (N := 10) X inX3 hP 10 (by decide) (zcC_10 _ _ _ _ _ _) rfl 3 (by decide) rfl (by decide +kernel) rfl dX3_becomeLike_35 ?_
  obtain ⟨u3, s3, e3, h⟩ := zb_some h
  refine z_callv hS (z_runS (As := [.ref (a 4), .ref (a 13)]) (rest := []) X hG hA hE hP hS (kX3_copyRow_4_13 (l := l) (D := D) (a := a) (cI := cI) (cJ := cJ) (cC := cC) (adK := adK) (adV := adV) e3 _) (va_cwS 2 hts gX3_becomeLike_X3_copyRow rfl rfl rfl (by decide +kernel) ⟨Nat.le_of_ble_eq_true rfl, Nat.le_of_ble_eq_true rfl⟩) rfl hl.1 rfl (Nat.le_of_ble_eq_true rfl) dX3_becomeLike_38) (fun H locs hP hS => ?_)
  refine lv_aload_n hx hb dX3_becomeLike_41 rfl (lv_at hl 0 rfl) ?_
  refine lv_aload_n hx hb dX3_becomeLike_42 rfl (lv_at hl 1 rfl) ?_
  refine z_get (C := RX3) (T := TX3) (N := 10) X inX3 hP 1 (by decide) (zcC_1 _ _ _ _ _ _) rfl 4 (by decide) rfl (by decide +kernel) rfl dX3_becomeLike_43 ?_
  refine z_put (ty := .int) (x := ((s3).1 1 4)) (C := RX3) (T := TX3) (N := 10) X inX3 tyX3 tyX3_ok nmX3 hA hP hS 10 (by decide) (zcC_10 _ _ _ _ _ _) rfl 4 (by decide) rfl (by decide +kernel) rfl (by decide +kernel) rfl rfl (Nat.le_of_ble_eq_true rfl) rfl dX3_becomeLike_46 (fun H locs hP hS => ?_)
  refine lv_aload_n hx hb dX3_becomeLike_49 rfl (lv_at hl 1 rfl) ?_
  refine z_get (C := RX3) (T := TX3) (N := 10) X inX3 hP 1 (by decide) (zcC_1 _ _ _ _ _ _) rfl 5 (by decide) rfl (by decide +kernel) rfl dX3_becomeLike_50 ?_
  refine lv_aload_n hx hb dX3_becomeLike_53 rfl (lv_at hl 0 rfl) ?_
  refine z_get (C := RX3) (T := TX3) (N := 10) X inX3 hP 10 (by decide) (zcC_10 _ _ _ _ _ _) rfl 5 (by decide) rfl (by decide +kernel) rfl dX3_becomeLike_54 ?_
  obtain ⟨u4, s4, e4, h⟩ := zb_some h
  refine z_callv hS (z_runS (As := [.ref (a 5), .ref (a 14)]) (rest := []) X hG hA hE hP hS (kX3_copyRow_5_14 (l := l) (D := D) (a := a) (cI := cI) (cJ := cJ) (cC := cC) (adK := adK) (adV := adV) e4 _) (va_cwS 2 hts gX3_becomeLike_X3_copyRow rfl rfl rfl (by decide +kernel) ⟨Nat.le_of_ble_eq_true rfl, Nat.le_of_ble_eq_true rfl⟩) rfl hl.1 rfl (Nat.le_of_ble_eq_true rfl) dX3_becomeLike_57) (fun H locs hP hS => ?_)
  refine lv_aload_n hx hb dX3_becomeLike_60 rfl (lv_at hl 1 rfl) ?_
  refine z_get (C := RX3) (T := TX3) (N := 10) X inX3 hP 1 (by decide) (zcC_1 _ _ _ _ _ _) rfl 6 (by decide) rfl (by decide +kernel) rfl dX3_becomeLike_61 ?_
  refine lv_aload_n hx hb dX3_becomeLike_64 rfl (lv_at hl 0 rfl) ?_
  refine z_get (C := RX3) (T := TX3) (N := 10) X inX3 hP 10 (by decide) (zcC_10 _ _ _ _ _ _) rfl 6 (by decide) rfl (by decide +kernel) rfl dX3_becomeLike_65 ?_
  obtain ⟨u5, s5, e5, h⟩ := zb_some h
  refine z_callv hS (z_runS (As := [.ref (a 6), .ref (a 15)]) (rest := []) X hG hA hE hP hS (kX3_copyRow_6_15 (l := l) (D := D) (a := a) (cI := cI) (cJ := cJ) (cC := cC) (adK := adK) (adV := adV) e5 _) (va_cwS 2 hts gX3_becomeLike_X3_copyRow rfl rfl rfl (by decide +kernel) ⟨Nat.le_of_ble_eq_true rfl, Nat.le_of_ble_eq_true rfl⟩) rfl hl.1 rfl (Nat.le_of_ble_eq_true rfl) dX3_becomeLike_68) (fun H locs hP hS => ?_)
  refine lv_aload_n hx hb dX3_becomeLike_71 rfl (lv_at hl 1 rfl) ?_
  refine z_get (C := RX3) (T := TX3) (N := 10) X inX3 hP 1 (by decide) (zcC_1 _ _ _ _ _ _) rfl 7 (by decide) rfl (by decide +kernel) rfl dX3_becomeLike_72 ?_
  refine lv_aload_n hx hb dX3_becomeLike_75 rfl (lv_at hl 0 rfl) ?_
  refine z_get (C := RX3) (T := TX3) (N := 10) X inX3 hP 10 (by decide) (zcC_10 _ _ _ _ _ _) rfl 7 (by decide) rfl (by decide +kernel) rfl dX3_becomeLike_76 ?_
  obtain ⟨u6, s6, e6, h⟩ := zb_some h
  refine z_callv hS (z_runS (As := [.ref (a 7), .ref (a 16)]) (rest := []) X hG hA hE hP hS (kX3_copyRow_7_16 (l := l) (D := D) (a := a) (cI := cI) (cJ := cJ) (cC := cC) (adK := adK) (adV := adV) e6 _) (va_cwS 2 hts gX3_becomeLike_X3_copyRow rfl rfl rfl (by decide +kernel) ⟨Nat.le_of_ble_eq_true rfl, Nat.le_of_ble_eq_true rfl⟩) rfl hl.1 rfl (Nat.le_of_ble_eq_true rfl) dX3_becomeLike_79) (fun H locs hP hS => ?_)
  refine lv_aload_n hx hb dX3_becomeLike_82 rfl (lv_at hl 1 rfl) ?_
  refine z_get (C := RX3) (T := TX3) (N := 10) X inX3 hP 1 (by decide) (zcC_1 _ _ _ _ _ _) rfl 8 (by decide) rfl (by decide +kernel) rfl dX3_becomeLike_83 ?_
  refine lv_aload_n hx hb dX3_becomeLike_86 rfl (lv_at hl 0 rfl) ?_
  refine z_get (C := RX3) (T := TX3) (N := 10) X inX3 hP 10 (by decide) (zcC_10 _ _ _ _ _ _) rfl 8 (by decide) rfl (by decide +kernel) rfl dX3_becomeLike_87 ?_
  obtain ⟨u7, s7, e7, h⟩ := zb_some h
  refine z_callv hS (z_runS (As := [.ref (a 8), .ref (a 17)]) (rest := []) X hG hA hE hP hS (kX3_copyRow_8_17 (l := l) (D := D) (a := a) (cI := cI) (cJ := cJ) (cC := cC) (adK := adK) (adV := adV) e7 _) (va_cwS 2 hts gX3_becomeLike_X3_copyRow rfl rfl rfl (by decide +kernel) ⟨Nat.le_of_ble_eq_true rfl, Nat.le_of_ble_eq_true rfl⟩) rfl hl.1 rfl (Nat.le_of_ble_eq_true rfl) dX3_becomeLike_90) (fun H locs hP hS => ?_)
  refine lv_aload_n hx hb dX3_becomeLike_93 rfl (lv_at hl 1 rfl) ?_
  refine z_get (C := RX3) (T := TX3) (N := 10) X inX3 hP 1 (by decide) (zcC_1 _ _ _ _ _ _) rfl 9 (by decide) rfl (by decide +kernel) rfl dX3_becomeLike_94 ?_
  refine lv_aload_n hx hb dX3_becomeLike_97 rfl (lv_at hl 0 rfl) ?_
  refine z_get (C := RX3) (T := TX3) (N := 10) X inX3 hP 10 (by decide) (zcC_10 _ _ _ _ _ _) rfl 9 (by decide) rfl (by decide +kernel) rfl dX3_becomeLike_98 ?_
  obtain ⟨u8, s8, e8, h⟩ := zb_some h
  refine z_callv hS (z_runS (As := [.ref (a 9), .ref (a 18)]) (rest := []) X hG hA hE hP hS (kX3_copyRow_9_18 (l := l) (D := D) (a := a) (cI := cI) (cJ := cJ) (cC := cC) (adK := adK) (adV := adV) e8 _) (va_cwS 2 hts gX3_becomeLike_X3_copyRow rfl rfl rfl (by decide +kernel) ⟨Nat.le_of_ble_eq_true rfl, Nat.le_of_ble_eq_true rfl⟩) rfl hl.1 rfl (Nat.le_of_ble_eq_true rfl) dX3_becomeLike_101) (fun H locs hP hS => ?_)
  exact z_vret X hP hS hr hlocks h dX3_becomeLike_104
abbrev rmX6_image : Room := { frames := 2, cells := 0, slots := 0, locals := 43 }
set_option maxHeartbeats 4000000 in
set_option maxRecDepth 100000 in
theorem kX6_image {l : Launch} {D : va_G} {a : Nat → Nat} {cI cJ cC : ClassId} {adK adV : Nat → Nat}  {s τ : ZS} {r : Int32} (h : fX6_image  s = some (r, τ)) : zMi (zcC a cI cJ cC) 41 a D [(cI, .int), (cJ, .long)] (zEC adK adV) l yX6_image wsX6_image rmX6_image [.ref (a 0)] s r τ := by
  refine z_start (cc := cX6_image) (maxL := 1) (ret := (some .int)) RX6 rfl (by decide) rfl (Nat.le_of_ble_eq_true rfl) ?_
  intro p e st m args below meth c ls H locs X hr hlocks hA hE hP hS hl
  obtain ⟨hx, hb, hml, hown, hts, -⟩ := id X
  have hG := zEC_good adK adV
  have inX3 : ∀ w ∈ u_ws RX3 TX3 10, w ∈ wsX6_image := by decide +kernel
  have inX6 : ∀ w ∈ u_ws RX6 TX6 12, w ∈ wsX6_image := by decide +kernel
  have hl : lv_has ls 1 [(0, .ref (a 0))] := hl
  refine lv_aload_n hx hb dX6_image_0 rfl (lv_at hl 0 rfl) ?_
  refine z_get (C := RX6) (T := TX6) (N := 12) X inX6 hP 0 (by decide) (zcC_0 _ _ _ _ _ _) rfl 1 (by decide) rfl (by decide +kernel) rfl dX6_image_1 ?_
  refine lv_aload_n hx hb dX6_image_4 rfl (lv_at hl 0 rfl) ?_
  refine z_get (C := RX6) (T := TX6) (N := 12) X inX6 hP 0 (by decide) (zcC_0 _ _ _ _ _ _) rfl 0 (by decide) rfl (by decide +kernel) rfl dX6_image_5 ?_
  obtain ⟨u1, s1, e1, h⟩ := zb_some h
  refine z_callv hS (z_runV (As := [.ref (a 1)]) (rest := []) X hG hA hE hP hS 10 (kX3_becomeLike_10_1 (l := l) (D := D) (a := a) (cI := cI) (cJ := cJ) (cC := cC) (adK := adK) (adV := adV) e1 _) (cwV 1 hts gX6_image_X3_becomeLike rfl rfl rfl (by decide +kernel) ⟨Nat.le_of_ble_eq_true rfl, Nat.le_of_ble_eq_true rfl⟩) (by decide) (zcC_10 _ _ _ _ _ _) rfl rfl rfl hl.1 rfl (Nat.le_of_ble_eq_true rfl) dX6_image_8) (fun H locs hP hS => ?_)
  refine lv_aload_n hx hb dX6_image_11 rfl (lv_at hl 0 rfl) ?_
  refine lv_iconst (v := 1) hx hb dX6_image_12 (by decide) ?_
  refine z_put (ty := .boolean) (x := (1 : Int32)) (C := RX6) (T := TX6) (N := 12) X inX6 tyX6 tyX6_ok nmX6 hA hP hS 0 (by decide) (zcC_0 _ _ _ _ _ _) rfl 2 (by decide) rfl (by decide +kernel) rfl (by decide +kernel) (by decide) (by decide) (Nat.le_of_ble_eq_true rfl) rfl dX6_image_13 (fun H locs hP hS => ?_)
  refine lv_aload_n hx hb dX6_image_16 rfl (lv_at hl 0 rfl) ?_
  refine z_get (C := RX6) (T := TX6) (N := 12) X inX6 hP 0 (by decide) (zcC_0 _ _ _ _ _ _) rfl 0 (by decide) rfl (by decide +kernel) rfl dX6_image_17 ?_
  refine z_get (C := RX3) (T := TX3) (N := 10) X inX3 hP 1 (by decide) (zcC_1 _ _ _ _ _ _) rfl 0 (by decide) rfl (by decide +kernel) rfl dX6_image_20 ?_
  exact z_iret X hP hS hr hlocks h dX6_image_23
abbrev rmX3_copyRow_11_2 : Room := { frames := 0, cells := 0, slots := 0, locals := 0 }
set_option maxHeartbeats 4000000 in
set_option maxRecDepth 100000 in
theorem kX3_copyRow_11_2 {l : Launch} {D : va_G} {a : Nat → Nat} {cI cJ cC : ClassId} {adK adV : Nat → Nat}  {s τ : ZS} {r : Unit} (h : fX3_copyRow_11_2  s = some (r, τ)) : zMv (zcC a cI cJ cC) 41 a D [(cI, .int), (cJ, .long)] (zEC adK adV) l yX3_copyRow wsX3_copyRow rmX3_copyRow_11_2 [.ref (a 11), .ref (a 2)] s r τ := by
  refine z_start (cc := cX3_copyRow) (maxL := 3) (ret := none) RX3 rfl (by decide) rfl (Nat.le_of_ble_eq_true rfl) ?_
  intro p e st m args below meth c ls H locs X hr hlocks hA hE hP hS hl
  obtain ⟨hx, hb, hml, hown, hts, -⟩ := id X
  have hG := zEC_good adK adV
  have w2 : ∀  (n : Nat) (x2 : Int32) (s : ZS) (H : Heap) (locs : List Loc) (ls : Array Slot), fX3_copyRow_11_2_2n  n (x2, s) = some (r, τ) → va_P D vwCl (zW (zcC a cI cJ cC) 41 a s) H → va_S (zF 41 a st.heap.size) st.heap H locs → lv_has ls 3 [(0, .ref (a 11)), (1, .ref (a 2)), (2, .int x2)] → W p l e rmX3_copyRow_11_2 st m args below meth c H locs 0 0 (MQ below (va_Qv (fun (τ' : ZS) => τ' = τ) (zPost (zcC a cI cJ cC) 41 a D [(cI, .int), (cJ, .long)]) (zF 41 a st.heap.size)) args st 0 0 (zF 41 a st.heap.size)) (F0 m 2 ls []) := by
    intro  n
    induction n with
    | zero => intro x2 s H locs ls h; exact zloop_0 h
    | succ n ih =>
      intro x2 s H locs ls h hP hS hl
      have h : fX3_copyRow_11_2_2b  (fun x2 s => fX3_copyRow_11_2_2n  n (x2, s)) x2 s = some (r, τ) := h
      refine lv_iload_n hx hb dX3_copyRow_2 rfl (lv_at hl 2 rfl) ?_
      refine lv_aload_n hx hb dX3_copyRow_3 rfl (lv_at hl 0 rfl) ?_
      refine z_alen (v := 8) X hP 11 0 (by decide) (zcC_11 _ _ _ _ _ _) rfl rfl dX3_copyRow_4 ?_
      refine lv_icmp_ge (tgt := 26) hx hb dX3_copyRow_5 (by decide) (fun c1 => ?_) (fun c1 => ?_)
      · have h := zif_t h c1
        exact z_vret X hP hS hr hlocks h dX3_copyRow_26
      · have h := zif_f h c1
        refine lv_iload_n hx hb dX3_copyRow_8 rfl (lv_at hl 2 rfl) ?_
        refine lv_aload_n hx hb dX3_copyRow_9 rfl (lv_at hl 1 rfl) ?_
        refine z_alen (v := 8) X hP 2 0 (by decide) (zcC_2 _ _ _ _ _ _) rfl rfl dX3_copyRow_10 ?_
        refine lv_icmp_ge (tgt := 26) hx hb dX3_copyRow_11 (by decide) (fun c2 => ?_) (fun c2 => ?_)
        · have h := zif_t h c2
          exact z_vret X hP hS hr hlocks h dX3_copyRow_26
        · have h := zif_f h c2
          refine lv_aload_n hx hb dX3_copyRow_14 rfl (lv_at hl 1 rfl) ?_
          refine lv_iload_n hx hb dX3_copyRow_15 rfl (lv_at hl 2 rfl) ?_
          refine lv_aload_n hx hb dX3_copyRow_16 rfl (lv_at hl 0 rfl) ?_
          refine lv_iload_n hx hb dX3_copyRow_17 rfl (lv_at hl 2 rfl) ?_
          obtain ⟨g3, h⟩ := zg_some h
          refine z_iald X hP 11 0 (by decide) (zcC_11 _ _ _ _ _ _) rfl g3 dX3_copyRow_18 ?_
          obtain ⟨g4, h⟩ := zg_some h
          refine z_iast X hA hP hS 2 0 (by decide) (zcC_2 _ _ _ _) rfl g4 dX3_copyRow_19 (fun H locs hP hS => ?_)
          refine lv_iinc (v := (x2 + (1 : Int32))) (lv' := [(2, .int (x2 + (1 : Int32))), (0, .ref (a 11)), (1, .ref (a 2))]) hx hb dX3_copyRow_20 hl (k := 2) rfl rfl (by decide) rfl (fun ls hl => ?_)
          refine lv_goto (tgt := 2) hx hb dX3_copyRow_23 (by decide) ?_
          exact ih ((x2 + (1 : Int32))) ((zI s 2 (x2).toNatClampNeg ((s).1 11 (x2).toNatClampNeg))) _ _ _ h hP hS (lv_sub hl [1, 2, 0] rfl)
  have hl : lv_has ls 3 [(0, .ref (a 11)), (1, .ref (a 2))] := hl
  refine lv_iconst (v := 0) hx hb dX3_copyRow_0 (by decide) ?_
  refine lv_istore_n (lv' := [(2, .int (0 : Int32)), (0, .ref (a 11)), (1, .ref (a 2))]) hx hb dX3_copyRow_1 rfl hl (by decide) rfl (fun ls hl => ?_)
  exact w2  zN ((0 : Int32)) (s) _ _ _ h hP hS (lv_sub hl [1, 2, 0] rfl)
abbrev rmX3_copyRow_12_3 : Room := { frames := 0, cells := 0, slots := 0, locals := 0 }
set_option maxHeartbeats 4000000 in
set_option maxRecDepth 100000 in
theorem kX3_copyRow_12_3 {l : Launch} {D : va_G} {a : Nat → Nat} {cI cJ cC : ClassId} {adK adV : Nat → Nat}  {s τ : ZS} {r : Unit} (h : fX3_copyRow_12_3  s = some (r, τ)) : zMv (zcC a cI cJ cC) 41 a D [(cI, .int), (cJ, .long)] (zEC adK adV) l yX3_copyRow wsX3_copyRow rmX3_copyRow_12_3 [.ref (a 12), .ref (a 3)] s r τ := by
  refine z_start (cc := cX3_copyRow) (maxL := 3) (ret := none) RX3 rfl (by decide) rfl (Nat.le_of_ble_eq_true rfl) ?_
  intro p e st m args below meth c ls H locs X hr hlocks hA hE hP hS hl
  obtain ⟨hx, hb, hml, hown, hts, -⟩ := id X
  have hG := zEC_good adK adV
  have w2 : ∀  (n : Nat) (x2 : Int32) (s : ZS) (H : Heap) (locs : List Loc) (ls : Array Slot), fX3_copyRow_12_3_2n  n (x2, s) = some (r, τ) → va_P D vwCl (zW (zcC a cI cJ cC) 41 a s) H → va_S (zF 41 a st.heap.size) st.heap H locs → lv_has ls 3 [(0, .ref (a 12)), (1, .ref (a 3)), (2, .int x2)] → W p l e rmX3_copyRow_12_3 st m args below meth c H locs 0 0 (MQ below (va_Qv (fun (τ' : ZS) => τ' = τ) (zPost (zcC a cI cJ cC) 41 a D [(cI, .int), (cJ, .long)]) (zF 41 a st.heap.size)) args st 0 0 (zF 41 a st.heap.size)) (F0 m 2 ls []) := by
    intro  n
    induction n with
    | zero => intro x2 s H locs ls h; exact zloop_0 h
    | succ n ih =>
      intro x2 s H locs ls h hP hS hl
      have h : fX3_copyRow_12_3_2b  (fun x2 s => fX3_copyRow_12_3_2n  n (x2, s)) x2 s = some (r, τ) := h
      refine lv_iload_n hx hb dX3_copyRow_2 rfl (lv_at hl 2 rfl) ?_
      refine lv_aload_n hx hb dX3_copyRow_3 rfl (lv_at hl 0 rfl) ?_
      refine z_alen (v := 8) X hP 12 0 (by decide) (zcC_12 _ _ _ _ _ _) rfl rfl dX3_copyRow_4 ?_
      refine lv_icmp_ge (tgt := 26) hx hb dX3_copyRow_5 (by decide) (fun c1 => ?_) (fun c1 => ?_)
      · have h := zif_t h c1
        exact z_vret X hP hS hr hlocks h dX3_copyRow_26
      · have h := zif_f h c1
        refine lv_iload_n hx hb dX3_copyRow_8 rfl (lv_at hl 2 rfl) ?_
        refine lv_aload_n hx hb dX3_copyRow_9 rfl (lv_at hl 1 rfl) ?_
        refine z_alen (v := 8) X hP 3 0 (by decide) (zcC_3 _ _ _ _ _ _) rfl rfl dX3_copyRow_10 ?_
        refine lv_icmp_ge (tgt := 26) hx hb dX3_copyRow_11 (by decide) (fun c2 => ?_) (fun c2 => ?_)
        · have h := zif_t h c2
          exact z_vret X hP hS hr hlocks h dX3_copyRow_26
        · have h := zif_f h c2
          refine lv_aload_n hx hb dX3_copyRow_14 rfl (lv_at hl 1 rfl) ?_
          refine lv_iload_n hx hb dX3_copyRow_15 rfl (lv_at hl 2 rfl) ?_
          refine lv_aload_n hx hb dX3_copyRow_16 rfl (lv_at hl 0 rfl) ?_
          refine lv_iload_n hx hb dX3_copyRow_17 rfl (lv_at hl 2 rfl) ?_
          obtain ⟨g3, h⟩ := zg_some h
          refine z_iald X hP 12 0 (by decide) (zcC_12 _ _ _ _ _ _) rfl g3 dX3_copyRow_18 ?_
          obtain ⟨g4, h⟩ := zg_some h
          refine z_iast X hA hP hS 3 0 (by decide) (zcC_3 _ _ _ _) rfl g4 dX3_copyRow_19 (fun H locs hP hS => ?_)
          refine lv_iinc (v := (x2 + (1 : Int32))) (lv' := [(2, .int (x2 + (1 : Int32))), (0, .ref (a 12)), (1, .ref (a 3))]) hx hb dX3_copyRow_20 hl (k := 2) rfl rfl (by decide) rfl (fun ls hl => ?_)
          refine lv_goto (tgt := 2) hx hb dX3_copyRow_23 (by decide) ?_
          exact ih ((x2 + (1 : Int32))) ((zI s 3 (x2).toNatClampNeg ((s).1 12 (x2).toNatClampNeg))) _ _ _ h hP hS (lv_sub hl [1, 2, 0] rfl)
  have hl : lv_has ls 3 [(0, .ref (a 12)), (1, .ref (a 3))] := hl
  refine lv_iconst (v := 0) hx hb dX3_copyRow_0 (by decide) ?_
  refine lv_istore_n (lv' := [(2, .int (0 : Int32)), (0, .ref (a 12)), (1, .ref (a 3))]) hx hb dX3_copyRow_1 rfl hl (by decide) rfl (fun ls hl => ?_)
  exact w2  zN ((0 : Int32)) (s) _ _ _ h hP hS (lv_sub hl [1, 2, 0] rfl)
abbrev rmX3_copyRow_13_4 : Room := { frames := 0, cells := 0, slots := 0, locals := 0 }
set_option maxHeartbeats 4000000 in
set_option maxRecDepth 100000 in
theorem kX3_copyRow_13_4 {l : Launch} {D : va_G} {a : Nat → Nat} {cI cJ cC : ClassId} {adK adV : Nat → Nat}  {s τ : ZS} {r : Unit} (h : fX3_copyRow_13_4  s = some (r, τ)) : zMv (zcC a cI cJ cC) 41 a D [(cI, .int), (cJ, .long)] (zEC adK adV) l yX3_copyRow wsX3_copyRow rmX3_copyRow_13_4 [.ref (a 13), .ref (a 4)] s r τ := by
  refine z_start (cc := cX3_copyRow) (maxL := 3) (ret := none) RX3 rfl (by decide) rfl (Nat.le_of_ble_eq_true rfl) ?_
  intro p e st m args below meth c ls H locs X hr hlocks hA hE hP hS hl
  obtain ⟨hx, hb, hml, hown, hts, -⟩ := id X
  have hG := zEC_good adK adV
  have w2 : ∀  (n : Nat) (x2 : Int32) (s : ZS) (H : Heap) (locs : List Loc) (ls : Array Slot), fX3_copyRow_13_4_2n  n (x2, s) = some (r, τ) → va_P D vwCl (zW (zcC a cI cJ cC) 41 a s) H → va_S (zF 41 a st.heap.size) st.heap H locs → lv_has ls 3 [(0, .ref (a 13)), (1, .ref (a 4)), (2, .int x2)] → W p l e rmX3_copyRow_13_4 st m args below meth c H locs 0 0 (MQ below (va_Qv (fun (τ' : ZS) => τ' = τ) (zPost (zcC a cI cJ cC) 41 a D [(cI, .int), (cJ, .long)]) (zF 41 a st.heap.size)) args st 0 0 (zF 41 a st.heap.size)) (F0 m 2 ls []) := by
    intro  n
    induction n with
    | zero => intro x2 s H locs ls h; exact zloop_0 h
    | succ n ih =>
      intro x2 s H locs ls h hP hS hl
      have h : fX3_copyRow_13_4_2b  (fun x2 s => fX3_copyRow_13_4_2n  n (x2, s)) x2 s = some (r, τ) := h
      refine lv_iload_n hx hb dX3_copyRow_2 rfl (lv_at hl 2 rfl) ?_
      refine lv_aload_n hx hb dX3_copyRow_3 rfl (lv_at hl 0 rfl) ?_
      refine z_alen (v := 40) X hP 13 0 (by decide) (zcC_13 _ _ _ _ _ _) rfl rfl dX3_copyRow_4 ?_
      refine lv_icmp_ge (tgt := 26) hx hb dX3_copyRow_5 (by decide) (fun c1 => ?_) (fun c1 => ?_)
      · have h := zif_t h c1
        exact z_vret X hP hS hr hlocks h dX3_copyRow_26
      · have h := zif_f h c1
        refine lv_iload_n hx hb dX3_copyRow_8 rfl (lv_at hl 2 rfl) ?_
        refine lv_aload_n hx hb dX3_copyRow_9 rfl (lv_at hl 1 rfl) ?_
        refine z_alen (v := 40) X hP 4 0 (by decide) (zcC_4 _ _ _ _ _ _) rfl rfl dX3_copyRow_10 ?_
        refine lv_icmp_ge (tgt := 26) hx hb dX3_copyRow_11 (by decide) (fun c2 => ?_) (fun c2 => ?_)
        · have h := zif_t h c2
          exact z_vret X hP hS hr hlocks h dX3_copyRow_26
        · have h := zif_f h c2
          refine lv_aload_n hx hb dX3_copyRow_14 rfl (lv_at hl 1 rfl) ?_
          refine lv_iload_n hx hb dX3_copyRow_15 rfl (lv_at hl 2 rfl) ?_
          refine lv_aload_n hx hb dX3_copyRow_16 rfl (lv_at hl 0 rfl) ?_
          refine lv_iload_n hx hb dX3_copyRow_17 rfl (lv_at hl 2 rfl) ?_
          obtain ⟨g3, h⟩ := zg_some h
          refine z_iald X hP 13 0 (by decide) (zcC_13 _ _ _ _ _ _) rfl g3 dX3_copyRow_18 ?_
          obtain ⟨g4, h⟩ := zg_some h
          refine z_iast X hA hP hS 4 0 (by decide) (zcC_4 _ _ _ _) rfl g4 dX3_copyRow_19 (fun H locs hP hS => ?_)
          refine lv_iinc (v := (x2 + (1 : Int32))) (lv' := [(2, .int (x2 + (1 : Int32))), (0, .ref (a 13)), (1, .ref (a 4))]) hx hb dX3_copyRow_20 hl (k := 2) rfl rfl (by decide) rfl (fun ls hl => ?_)
          refine lv_goto (tgt := 2) hx hb dX3_copyRow_23 (by decide) ?_
          exact ih ((x2 + (1 : Int32))) ((zI s 4 (x2).toNatClampNeg ((s).1 13 (x2).toNatClampNeg))) _ _ _ h hP hS (lv_sub hl [1, 2, 0] rfl)
  have hl : lv_has ls 3 [(0, .ref (a 13)), (1, .ref (a 4))] := hl
  refine lv_iconst (v := 0) hx hb dX3_copyRow_0 (by decide) ?_
  refine lv_istore_n (lv' := [(2, .int (0 : Int32)), (0, .ref (a 13)), (1, .ref (a 4))]) hx hb dX3_copyRow_1 rfl hl (by decide) rfl (fun ls hl => ?_)
  exact w2  zN ((0 : Int32)) (s) _ _ _ h hP hS (lv_sub hl [1, 2, 0] rfl)
abbrev rmX3_copyRow_14_5 : Room := { frames := 0, cells := 0, slots := 0, locals := 0 }
set_option maxHeartbeats 4000000 in
set_option maxRecDepth 100000 in
theorem kX3_copyRow_14_5 {l : Launch} {D : va_G} {a : Nat → Nat} {cI cJ cC : ClassId} {adK adV : Nat → Nat}  {s τ : ZS} {r : Unit} (h : fX3_copyRow_14_5  s = some (r, τ)) : zMv (zcC a cI cJ cC) 41 a D [(cI, .int), (cJ, .long)] (zEC adK adV) l yX3_copyRow wsX3_copyRow rmX3_copyRow_14_5 [.ref (a 14), .ref (a 5)] s r τ := by
  refine z_start (cc := cX3_copyRow) (maxL := 3) (ret := none) RX3 rfl (by decide) rfl (Nat.le_of_ble_eq_true rfl) ?_
  intro p e st m args below meth c ls H locs X hr hlocks hA hE hP hS hl
  obtain ⟨hx, hb, hml, hown, hts, -⟩ := id X
  have hG := zEC_good adK adV
  have w2 : ∀  (n : Nat) (x2 : Int32) (s : ZS) (H : Heap) (locs : List Loc) (ls : Array Slot), fX3_copyRow_14_5_2n  n (x2, s) = some (r, τ) → va_P D vwCl (zW (zcC a cI cJ cC) 41 a s) H → va_S (zF 41 a st.heap.size) st.heap H locs → lv_has ls 3 [(0, .ref (a 14)), (1, .ref (a 5)), (2, .int x2)] → W p l e rmX3_copyRow_14_5 st m args below meth c H locs 0 0 (MQ below (va_Qv (fun (τ' : ZS) => τ' = τ) (zPost (zcC a cI cJ cC) 41 a D [(cI, .int), (cJ, .long)]) (zF 41 a st.heap.size)) args st 0 0 (zF 41 a st.heap.size)) (F0 m 2 ls []) := by
    intro  n
    induction n with
    | zero => intro x2 s H locs ls h; exact zloop_0 h
    | succ n ih =>
      intro x2 s H locs ls h hP hS hl
      have h : fX3_copyRow_14_5_2b  (fun x2 s => fX3_copyRow_14_5_2n  n (x2, s)) x2 s = some (r, τ) := h
      refine lv_iload_n hx hb dX3_copyRow_2 rfl (lv_at hl 2 rfl) ?_
      refine lv_aload_n hx hb dX3_copyRow_3 rfl (lv_at hl 0 rfl) ?_
      refine z_alen (v := 6) X hP 14 0 (by decide) (zcC_14 _ _ _ _ _ _) rfl rfl dX3_copyRow_4 ?_
      refine lv_icmp_ge (tgt := 26) hx hb dX3_copyRow_5 (by decide) (fun c1 => ?_) (fun c1 => ?_)
      · have h := zif_t h c1
        exact z_vret X hP hS hr hlocks h dX3_copyRow_26
      · have h := zif_f h c1
        refine lv_iload_n hx hb dX3_copyRow_8 rfl (lv_at hl 2 rfl) ?_
        refine lv_aload_n hx hb dX3_copyRow_9 rfl (lv_at hl 1 rfl) ?_
        refine z_alen (v := 6) X hP 5 0 (by decide) (zcC_5 _ _ _ _ _ _) rfl rfl dX3_copyRow_10 ?_
        refine lv_icmp_ge (tgt := 26) hx hb dX3_copyRow_11 (by decide) (fun c2 => ?_) (fun c2 => ?_)
        · have h := zif_t h c2
          exact z_vret X hP hS hr hlocks h dX3_copyRow_26
        · have h := zif_f h c2
          refine lv_aload_n hx hb dX3_copyRow_14 rfl (lv_at hl 1 rfl) ?_
          refine lv_iload_n hx hb dX3_copyRow_15 rfl (lv_at hl 2 rfl) ?_
          refine lv_aload_n hx hb dX3_copyRow_16 rfl (lv_at hl 0 rfl) ?_
          refine lv_iload_n hx hb dX3_copyRow_17 rfl (lv_at hl 2 rfl) ?_
          obtain ⟨g3, h⟩ := zg_some h
          refine z_iald X hP 14 0 (by decide) (zcC_14 _ _ _ _ _ _) rfl g3 dX3_copyRow_18 ?_
          obtain ⟨g4, h⟩ := zg_some h
          refine z_iast X hA hP hS 5 0 (by decide) (zcC_5 _ _ _ _) rfl g4 dX3_copyRow_19 (fun H locs hP hS => ?_)
          refine lv_iinc (v := (x2 + (1 : Int32))) (lv' := [(2, .int (x2 + (1 : Int32))), (0, .ref (a 14)), (1, .ref (a 5))]) hx hb dX3_copyRow_20 hl (k := 2) rfl rfl (by decide) rfl (fun ls hl => ?_)
          refine lv_goto (tgt := 2) hx hb dX3_copyRow_23 (by decide) ?_
          exact ih ((x2 + (1 : Int32))) ((zI s 5 (x2).toNatClampNeg ((s).1 14 (x2).toNatClampNeg))) _ _ _ h hP hS (lv_sub hl [1, 2, 0] rfl)
  have hl : lv_has ls 3 [(0, .ref (a 14)), (1, .ref (a 5))] := hl
  refine lv_iconst (v := 0) hx hb dX3_copyRow_0 (by decide) ?_
  refine lv_istore_n (lv' := [(2, .int (0 : Int32)), (0, .ref (a 14)), (1, .ref (a 5))]) hx hb dX3_copyRow_1 rfl hl (by decide) rfl (fun ls hl => ?_)
  exact w2  zN ((0 : Int32)) (s) _ _ _ h hP hS (lv_sub hl [1, 2, 0] rfl)
abbrev rmX3_copyRow_15_6 : Room := { frames := 0, cells := 0, slots := 0, locals := 0 }
set_option maxHeartbeats 4000000 in
set_option maxRecDepth 100000 in
theorem kX3_copyRow_15_6 {l : Launch} {D : va_G} {a : Nat → Nat} {cI cJ cC : ClassId} {adK adV : Nat → Nat}  {s τ : ZS} {r : Unit} (h : fX3_copyRow_15_6  s = some (r, τ)) : zMv (zcC a cI cJ cC) 41 a D [(cI, .int), (cJ, .long)] (zEC adK adV) l yX3_copyRow wsX3_copyRow rmX3_copyRow_15_6 [.ref (a 15), .ref (a 6)] s r τ := by
  refine z_start (cc := cX3_copyRow) (maxL := 3) (ret := none) RX3 rfl (by decide) rfl (Nat.le_of_ble_eq_true rfl) ?_
  intro p e st m args below meth c ls H locs X hr hlocks hA hE hP hS hl
  obtain ⟨hx, hb, hml, hown, hts, -⟩ := id X
  have hG := zEC_good adK adV
  have w2 : ∀  (n : Nat) (x2 : Int32) (s : ZS) (H : Heap) (locs : List Loc) (ls : Array Slot), fX3_copyRow_15_6_2n  n (x2, s) = some (r, τ) → va_P D vwCl (zW (zcC a cI cJ cC) 41 a s) H → va_S (zF 41 a st.heap.size) st.heap H locs → lv_has ls 3 [(0, .ref (a 15)), (1, .ref (a 6)), (2, .int x2)] → W p l e rmX3_copyRow_15_6 st m args below meth c H locs 0 0 (MQ below (va_Qv (fun (τ' : ZS) => τ' = τ) (zPost (zcC a cI cJ cC) 41 a D [(cI, .int), (cJ, .long)]) (zF 41 a st.heap.size)) args st 0 0 (zF 41 a st.heap.size)) (F0 m 2 ls []) := by
    intro  n
    induction n with
    | zero => intro x2 s H locs ls h; exact zloop_0 h
    | succ n ih =>
      intro x2 s H locs ls h hP hS hl
      have h : fX3_copyRow_15_6_2b  (fun x2 s => fX3_copyRow_15_6_2n  n (x2, s)) x2 s = some (r, τ) := h
      refine lv_iload_n hx hb dX3_copyRow_2 rfl (lv_at hl 2 rfl) ?_
      refine lv_aload_n hx hb dX3_copyRow_3 rfl (lv_at hl 0 rfl) ?_
      refine z_alen (v := 36) X hP 15 0 (by decide) (zcC_15 _ _ _ _ _ _) rfl rfl dX3_copyRow_4 ?_
      refine lv_icmp_ge (tgt := 26) hx hb dX3_copyRow_5 (by decide) (fun c1 => ?_) (fun c1 => ?_)
      · have h := zif_t h c1
        exact z_vret X hP hS hr hlocks h dX3_copyRow_26
      · have h := zif_f h c1
        refine lv_iload_n hx hb dX3_copyRow_8 rfl (lv_at hl 2 rfl) ?_
        refine lv_aload_n hx hb dX3_copyRow_9 rfl (lv_at hl 1 rfl) ?_
        refine z_alen (v := 36) X hP 6 0 (by decide) (zcC_6 _ _ _ _ _ _) rfl rfl dX3_copyRow_10 ?_
        refine lv_icmp_ge (tgt := 26) hx hb dX3_copyRow_11 (by decide) (fun c2 => ?_) (fun c2 => ?_)
        · have h := zif_t h c2
          exact z_vret X hP hS hr hlocks h dX3_copyRow_26
        · have h := zif_f h c2
          refine lv_aload_n hx hb dX3_copyRow_14 rfl (lv_at hl 1 rfl) ?_
          refine lv_iload_n hx hb dX3_copyRow_15 rfl (lv_at hl 2 rfl) ?_
          refine lv_aload_n hx hb dX3_copyRow_16 rfl (lv_at hl 0 rfl) ?_
          refine lv_iload_n hx hb dX3_copyRow_17 rfl (lv_at hl 2 rfl) ?_
          obtain ⟨g3, h⟩ := zg_some h
          refine z_iald X hP 15 0 (by decide) (zcC_15 _ _ _ _ _ _) rfl g3 dX3_copyRow_18 ?_
          obtain ⟨g4, h⟩ := zg_some h
          refine z_iast X hA hP hS 6 0 (by decide) (zcC_6 _ _ _ _) rfl g4 dX3_copyRow_19 (fun H locs hP hS => ?_)
          refine lv_iinc (v := (x2 + (1 : Int32))) (lv' := [(2, .int (x2 + (1 : Int32))), (0, .ref (a 15)), (1, .ref (a 6))]) hx hb dX3_copyRow_20 hl (k := 2) rfl rfl (by decide) rfl (fun ls hl => ?_)
          refine lv_goto (tgt := 2) hx hb dX3_copyRow_23 (by decide) ?_
          exact ih ((x2 + (1 : Int32))) ((zI s 6 (x2).toNatClampNeg ((s).1 15 (x2).toNatClampNeg))) _ _ _ h hP hS (lv_sub hl [1, 2, 0] rfl)
  have hl : lv_has ls 3 [(0, .ref (a 15)), (1, .ref (a 6))] := hl
  refine lv_iconst (v := 0) hx hb dX3_copyRow_0 (by decide) ?_
  refine lv_istore_n (lv' := [(2, .int (0 : Int32)), (0, .ref (a 15)), (1, .ref (a 6))]) hx hb dX3_copyRow_1 rfl hl (by decide) rfl (fun ls hl => ?_)
  exact w2  zN ((0 : Int32)) (s) _ _ _ h hP hS (lv_sub hl [1, 2, 0] rfl)
