abbrev rmX3_copyRow_16_7 : Room := { frames := 0, cells := 0, slots := 0, locals := 0 }
set_option maxHeartbeats 4000000 in
set_option maxRecDepth 100000 in
theorem kX3_copyRow_16_7 {l : Launch} {D : va_G} {a : Nat → Nat} {cI cJ cC : ClassId} {adK adV : Nat → Nat}  {s τ : ZS} {r : Unit} (h : fX3_copyRow_16_7  s = some (r, τ)) : zMv (zcC a cI cJ cC) 41 a D [(cI, .int), (cJ, .long)] (zEC adK adV) l yX3_copyRow wsX3_copyRow rmX3_copyRow_16_7 [.ref (a 16), .ref (a 7)] s r τ := by
  refine z_start (cc := cX3_copyRow) (maxL := 3) (ret := none) RX3 rfl (by decide) rfl (Nat.le_of_ble_eq_true rfl) ?_
  intro p e st m args below meth c ls H locs X hr hlocks hA hE hP hS hl
  obtain ⟨hx, hb, hml, hown, hts, -⟩ := id X
  have hG := zEC_good adK adV
  have w2 : ∀  (n : Nat) (x2 : Int32) (s : ZS) (H : Heap) (locs : List Loc) (ls : Array Slot), fX3_copyRow_16_7_2n  n (x2, s) = some (r, τ) → va_P D vwCl (zW (zcC a cI cJ cC) 41 a s) H → va_S (zF 41 a st.heap.size) st.heap H locs → lv_has ls 3 [(0, .ref (a 16)), (1, .ref (a 7)), (2, .int x2)] → W p l e rmX3_copyRow_16_7 st m args below meth c H locs 0 0 (MQ below (va_Qv (fun (τ' : ZS) => τ' = τ) (zPost (zcC a cI cJ cC) 41 a D [(cI, .int), (cJ, .long)]) (zF 41 a st.heap.size)) args st 0 0 (zF 41 a st.heap.size)) (F0 m 2 ls []) := by
    intro  n
    induction n with
    | zero => intro x2 s H locs ls h; exact zloop_0 h
    | succ n ih =>
      intro x2 s H locs ls h hP hS hl
      have h : fX3_copyRow_16_7_2b  (fun x2 s => fX3_copyRow_16_7_2n  n (x2, s)) x2 s = some (r, τ) := h
      refine lv_iload_n hx hb dX3_copyRow_2 rfl (lv_at hl 2 rfl) ?_
      refine lv_aload_n hx hb dX3_copyRow_3 rfl (lv_at hl 0 rfl) ?_
      refine z_alen (v := 15) X hP 16 0 (by decide) (zcC_16 _ _ _ _ _ _) rfl rfl dX3_copyRow_4 ?_
      refine lv_icmp_ge (tgt := 26) hx hb dX3_copyRow_5 (by decide) (fun c1 => ?_) (fun c1 => ?_)
      · have h := zif_t h c1
        exact z_vret X hP hS hr hlocks h dX3_copyRow_26
      · have h := zif_f h c1
        refine lv_iload_n hx hb dX3_copyRow_8 rfl (lv_at hl 2 rfl) ?_
        refine lv_aload_n hx hb dX3_copyRow_9 rfl (lv_at hl 1 rfl) ?_
        refine z_alen (v := 15) X hP 7 0 (by decide) (zcC_7 _ _ _ _ _ _) rfl rfl dX3_copyRow_10 ?_
        refine lv_icmp_ge (tgt := 26) hx hb dX3_copyRow_11 (by decide) (fun c2 => ?_) (fun c2 => ?_)
        · have h := zif_t h c2
          exact z_vret X hP hS hr hlocks h dX3_copyRow_26
        · have h := zif_f h c2
          refine lv_aload_n hx hb dX3_copyRow_14 rfl (lv_at hl 1 rfl) ?_
          refine lv_iload_n hx hb dX3_copyRow_15 rfl (lv_at hl 2 rfl) ?_
          refine lv_aload_n hx hb dX3_copyRow_16 rfl (lv_at hl 0 rfl) ?_
          refine lv_iload_n hx hb dX3_copyRow_17 rfl (lv_at hl 2 rfl) ?_
          obtain ⟨g3, h⟩ := zg_some h
          refine z_iald X hP 16 0 (by decide) (zcC_16 _ _ _ _ _ _) rfl g3 dX3_copyRow_18 ?_
          obtain ⟨g4, h⟩ := zg_some h
          refine z_iast X hA hP hS 7 0 (by decide) (zcC_7 _ _ _ _) rfl g4 dX3_copyRow_19 (fun H locs hP hS => ?_)
          refine lv_iinc (v := (x2 + (1 : Int32))) (lv' := [(2, .int (x2 + (1 : Int32))), (0, .ref (a 16)), (1, .ref (a 7))]) hx hb dX3_copyRow_20 hl (k := 2) rfl rfl (by decide) rfl (fun ls hl => ?_)
          refine lv_goto (tgt := 2) hx hb dX3_copyRow_23 (by decide) ?_
          exact ih ((x2 + (1 : Int32))) ((zI s 7 (x2).toNatClampNeg ((s).1 16 (x2).toNatClampNeg))) _ _ _ h hP hS (lv_sub hl [1, 2, 0] rfl)
  have hl : lv_has ls 3 [(0, .ref (a 16)), (1, .ref (a 7))] := hl
  refine lv_iconst (v := 0) hx hb dX3_copyRow_0 (by decide) ?_
  refine lv_istore_n (lv' := [(2, .int (0 : Int32)), (0, .ref (a 16)), (1, .ref (a 7))]) hx hb dX3_copyRow_1 rfl hl (by decide) rfl (fun ls hl => ?_)
  exact w2  zN ((0 : Int32)) (s) _ _ _ h hP hS (lv_sub hl [1, 2, 0] rfl)
abbrev rmX3_copyRow_17_8 : Room := { frames := 0, cells := 0, slots := 0, locals := 0 }
set_option maxHeartbeats 4000000 in
set_option maxRecDepth 100000 in
theorem kX3_copyRow_17_8 {l : Launch} {D : va_G} {a : Nat → Nat} {cI cJ cC : ClassId} {adK adV : Nat → Nat}  {s τ : ZS} {r : Unit} (h : fX3_copyRow_17_8  s = some (r, τ)) : zMv (zcC a cI cJ cC) 41 a D [(cI, .int), (cJ, .long)] (zEC adK adV) l yX3_copyRow wsX3_copyRow rmX3_copyRow_17_8 [.ref (a 17), .ref (a 8)] s r τ := by
  refine z_start (cc := cX3_copyRow) (maxL := 3) (ret := none) RX3 rfl (by decide) rfl (Nat.le_of_ble_eq_true rfl) ?_
  intro p e st m args below meth c ls H locs X hr hlocks hA hE hP hS hl
  obtain ⟨hx, hb, hml, hown, hts, -⟩ := id X
  have hG := zEC_good adK adV
  have w2 : ∀  (n : Nat) (x2 : Int32) (s : ZS) (H : Heap) (locs : List Loc) (ls : Array Slot), fX3_copyRow_17_8_2n  n (x2, s) = some (r, τ) → va_P D vwCl (zW (zcC a cI cJ cC) 41 a s) H → va_S (zF 41 a st.heap.size) st.heap H locs → lv_has ls 3 [(0, .ref (a 17)), (1, .ref (a 8)), (2, .int x2)] → W p l e rmX3_copyRow_17_8 st m args below meth c H locs 0 0 (MQ below (va_Qv (fun (τ' : ZS) => τ' = τ) (zPost (zcC a cI cJ cC) 41 a D [(cI, .int), (cJ, .long)]) (zF 41 a st.heap.size)) args st 0 0 (zF 41 a st.heap.size)) (F0 m 2 ls []) := by
    intro  n
    induction n with
    | zero => intro x2 s H locs ls h; exact zloop_0 h
    | succ n ih =>
      intro x2 s H locs ls h hP hS hl
      have h : fX3_copyRow_17_8_2b  (fun x2 s => fX3_copyRow_17_8_2n  n (x2, s)) x2 s = some (r, τ) := h
      refine lv_iload_n hx hb dX3_copyRow_2 rfl (lv_at hl 2 rfl) ?_
      refine lv_aload_n hx hb dX3_copyRow_3 rfl (lv_at hl 0 rfl) ?_
      refine z_alen (v := 15) X hP 17 0 (by decide) (zcC_17 _ _ _ _ _ _) rfl rfl dX3_copyRow_4 ?_
      refine lv_icmp_ge (tgt := 26) hx hb dX3_copyRow_5 (by decide) (fun c1 => ?_) (fun c1 => ?_)
      · have h := zif_t h c1
        exact z_vret X hP hS hr hlocks h dX3_copyRow_26
      · have h := zif_f h c1
        refine lv_iload_n hx hb dX3_copyRow_8 rfl (lv_at hl 2 rfl) ?_
        refine lv_aload_n hx hb dX3_copyRow_9 rfl (lv_at hl 1 rfl) ?_
        refine z_alen (v := 15) X hP 8 0 (by decide) (zcC_8 _ _ _ _ _ _) rfl rfl dX3_copyRow_10 ?_
        refine lv_icmp_ge (tgt := 26) hx hb dX3_copyRow_11 (by decide) (fun c2 => ?_) (fun c2 => ?_)
        · have h := zif_t h c2
          exact z_vret X hP hS hr hlocks h dX3_copyRow_26
        · have h := zif_f h c2
          refine lv_aload_n hx hb dX3_copyRow_14 rfl (lv_at hl 1 rfl) ?_
          refine lv_iload_n hx hb dX3_copyRow_15 rfl (lv_at hl 2 rfl) ?_
          refine lv_aload_n hx hb dX3_copyRow_16 rfl (lv_at hl 0 rfl) ?_
          refine lv_iload_n hx hb dX3_copyRow_17 rfl (lv_at hl 2 rfl) ?_
          obtain ⟨g3, h⟩ := zg_some h
          refine z_iald X hP 17 0 (by decide) (zcC_17 _ _ _ _ _ _) rfl g3 dX3_copyRow_18 ?_
          obtain ⟨g4, h⟩ := zg_some h
          refine z_iast X hA hP hS 8 0 (by decide) (zcC_8 _ _ _ _) rfl g4 dX3_copyRow_19 (fun H locs hP hS => ?_)
          refine lv_iinc (v := (x2 + (1 : Int32))) (lv' := [(2, .int (x2 + (1 : Int32))), (0, .ref (a 17)), (1, .ref (a 8))]) hx hb dX3_copyRow_20 hl (k := 2) rfl rfl (by decide) rfl (fun ls hl => ?_)
          refine lv_goto (tgt := 2) hx hb dX3_copyRow_23 (by decide) ?_
          exact ih ((x2 + (1 : Int32))) ((zI s 8 (x2).toNatClampNeg ((s).1 17 (x2).toNatClampNeg))) _ _ _ h hP hS (lv_sub hl [1, 2, 0] rfl)
  have hl : lv_has ls 3 [(0, .ref (a 17)), (1, .ref (a 8))] := hl
  refine lv_iconst (v := 0) hx hb dX3_copyRow_0 (by decide) ?_
  refine lv_istore_n (lv' := [(2, .int (0 : Int32)), (0, .ref (a 17)), (1, .ref (a 8))]) hx hb dX3_copyRow_1 rfl hl (by decide) rfl (fun ls hl => ?_)
  exact w2  zN ((0 : Int32)) (s) _ _ _ h hP hS (lv_sub hl [1, 2, 0] rfl)
abbrev rmX3_copyRow_18_9 : Room := { frames := 0, cells := 0, slots := 0, locals := 0 }
set_option maxHeartbeats 4000000 in
set_option maxRecDepth 100000 in
theorem kX3_copyRow_18_9 {l : Launch} {D : va_G} {a : Nat → Nat} {cI cJ cC : ClassId} {adK adV : Nat → Nat}  {s τ : ZS} {r : Unit} (h : fX3_copyRow_18_9  s = some (r, τ)) : zMv (zcC a cI cJ cC) 41 a D [(cI, .int), (cJ, .long)] (zEC adK adV) l yX3_copyRow wsX3_copyRow rmX3_copyRow_18_9 [.ref (a 18), .ref (a 9)] s r τ := by
  refine z_start (cc := cX3_copyRow) (maxL := 3) (ret := none) RX3 rfl (by decide) rfl (Nat.le_of_ble_eq_true rfl) ?_
  intro p e st m args below meth c ls H locs X hr hlocks hA hE hP hS hl
  obtain ⟨hx, hb, hml, hown, hts, -⟩ := id X
  have hG := zEC_good adK adV
  have w2 : ∀  (n : Nat) (x2 : Int32) (s : ZS) (H : Heap) (locs : List Loc) (ls : Array Slot), fX3_copyRow_18_9_2n  n (x2, s) = some (r, τ) → va_P D vwCl (zW (zcC a cI cJ cC) 41 a s) H → va_S (zF 41 a st.heap.size) st.heap H locs → lv_has ls 3 [(0, .ref (a 18)), (1, .ref (a 9)), (2, .int x2)] → W p l e rmX3_copyRow_18_9 st m args below meth c H locs 0 0 (MQ below (va_Qv (fun (τ' : ZS) => τ' = τ) (zPost (zcC a cI cJ cC) 41 a D [(cI, .int), (cJ, .long)]) (zF 41 a st.heap.size)) args st 0 0 (zF 41 a st.heap.size)) (F0 m 2 ls []) := by
    intro  n
    induction n with
    | zero => intro x2 s H locs ls h; exact zloop_0 h
    | succ n ih =>
      intro x2 s H locs ls h hP hS hl
      have h : fX3_copyRow_18_9_2b  (fun x2 s => fX3_copyRow_18_9_2n  n (x2, s)) x2 s = some (r, τ) := h
      refine lv_iload_n hx hb dX3_copyRow_2 rfl (lv_at hl 2 rfl) ?_
      refine lv_aload_n hx hb dX3_copyRow_3 rfl (lv_at hl 0 rfl) ?_
      refine z_alen (v := 3) X hP 18 0 (by decide) (zcC_18 _ _ _ _ _ _) rfl rfl dX3_copyRow_4 ?_
      refine lv_icmp_ge (tgt := 26) hx hb dX3_copyRow_5 (by decide) (fun c1 => ?_) (fun c1 => ?_)
      · have h := zif_t h c1
        exact z_vret X hP hS hr hlocks h dX3_copyRow_26
      · have h := zif_f h c1
        refine lv_iload_n hx hb dX3_copyRow_8 rfl (lv_at hl 2 rfl) ?_
        refine lv_aload_n hx hb dX3_copyRow_9 rfl (lv_at hl 1 rfl) ?_
        refine z_alen (v := 3) X hP 9 0 (by decide) (zcC_9 _ _ _ _ _ _) rfl rfl dX3_copyRow_10 ?_
        refine lv_icmp_ge (tgt := 26) hx hb dX3_copyRow_11 (by decide) (fun c2 => ?_) (fun c2 => ?_)
        · have h := zif_t h c2
          exact z_vret X hP hS hr hlocks h dX3_copyRow_26
        · have h := zif_f h c2
          refine lv_aload_n hx hb dX3_copyRow_14 rfl (lv_at hl 1 rfl) ?_
          refine lv_iload_n hx hb dX3_copyRow_15 rfl (lv_at hl 2 rfl) ?_
          refine lv_aload_n hx hb dX3_copyRow_16 rfl (lv_at hl 0 rfl) ?_
          refine lv_iload_n hx hb dX3_copyRow_17 rfl (lv_at hl 2 rfl) ?_
          obtain ⟨g3, h⟩ := zg_some h
          refine z_iald X hP 18 0 (by decide) (zcC_18 _ _ _ _ _ _) rfl g3 dX3_copyRow_18 ?_
          obtain ⟨g4, h⟩ := zg_some h
          refine z_iast X hA hP hS 9 0 (by decide) (zcC_9 _ _ _ _) rfl g4 dX3_copyRow_19 (fun H locs hP hS => ?_)
          refine lv_iinc (v := (x2 + (1 : Int32))) (lv' := [(2, .int (x2 + (1 : Int32))), (0, .ref (a 18)), (1, .ref (a 9))]) hx hb dX3_copyRow_20 hl (k := 2) rfl rfl (by decide) rfl (fun ls hl => ?_)
          refine lv_goto (tgt := 2) hx hb dX3_copyRow_23 (by decide) ?_
          exact ih ((x2 + (1 : Int32))) ((zI s 9 (x2).toNatClampNeg ((s).1 18 (x2).toNatClampNeg))) _ _ _ h hP hS (lv_sub hl [1, 2, 0] rfl)
  have hl : lv_has ls 3 [(0, .ref (a 18)), (1, .ref (a 9))] := hl
  refine lv_iconst (v := 0) hx hb dX3_copyRow_0 (by decide) ?_
  refine lv_istore_n (lv' := [(2, .int (0 : Int32)), (0, .ref (a 18)), (1, .ref (a 9))]) hx hb dX3_copyRow_1 rfl hl (by decide) rfl (fun ls hl => ?_)
  exact w2  zN ((0 : Int32)) (s) _ _ _ h hP hS (lv_sub hl [1, 2, 0] rfl)
abbrev rmX3_becomeLike_1_10 : Room := { frames := 1, cells := 0, slots := 0, locals := 22 }
set_option maxHeartbeats 4000000 in
set_option maxRecDepth 100000 in
theorem kX3_becomeLike_1_10 {l : Launch} {D : va_G} {a : Nat → Nat} {cI cJ cC : ClassId} {adK adV : Nat → Nat}  {s τ : ZS} {r : Unit} (h : fX3_becomeLike_1_10  s = some (r, τ)) : zMv (zcC a cI cJ cC) 41 a D [(cI, .int), (cJ, .long)] (zEC adK adV) l yX3_becomeLike wsX3_becomeLike rmX3_becomeLike_1_10 [.ref (a 1), .ref (a 10)] s r τ := by
  refine z_start (cc := cX3_becomeLike) (maxL := 2) (ret := none) RX3 rfl (by decide) rfl (Nat.le_of_ble_eq_true rfl) ?_
  intro p e st m args below meth c ls H locs X hr hlocks hA hE hP hS hl
  obtain ⟨hx, hb, hml, hown, hts, -⟩ := id X
  have hG := zEC_good adK adV
  have inX3 : ∀ w ∈ u_ws RX3 TX3 10, w ∈ wsX3_becomeLike := by decide +kernel
  have hl : lv_has ls 2 [(0, .ref (a 1)), (1, .ref (a 10))] := hl
  refine lv_aload_n hx hb dX3_becomeLike_0 rfl (lv_at hl 0 rfl) ?_
  refine lv_aload_n hx hb dX3_becomeLike_1 rfl (lv_at hl 1 rfl) ?_
  refine z_get (C := RX3) (T := TX3) (N := 10) X inX3 hP 10 (by decide) (zcC_10 _ _ _ _ _ _) rfl 0 (by decide) rfl (by decide +kernel) rfl dX3_becomeLike_2 ?_
  refine z_put (ty := .int) (x := ((s).1 10 0)) (C := RX3) (T := TX3) (N := 10) X inX3 tyX3 tyX3_ok nmX3 hA hP hS 1 (by decide) (zcC_1 _ _ _ _ _ _) rfl 0 (by decide) rfl (by decide +kernel) rfl (by decide +kernel) rfl rfl (Nat.le_of_ble_eq_true rfl) rfl dX3_becomeLike_5 (fun H locs hP hS => ?_)
  refine lv_aload_n hx hb dX3_becomeLike_8 rfl (lv_at hl 1 rfl) ?_
  refine z_get (C := RX3) (T := TX3) (N := 10) X inX3 hP 10 (by decide) (zcC_10 _ _ _ _ _ _) rfl 1 (by decide) rfl (by decide +kernel) rfl dX3_becomeLike_9 ?_
  refine lv_aload_n hx hb dX3_becomeLike_12 rfl (lv_at hl 0 rfl) ?_
  refine z_get (C := RX3) (T := TX3) (N := 10) X inX3 hP 1 (by decide) (zcC_1 _ _ _ _ _ _) rfl 1 (by decide) rfl (by decide +kernel) rfl dX3_becomeLike_13 ?_
  obtain ⟨u1, s1, e1, h⟩ := zb_some h
  refine z_callv hS (z_runS (As := [.ref (a 11), .ref (a 2)]) (rest := []) X hG hA hE hP hS (kX3_copyRow_11_2 (l := l) (D := D) (a := a) (cI := cI) (cJ := cJ) (cC := cC) (adK := adK) (adV := adV) e1 _) (va_cwS 2 hts gX3_becomeLike_X3_copyRow rfl rfl rfl (by decide +kernel) ⟨Nat.le_of_ble_eq_true rfl, Nat.le_of_ble_eq_true rfl⟩) rfl hl.1 rfl (Nat.le_of_ble_eq_true rfl) dX3_becomeLike_16) (fun H locs hP hS => ?_)
  refine lv_aload_n hx hb dX3_becomeLike_19 rfl (lv_at hl 1 rfl) ?_
  refine z_get (C := RX3) (T := TX3) (N := 10) X inX3 hP 10 (by decide) (zcC_10 _ _ _ _ _ _) rfl 2 (by decide) rfl (by decide +kernel) rfl dX3_becomeLike_20 ?_
  refine lv_aload_n hx hb dX3_becomeLike_23 rfl (lv_at hl 0 rfl) ?_
  refine z_get (C := RX3) (T := TX3) (N := 10) X inX3 hP 1 (by decide) (zcC_1 _ _ _ _ _ _) rfl 2 (by decide) rfl (by decide +kernel) rfl dX3_becomeLike_24 ?_
  obtain ⟨u2, s2, e2, h⟩ := zb_some h
  refine z_callv hS (z_runS (As := [.ref (a 12), .ref (a 3)]) (rest := []) X hG hA hE hP hS (kX3_copyRow_12_3 (l := l) (D := D) (a := a) (cI := cI) (cJ := cJ) (cC := cC) (adK := adK) (adV := adV) e2 _) (va_cwS 2 hts gX3_becomeLike_X3_copyRow rfl rfl rfl (by decide +kernel) ⟨Nat.le_of_ble_eq_true rfl, Nat.le_of_ble_eq_true rfl⟩) rfl hl.1 rfl (Nat.le_of_ble_eq_true rfl) dX3_becomeLike_27) (fun H locs hP hS => ?_)
  refine lv_aload_n hx hb dX3_becomeLike_30 rfl (lv_at hl 1 rfl) ?_
  refine z_get (C := RX3) (T := TX3) (N := 10) X inX3 hP 10 (by decide) (zcC_10 _ _ _ _ _ _) rfl 3 (by decide) rfl (by decide +kernel) rfl dX3_becomeLike_31 ?_
  refine lv_aload_n hx hb dX3_becomeLike_34 rfl (lv_at hl 0 rfl) ?_
  refine z_get (C := RX3) (T := TX3) (N := 10) X inX3 hP 1 (by decide) (zcC_1 _ _ _ _ _ _) rfl 3 (by decide) rfl (by decide +kernel) rfl dX3_becomeLike_35 ?_
  obtain ⟨u3, s3, e3, h⟩ := zb_some h
  refine z_callv hS (z_runS (As := [.ref (a 13), .ref (a 4)]) (rest := []) X hG hA hE hP hS (kX3_copyRow_13_4 (l := l) (D := D) (a := a) (cI := cI) (cJ := cJ) (cC := cC) (adK := adK) (adV := adV) e3 _) (va_cwS 2 hts gX3_becomeLike_X3_copyRow rfl rfl rfl (by decide +kernel) ⟨Nat.le_of_ble_eq_true rfl, Nat.le_of_ble_eq_true rfl⟩) rfl hl.1 rfl (Nat.le_of_ble_eq_true rfl) dX3_becomeLike_38) (fun H locs hP hS => ?_)
  refine lv_aload_n hx hb dX3_becomeLike_41 rfl (lv_at hl 0 rfl) ?_
  refine lv_aload_n hx hb dX3_becomeLike_42 rfl (lv_at hl 1 rfl) ?_
  refine z_get (C := RX3) (T := TX3) (N := 10) X inX3 hP 10 (by decide) (zcC_10 _ _ _ _ _ _) rfl 4 (by decide) rfl (by decide +kernel) rfl dX3_becomeLike_43 ?_
  refine z_put (ty := .int) (x := ((s3).1 10 4)) (C := RX3) (T := TX3) (N := 10) X inX3 tyX3 tyX3_ok nmX3 hA hP hS 1 (by decide) (zcC_1 _ _ _ _ _ _) rfl 4 (by decide) rfl (by decide +kernel) rfl (by decide +kernel) rfl rfl (Nat.le_of_ble_eq_true rfl) rfl dX3_becomeLike_46 (fun H locs hP hS => ?_)
  refine lv_aload_n hx hb dX3_becomeLike_49 rfl (lv_at hl 1 rfl) ?_
  refine z_get (C := RX3) (T := TX3) (N := 10) X inX3 hP 10 (by decide) (zcC_10 _ _ _ _ _ _) rfl 5 (by decide) rfl (by decide +kernel) rfl dX3_becomeLike_50 ?_
  refine lv_aload_n hx hb dX3_becomeLike_53 rfl (lv_at hl 0 rfl) ?_
  refine z_get (C := RX3) (T := TX3) (N := 10) X inX3 hP 1 (by decide) (zcC_1 _ _ _ _ _ _) rfl 5 (by decide) rfl (by decide +kernel) rfl dX3_becomeLike_54 ?_
  obtain ⟨u4, s4, e4, h⟩ := zb_some h
  refine z_callv hS (z_runS (As := [.ref (a 14), .ref (a 5)]) (rest := []) X hG hA hE hP hS (kX3_copyRow_14_5 (l := l) (D := D) (a := a) (cI := cI) (cJ := cJ) (cC := cC) (adK := adK) (adV := adV) e4 _) (va_cwS 2 hts gX3_becomeLike_X3_copyRow rfl rfl rfl (by decide +kernel) ⟨Nat.le_of_ble_eq_true rfl, Nat.le_of_ble_eq_true rfl⟩) rfl hl.1 rfl (Nat.le_of_ble_eq_true rfl) dX3_becomeLike_57) (fun H locs hP hS => ?_)
  refine lv_aload_n hx hb dX3_becomeLike_60 rfl (lv_at hl 1 rfl) ?_
  refine z_get (C := RX3) (T := TX3) (N := 10) X inX3 hP 10 (by decide) (zcC_10 _ _ _ _ _ _) rfl 6 (by decide) rfl (by decide +kernel) rfl dX3_becomeLike_61 ?_
  refine lv_aload_n hx hb dX3_becomeLike_64 rfl (lv_at hl 0 rfl) ?_
  refine z_get (C := RX3) (T := TX3) (N := 10) X inX3 hP 1 (by decide) (zcC_1 _ _ _ _ _ _) rfl 6 (by decide) rfl (by decide +kernel) rfl dX3_becomeLike_65 ?_
  obtain ⟨u5, s5, e5, h⟩ := zb_some h
  refine z_callv hS (z_runS (As := [.ref (a 15), .ref (a 6)]) (rest := []) X hG hA hE hP hS (kX3_copyRow_15_6 (l := l) (D := D) (a := a) (cI := cI) (cJ := cJ) (cC := cC) (adK := adK) (adV := adV) e5 _) (va_cwS 2 hts gX3_becomeLike_X3_copyRow rfl rfl rfl (by decide +kernel) ⟨Nat.le_of_ble_eq_true rfl, Nat.le_of_ble_eq_true rfl⟩) rfl hl.1 rfl (Nat.le_of_ble_eq_true rfl) dX3_becomeLike_68) (fun H locs hP hS => ?_)
  refine lv_aload_n hx hb dX3_becomeLike_71 rfl (lv_at hl 1 rfl) ?_
  refine z_get (C := RX3) (T := TX3) (N := 10) X inX3 hP 10 (by decide) (zcC_10 _ _ _ _ _ _) rfl 7 (by decide) rfl (by decide +kernel) rfl dX3_becomeLike_72 ?_
  refine lv_aload_n hx hb dX3_becomeLike_75 rfl (lv_at hl 0 rfl) ?_
  refine z_get (C := RX3) (T := TX3) (N := 10) X inX3 hP 1 (by decide) (zcC_1 _ _ _ _ _ _) rfl 7 (by decide) rfl (by decide +kernel) rfl dX3_becomeLike_76 ?_
  obtain ⟨u6, s6, e6, h⟩ := zb_some h
  refine z_callv hS (z_runS (As := [.ref (a 16), .ref (a 7)]) (rest := []) X hG hA hE hP hS (kX3_copyRow_16_7 (l := l) (D := D) (a := a) (cI := cI) (cJ := cJ) (cC := cC) (adK := adK) (adV := adV) e6 _) (va_cwS 2 hts gX3_becomeLike_X3_copyRow rfl rfl rfl (by decide +kernel) ⟨Nat.le_of_ble_eq_true rfl, Nat.le_of_ble_eq_true rfl⟩) rfl hl.1 rfl (Nat.le_of_ble_eq_true rfl) dX3_becomeLike_79) (fun H locs hP hS => ?_)
  refine lv_aload_n hx hb dX3_becomeLike_82 rfl (lv_at hl 1 rfl) ?_
  refine z_get (C := RX3) (T := TX3) (N := 10) X inX3 hP 10 (by decide) (zcC_10 _ _ _ _ _ _) rfl 8 (by decide) rfl (by decide +kernel) rfl dX3_becomeLike_83 ?_
  refine lv_aload_n hx hb dX3_becomeLike_86 rfl (lv_at hl 0 rfl) ?_
  refine z_get (C := RX3) (T := TX3) (N := 10) X inX3 hP 1 (by decide) (zcC_1 _ _ _ _ _ _) rfl 8 (by decide) rfl (by decide +kernel) rfl dX3_becomeLike_87 ?_
  obtain ⟨u7, s7, e7, h⟩ := zb_some h
  refine z_callv hS (z_runS (As := [.ref (a 17), .ref (a 8)]) (rest := []) X hG hA hE hP hS (kX3_copyRow_17_8 (l := l) (D := D) (a := a) (cI := cI) (cJ := cJ) (cC := cC) (adK := adK) (adV := adV) e7 _) (va_cwS 2 hts gX3_becomeLike_X3_copyRow rfl rfl rfl (by decide +kernel) ⟨Nat.le_of_ble_eq_true rfl, Nat.le_of_ble_eq_true rfl⟩) rfl hl.1 rfl (Nat.le_of_ble_eq_true rfl) dX3_becomeLike_90) (fun H locs hP hS => ?_)
  refine lv_aload_n hx hb dX3_becomeLike_93 rfl (lv_at hl 1 rfl) ?_
  refine z_get (C := RX3) (T := TX3) (N := 10) X inX3 hP 10 (by decide) (zcC_10 _ _ _ _ _ _) rfl 9 (by decide) rfl (by decide +kernel) rfl dX3_becomeLike_94 ?_
  refine lv_aload_n hx hb dX3_becomeLike_97 rfl (lv_at hl 0 rfl) ?_
  refine z_get (C := RX3) (T := TX3) (N := 10) X inX3 hP 1 (by decide) (zcC_1 _ _ _ _ _ _) rfl 9 (by decide) rfl (by decide +kernel) rfl dX3_becomeLike_98 ?_
  obtain ⟨u8, s8, e8, h⟩ := zb_some h
  refine z_callv hS (z_runS (As := [.ref (a 18), .ref (a 9)]) (rest := []) X hG hA hE hP hS (kX3_copyRow_18_9 (l := l) (D := D) (a := a) (cI := cI) (cJ := cJ) (cC := cC) (adK := adK) (adV := adV) e8 _) (va_cwS 2 hts gX3_becomeLike_X3_copyRow rfl rfl rfl (by decide +kernel) ⟨Nat.le_of_ble_eq_true rfl, Nat.le_of_ble_eq_true rfl⟩) rfl hl.1 rfl (Nat.le_of_ble_eq_true rfl) dX3_becomeLike_101) (fun H locs hP hS => ?_)
  exact z_vret X hP hS hr hlocks h dX3_becomeLike_104
abbrev rmX6_undo : Room := { frames := 2, cells := 0, slots := 0, locals := 43 }
set_option maxHeartbeats 4000000 in
set_option maxRecDepth 100000 in
theorem kX6_undo {l : Launch} {D : va_G} {a : Nat → Nat} {cI cJ cC : ClassId} {adK adV : Nat → Nat}  {s τ : ZS} {r : Int32} (h : fX6_undo  s = some (r, τ)) : zMi (zcC a cI cJ cC) 41 a D [(cI, .int), (cJ, .long)] (zEC adK adV) l yX6_undo wsX6_undo rmX6_undo [.ref (a 0)] s r τ := by
  refine z_start (cc := cX6_undo) (maxL := 1) (ret := (some .int)) RX6 rfl (by decide) rfl (Nat.le_of_ble_eq_true rfl) ?_
  intro p e st m args below meth c ls H locs X hr hlocks hA hE hP hS hl
  obtain ⟨hx, hb, hml, hown, hts, -⟩ := id X
  have hG := zEC_good adK adV
  have inX3 : ∀ w ∈ u_ws RX3 TX3 10, w ∈ wsX6_undo := by decide +kernel
  have inX6 : ∀ w ∈ u_ws RX6 TX6 12, w ∈ wsX6_undo := by decide +kernel
  have hl : lv_has ls 1 [(0, .ref (a 0))] := hl
  refine lv_aload_n hx hb dX6_undo_0 rfl (lv_at hl 0 rfl) ?_
  refine z_get (C := RX6) (T := TX6) (N := 12) X inX6 hP 0 (by decide) (zcC_0 _ _ _ _ _ _) rfl 2 (by decide) rfl (by decide +kernel) rfl dX6_undo_1 ?_
  refine lv_if_ne (tgt := 10) hx hb dX6_undo_4 (by decide) (fun c1 => ?_) (fun c1 => ?_)
  · have h := zif_f h c1
    refine lv_aload_n hx hb dX6_undo_10 rfl (lv_at hl 0 rfl) ?_
    refine z_get (C := RX6) (T := TX6) (N := 12) X inX6 hP 0 (by decide) (zcC_0 _ _ _ _ _ _) rfl 0 (by decide) rfl (by decide +kernel) rfl dX6_undo_11 ?_
    refine lv_aload_n hx hb dX6_undo_14 rfl (lv_at hl 0 rfl) ?_
    refine z_get (C := RX6) (T := TX6) (N := 12) X inX6 hP 0 (by decide) (zcC_0 _ _ _ _ _ _) rfl 1 (by decide) rfl (by decide +kernel) rfl dX6_undo_15 ?_
    obtain ⟨u2, s2, e2, h⟩ := zb_some h
    refine z_callv hS (z_runV (As := [.ref (a 10)]) (rest := []) X hG hA hE hP hS 1 (kX3_becomeLike_1_10 (l := l) (D := D) (a := a) (cI := cI) (cJ := cJ) (cC := cC) (adK := adK) (adV := adV) e2 _) (cwV 1 hts gX6_undo_X3_becomeLike rfl rfl rfl (by decide +kernel) ⟨Nat.le_of_ble_eq_true rfl, Nat.le_of_ble_eq_true rfl⟩) (by decide) (zcC_1 _ _ _ _ _ _) rfl rfl rfl hl.1 rfl (Nat.le_of_ble_eq_true rfl) dX6_undo_18) (fun H locs hP hS => ?_)
    refine lv_aload_n hx hb dX6_undo_21 rfl (lv_at hl 0 rfl) ?_
    refine z_get (C := RX6) (T := TX6) (N := 12) X inX6 hP 0 (by decide) (zcC_0 _ _ _ _ _ _) rfl 0 (by decide) rfl (by decide +kernel) rfl dX6_undo_22 ?_
    refine z_get (C := RX3) (T := TX3) (N := 10) X inX3 hP 1 (by decide) (zcC_1 _ _ _ _ _ _) rfl 0 (by decide) rfl (by decide +kernel) rfl dX6_undo_25 ?_
    exact z_iret X hP hS hr hlocks h dX6_undo_28
  · have h := zif_t h c1
    refine lv_bipush (v := -3) hx hb dX6_undo_7 (by decide) ?_
    exact z_iret X hP hS hr hlocks h dX6_undo_9
abbrev rmX3_sheetsLaid : Room := { frames := 0, cells := 0, slots := 0, locals := 0 }
set_option maxHeartbeats 4000000 in
set_option maxRecDepth 100000 in
theorem kX3_sheetsLaid {l : Launch} {D : va_G} {a : Nat → Nat} {cI cJ cC : ClassId} {adK adV : Nat → Nat}  {s τ : ZS} {r : Int32} (h : fX3_sheetsLaid  s = some (r, τ)) : zMi (zcC a cI cJ cC) 41 a D [(cI, .int), (cJ, .long)] (zEC adK adV) l yX3_sheetsLaid wsX3_sheetsLaid rmX3_sheetsLaid [.ref (a 1)] s r τ := by
  refine z_start (cc := cX3_sheetsLaid) (maxL := 3) (ret := (some .int)) RX3 rfl (by decide) rfl (Nat.le_of_ble_eq_true rfl) ?_
  intro p e st m args below meth c ls H locs X hr hlocks hA hE hP hS hl
  obtain ⟨hx, hb, hml, hown, hts, -⟩ := id X
  have hG := zEC_good adK adV
  have inX3 : ∀ w ∈ u_ws RX3 TX3 10, w ∈ wsX3_sheetsLaid := by decide +kernel
  have w4 : ∀  (n : Nat) (x1 : Int32) (x2 : Int32) (s : ZS) (H : Heap) (locs : List Loc) (ls : Array Slot), fX3_sheetsLaid_4n  n (x1, x2, s) = some (r, τ) → va_P D vwCl (zW (zcC a cI cJ cC) 41 a s) H → va_S (zF 41 a st.heap.size) st.heap H locs → lv_has ls 3 [(0, .ref (a 1)), (1, .int x1), (2, .int x2)] → W p l e rmX3_sheetsLaid st m args below meth c H locs 0 0 (MQ below (va_Qi (fun (r' : Int32) (τ' : ZS) => r' = r ∧ τ' = τ) (zPost (zcC a cI cJ cC) 41 a D [(cI, .int), (cJ, .long)]) (zF 41 a st.heap.size)) args st 0 0 (zF 41 a st.heap.size)) (F0 m 4 ls []) := by
    intro  n
    induction n with
    | zero => intro x1 x2 s H locs ls h; exact zloop_0 h
    | succ n ih =>
      intro x1 x2 s H locs ls h hP hS hl
      have h : fX3_sheetsLaid_4b  (fun x1 x2 s => fX3_sheetsLaid_4n  n (x1, x2, s)) x1 x2 s = some (r, τ) := h
      refine lv_iload_n hx hb dX3_sheetsLaid_4 rfl (lv_at hl 2 rfl) ?_
      refine lv_aload_n hx hb dX3_sheetsLaid_5 rfl (lv_at hl 0 rfl) ?_
      refine z_get (C := RX3) (T := TX3) (N := 10) X inX3 hP 1 (by decide) (zcC_1 _ _ _ _ _ _) rfl 4 (by decide) rfl (by decide +kernel) rfl dX3_sheetsLaid_6 ?_
      refine lv_icmp_ge (tgt := 27) hx hb dX3_sheetsLaid_9 (by decide) (fun c1 => ?_) (fun c1 => ?_)
      · have h := zif_t h c1
        refine lv_iload_n hx hb dX3_sheetsLaid_27 rfl (lv_at hl 1 rfl) ?_
        exact z_iret X hP hS hr hlocks h dX3_sheetsLaid_28
      · have h := zif_f h c1
        refine lv_iload_n hx hb dX3_sheetsLaid_12 rfl (lv_at hl 1 rfl) ?_
        refine lv_aload_n hx hb dX3_sheetsLaid_13 rfl (lv_at hl 0 rfl) ?_
        refine z_get (C := RX3) (T := TX3) (N := 10) X inX3 hP 1 (by decide) (zcC_1 _ _ _ _ _ _) rfl 5 (by decide) rfl (by decide +kernel) rfl dX3_sheetsLaid_14 ?_
        refine lv_iload_n hx hb dX3_sheetsLaid_17 rfl (lv_at hl 2 rfl) ?_
        obtain ⟨g2, h⟩ := zg_some h
        refine z_iald X hP 5 0 (by decide) (zcC_5 _ _ _ _ _ _) rfl g2 dX3_sheetsLaid_18 ?_
        refine lv_iadd hx hb dX3_sheetsLaid_19 ?_
        refine lv_istore_n (lv' := [(1, .int (x1 + ((s).1 5 (x2).toNatClampNeg))), (0, .ref (a 1)), (2, .int x2)]) hx hb dX3_sheetsLaid_20 rfl hl (by decide) rfl (fun ls hl => ?_)
        refine lv_iinc (v := (x2 + (1 : Int32))) (lv' := [(2, .int (x2 + (1 : Int32))), (1, .int (x1 + ((s).1 5 (x2).toNatClampNeg))), (0, .ref (a 1))]) hx hb dX3_sheetsLaid_21 hl (k := 2) rfl rfl (by decide) rfl (fun ls hl => ?_)
        refine lv_goto (tgt := 4) hx hb dX3_sheetsLaid_24 (by decide) ?_
        exact ih ((x1 + ((s).1 5 (x2).toNatClampNeg))) ((x2 + (1 : Int32))) (s) _ _ _ h hP hS (lv_sub hl [2, 1, 0] rfl)
  have hl : lv_has ls 3 [(0, .ref (a 1))] := hl
  refine lv_iconst (v := 0) hx hb dX3_sheetsLaid_0 (by decide) ?_
  refine lv_istore_n (lv' := [(1, .int (0 : Int32)), (0, .ref (a 1))]) hx hb dX3_sheetsLaid_1 rfl hl (by decide) rfl (fun ls hl => ?_)
  refine lv_iconst (v := 0) hx hb dX3_sheetsLaid_2 (by decide) ?_
  refine lv_istore_n (lv' := [(2, .int (0 : Int32)), (1, .int (0 : Int32)), (0, .ref (a 1))]) hx hb dX3_sheetsLaid_3 rfl hl (by decide) rfl (fun ls hl => ?_)
  exact w4  zN ((0 : Int32)) ((0 : Int32)) (s) _ _ _ h hP hS (lv_sub hl [2, 1, 0] rfl)
abbrev rmX6_count : Room := { frames := 1, cells := 0, slots := 0, locals := 22 }
set_option maxHeartbeats 4000000 in
set_option maxRecDepth 100000 in
theorem kX6_count {l : Launch} {D : va_G} {a : Nat → Nat} {cI cJ cC : ClassId} {adK adV : Nat → Nat} {x1 : Int32} {s τ : ZS} {r : Int32} (h : fX6_count x1 s = some (r, τ)) : zMi (zcC a cI cJ cC) 41 a D [(cI, .int), (cJ, .long)] (zEC adK adV) l yX6_count wsX6_count rmX6_count [.ref (a 0), .int x1] s r τ := by
  refine z_start (cc := cX6_count) (maxL := 2) (ret := (some .int)) RX6 rfl (by decide) rfl (Nat.le_of_ble_eq_true rfl) ?_
  intro p e st m args below meth c ls H locs X hr hlocks hA hE hP hS hl
  obtain ⟨hx, hb, hml, hown, hts, -⟩ := id X
  have hG := zEC_good adK adV
  have inX2 : ∀ w ∈ u_ws RX2 TX2 2, w ∈ wsX6_count := by decide +kernel
  have inX3 : ∀ w ∈ u_ws RX3 TX3 10, w ∈ wsX6_count := by decide +kernel
  have inX4 : ∀ w ∈ u_ws RX4 TX4 9, w ∈ wsX6_count := by decide +kernel
  have inX6 : ∀ w ∈ u_ws RX6 TX6 12, w ∈ wsX6_count := by decide +kernel
  have hl : lv_has ls 2 [(0, .ref (a 0)), (1, .int x1)] := hl
  refine lv_iload_n hx hb dX6_count_0 rfl (lv_at hl 1 rfl) ?_
  refine lv_if_ne (tgt := 12) hx hb dX6_count_1 (by decide) (fun c1 => ?_) (fun c1 => ?_)
  · have h := zif_f h c1
    refine lv_iload_n hx hb dX6_count_12 rfl (lv_at hl 1 rfl) ?_
    refine lv_iconst (v := 1) hx hb dX6_count_13 (by decide) ?_
    refine lv_icmp_ne (tgt := 25) hx hb dX6_count_14 (by decide) (fun c2 => ?_) (fun c2 => ?_)
    · have h := zif_f h c2
      refine lv_iload_n hx hb dX6_count_25 rfl (lv_at hl 1 rfl) ?_
      refine lv_iconst (v := 2) hx hb dX6_count_26 (by decide) ?_
      refine lv_icmp_ne (tgt := 38) hx hb dX6_count_27 (by decide) (fun c3 => ?_) (fun c3 => ?_)
      · have h := zif_f h c3
        refine lv_iload_n hx hb dX6_count_38 rfl (lv_at hl 1 rfl) ?_
        refine lv_iconst (v := 3) hx hb dX6_count_39 (by decide) ?_
        refine lv_icmp_ne (tgt := 51) hx hb dX6_count_40 (by decide) (fun c4 => ?_) (fun c4 => ?_)
        · have h := zif_f h c4
          refine lv_iload_n hx hb dX6_count_51 rfl (lv_at hl 1 rfl) ?_
          refine lv_iconst (v := 4) hx hb dX6_count_52 (by decide) ?_
          refine lv_icmp_ne (tgt := 64) hx hb dX6_count_53 (by decide) (fun c5 => ?_) (fun c5 => ?_)
          · have h := zif_f h c5
            refine lv_iload_n hx hb dX6_count_64 rfl (lv_at hl 1 rfl) ?_
            refine lv_iconst (v := 5) hx hb dX6_count_65 (by decide) ?_
            refine lv_isub hx hb dX6_count_66 ?_
            refine lv_iconst (v := 3) hx hb dX6_count_67 (by decide) ?_
            obtain ⟨u6, s6, e6, h⟩ := zb_some h
            refine z_calli hS (z_runS (As := [.int (x1 - (5 : Int32)), .int (3 : Int32)]) (rest := []) X hG hA hE hP hS (kX6_within (l := l) (D := D) (a := a) (cI := cI) (cJ := cJ) (cC := cC) (adK := adK) (adV := adV) e6 _) (va_cwS 2 hts gX6_count_X6_within rfl rfl rfl (by decide +kernel) ⟨Nat.le_of_ble_eq_true rfl, Nat.le_of_ble_eq_true rfl⟩) rfl hl.1 rfl (Nat.le_of_ble_eq_true rfl) dX6_count_68) (fun H locs hP hS => ?_)
            refine lv_if_eq (tgt := 88) hx hb dX6_count_71 (by decide) (fun c7 => ?_) (fun c7 => ?_)
            · have h := zif_t h c7
              refine lv_bipush (v := -2) hx hb dX6_count_88 (by decide) ?_
              exact z_iret X hP hS hr hlocks h dX6_count_90
            · have h := zif_f h c7
              refine lv_aload_n hx hb dX6_count_74 rfl (lv_at hl 0 rfl) ?_
              refine z_get (C := RX6) (T := TX6) (N := 12) X inX6 hP 0 (by decide) (zcC_0 _ _ _ _ _ _) rfl 0 (by decide) rfl (by decide +kernel) rfl dX6_count_75 ?_
              refine z_get (C := RX3) (T := TX3) (N := 10) X inX3 hP 1 (by decide) (zcC_1 _ _ _ _ _ _) rfl 9 (by decide) rfl (by decide +kernel) rfl dX6_count_78 ?_
              refine lv_iload_n hx hb dX6_count_81 rfl (lv_at hl 1 rfl) ?_
              refine lv_iconst (v := 5) hx hb dX6_count_82 (by decide) ?_
              refine lv_isub hx hb dX6_count_83 ?_
              obtain ⟨g8, h⟩ := zg_some h
              refine z_iald X hP 9 0 (by decide) (zcC_9 _ _ _ _ _ _) rfl g8 dX6_count_84 ?_
              refine lv_goto (tgt := 90) hx hb dX6_count_85 (by decide) ?_
              exact z_iret X hP hS hr hlocks h dX6_count_90
          · have h := zif_t h c5
            refine lv_aload_n hx hb dX6_count_56 rfl (lv_at hl 0 rfl) ?_
            refine z_get (C := RX6) (T := TX6) (N := 12) X inX6 hP 0 (by decide) (zcC_0 _ _ _ _ _ _) rfl 0 (by decide) rfl (by decide +kernel) rfl dX6_count_57 ?_
            obtain ⟨u9, s9, e9, h⟩ := zb_some h
            refine z_calli hS (z_runV (As := []) (rest := []) X hG hA hE hP hS 1 (kX3_sheetsLaid (l := l) (D := D) (a := a) (cI := cI) (cJ := cJ) (cC := cC) (adK := adK) (adV := adV) e9 _) (cwV 0 hts gX6_count_X3_sheetsLaid rfl rfl rfl (by decide +kernel) ⟨Nat.le_of_ble_eq_true rfl, Nat.le_of_ble_eq_true rfl⟩) (by decide) (zcC_1 _ _ _ _ _ _) rfl rfl rfl hl.1 rfl (Nat.le_of_ble_eq_true rfl) dX6_count_60) (fun H locs hP hS => ?_)
            exact z_iret X hP hS hr hlocks h dX6_count_63
        · have h := zif_t h c4
          refine lv_aload_n hx hb dX6_count_43 rfl (lv_at hl 0 rfl) ?_
          refine z_get (C := RX6) (T := TX6) (N := 12) X inX6 hP 0 (by decide) (zcC_0 _ _ _ _ _ _) rfl 6 (by decide) rfl (by decide +kernel) rfl dX6_count_44 ?_
          refine z_get (C := RX2) (T := TX2) (N := 2) X inX2 hP 32 (by decide) (zcC_32 _ _ _ _ _ _) rfl 1 (by decide) rfl (by decide +kernel) rfl dX6_count_47 ?_
          exact z_iret X hP hS hr hlocks h dX6_count_50
      · have h := zif_t h c3
        refine lv_aload_n hx hb dX6_count_30 rfl (lv_at hl 0 rfl) ?_
        refine z_get (C := RX6) (T := TX6) (N := 12) X inX6 hP 0 (by decide) (zcC_0 _ _ _ _ _ _) rfl 5 (by decide) rfl (by decide +kernel) rfl dX6_count_31 ?_
        refine z_get (C := RX4) (T := TX4) (N := 9) X inX4 hP 26 (by decide) (zcC_26 _ _ _ _ _ _) rfl 1 (by decide) rfl (by decide +kernel) rfl dX6_count_34 ?_
        exact z_iret X hP hS hr hlocks h dX6_count_37
    · have h := zif_t h c2
      refine lv_aload_n hx hb dX6_count_17 rfl (lv_at hl 0 rfl) ?_
      refine z_get (C := RX6) (T := TX6) (N := 12) X inX6 hP 0 (by decide) (zcC_0 _ _ _ _ _ _) rfl 0 (by decide) rfl (by decide +kernel) rfl dX6_count_18 ?_
      refine z_get (C := RX3) (T := TX3) (N := 10) X inX3 hP 1 (by decide) (zcC_1 _ _ _ _ _ _) rfl 4 (by decide) rfl (by decide +kernel) rfl dX6_count_21 ?_
      exact z_iret X hP hS hr hlocks h dX6_count_24
  · have h := zif_t h c1
    refine lv_aload_n hx hb dX6_count_4 rfl (lv_at hl 0 rfl) ?_
    refine z_get (C := RX6) (T := TX6) (N := 12) X inX6 hP 0 (by decide) (zcC_0 _ _ _ _ _ _) rfl 0 (by decide) rfl (by decide +kernel) rfl dX6_count_5 ?_
    refine z_get (C := RX3) (T := TX3) (N := 10) X inX3 hP 1 (by decide) (zcC_1 _ _ _ _ _ _) rfl 0 (by decide) rfl (by decide +kernel) rfl dX6_count_8 ?_
    exact z_iret X hP hS hr hlocks h dX6_count_11
